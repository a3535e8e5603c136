/-! Operations held against instructions, one by one. -/
section
variable {Ev : Nat → Value}
theorem k_71_0 : OkOp mt Ev 71 0 (o_aload 0 1) := ok_aload_n (k := 0) (by decide +kernel) rfl
theorem k_71_1 : OkOp mt Ev 71 1 (o_getf 0 [11]) := ok_getf (i := 12) (rf := "BridgeSentences") (nm := "now") (ds := "LBridgeSentences$World;") (by decide +kernel) fc_37 wd_218
theorem k_71_4 : OkOp mt Ev 71 4 (o_iload 1 1) := ok_iload_n (k := 1) (by decide +kernel) rfl
theorem k_71_5 : OkOp mt Ev 71 5 (o_cv [(10, 51)] 1) := ok_cv (i := 80) (by decide +kernel) vc_112
theorem k_71_8 : OkOp mt Ev 71 8 (o_astore 3 1) := ok_astore_n (k := 3) (by decide +kernel) rfl
theorem k_71_9 : OkOp mt Ev 71 9 (o_aload 3 1) := ok_aload_n (k := 3) (by decide +kernel) rfl
theorem k_71_10 : OkOp mt Ev 71 10 (o_ifnull 20) := ok_ifnull (off := 10) (by decide +kernel) (by decide +kernel)
theorem k_71_13 : OkOp mt Ev 71 13 (o_iload 2 1) := ok_iload_n (k := 2) (by decide +kernel) rfl
theorem k_71_14 : OkOp mt Ev 71 14 (o_cs 101 1) := ok_cs (i := 112) (by decide +kernel) wd_531 wd_532 wd_56 wd_533 nk_20
theorem k_71_17 : OkOp mt Ev 71 17 (o_if1 (fun x => decide (¬ x = 0)) 24) := ok_if_ne (off := 7) (by decide +kernel) (by decide +kernel)
theorem k_71_20 : OkOp mt Ev 71 20 (o_push (.int (-10001)) 3) := ok_sipush (n := -10001) (by decide +kernel) (by decide +kernel)
theorem k_71_23 : OkOp mt Ev 71 23 (o_ret 0) := ok_reti (ty := .int) (by decide +kernel) rfl (Or.inl ⟨rfl, rfl⟩)
theorem k_71_24 : OkOp mt Ev 71 24 (o_aload 0 1) := ok_aload_n (k := 0) (by decide +kernel) rfl
theorem k_71_25 : OkOp mt Ev 71 25 (o_getf 0 [11]) := ok_getf (i := 12) (rf := "BridgeSentences") (nm := "now") (ds := "LBridgeSentences$World;") (by decide +kernel) fc_37 wd_218
theorem k_71_28 : OkOp mt Ev 71 28 (o_aload 3 1) := ok_aload_n (k := 3) (by decide +kernel) rfl
theorem k_71_29 : OkOp mt Ev 71 29 (o_iload 2 1) := ok_iload_n (k := 2) (by decide +kernel) rfl
theorem k_71_30 : OkOp mt Ev 71 30 (o_aload 3 1) := ok_aload_n (k := 3) (by decide +kernel) rfl
theorem k_71_31 : OkOp mt Ev 71 31 (o_getf 3 [1, 2, 3, 4, 5, 6, 8]) := ok_getf (i := 70) (rf := "BridgeSentences$One") (nm := "has") (ds := "I") (by decide +kernel) fc_14 wd_287
theorem k_71_34 : OkOp mt Ev 71 34 (o_cs 195 1) := ok_cs (i := 115) (by decide +kernel) wd_534 wd_404 wd_70 wd_405 nk_13
theorem k_71_37 : OkOp mt Ev 71 37 (o_cv [(10, 57)] 3) := ok_cv (i := 120) (by decide +kernel) vc_117
theorem k_71_40 : OkOp mt Ev 71 40 (o_ret 0) := ok_reti (ty := .int) (by decide +kernel) rfl (Or.inl ⟨rfl, rfl⟩)
theorem kt_71 : ∀ pc o, cd_X11_urge Ev pc = some o → OkOp mt Ev 71 pc o ∧ Gw o := (tN_ok (tN_ok (tN_ok (tN_ok (tL_ok ⟨k_71_0, gw_aload⟩) (tL_ok ⟨k_71_1, gw_getf⟩)) (tN_ok (tL_ok ⟨k_71_4, gw_iload⟩) (tN_ok (tL_ok ⟨k_71_5, gw_cv⟩) (tL_ok ⟨k_71_8, gw_astore⟩)))) (tN_ok (tN_ok (tL_ok ⟨k_71_9, gw_aload⟩) (tL_ok ⟨k_71_10, gw_ifnull⟩)) (tN_ok (tL_ok ⟨k_71_13, gw_iload⟩) (tN_ok (tL_ok ⟨k_71_14, gw_cs⟩) (tL_ok ⟨k_71_17, gw_if1⟩))))) (tN_ok (tN_ok (tN_ok (tL_ok ⟨k_71_20, gw_push⟩) (tL_ok ⟨k_71_23, gw_ret⟩)) (tN_ok (tL_ok ⟨k_71_24, gw_aload⟩) (tN_ok (tL_ok ⟨k_71_25, gw_getf⟩) (tL_ok ⟨k_71_28, gw_aload⟩)))) (tN_ok (tN_ok (tL_ok ⟨k_71_29, gw_iload⟩) (tN_ok (tL_ok ⟨k_71_30, gw_aload⟩) (tL_ok ⟨k_71_31, gw_getf⟩))) (tN_ok (tL_ok ⟨k_71_34, gw_cs⟩) (tN_ok (tL_ok ⟨k_71_37, gw_cv⟩) (tL_ok ⟨k_71_40, gw_ret⟩))))))
theorem k_72_0 : OkOp mt Ev 72 0 (o_aload 0 1) := ok_aload_n (k := 0) (by decide +kernel) rfl
theorem k_72_1 : OkOp mt Ev 72 1 (o_getf 0 [11]) := ok_getf (i := 12) (rf := "BridgeSentences") (nm := "now") (ds := "LBridgeSentences$World;") (by decide +kernel) fc_37 wd_218
theorem k_72_4 : OkOp mt Ev 72 4 (o_iload 1 1) := ok_iload_n (k := 1) (by decide +kernel) rfl
theorem k_72_5 : OkOp mt Ev 72 5 (o_cv [(10, 51)] 1) := ok_cv (i := 80) (by decide +kernel) vc_112
theorem k_72_8 : OkOp mt Ev 72 8 (o_astore 3 1) := ok_astore_n (k := 3) (by decide +kernel) rfl
theorem k_72_9 : OkOp mt Ev 72 9 (o_aload 3 1) := ok_aload_n (k := 3) (by decide +kernel) rfl
theorem k_72_10 : OkOp mt Ev 72 10 (o_ifnonnull 15) := ok_ifnonnull (off := 5) (by decide +kernel) (by decide +kernel)
theorem k_72_13 : OkOp mt Ev 72 13 (o_push (.int (-1)) 1) := ok_iconst (n := -1) (by decide +kernel) (by decide +kernel)
theorem k_72_14 : OkOp mt Ev 72 14 (o_ret 0) := ok_reti (ty := .int) (by decide +kernel) rfl (Or.inl ⟨rfl, rfl⟩)
theorem k_72_15 : OkOp mt Ev 72 15 (o_iload 2 1) := ok_iload_n (k := 2) (by decide +kernel) rfl
theorem k_72_16 : OkOp mt Ev 72 16 (o_cs 102 1) := ok_cs (i := 53) (by decide +kernel) wd_256 wd_257 wd_56 wd_258 nk_18
theorem k_72_19 : OkOp mt Ev 72 19 (o_if1 (fun x => decide (¬ x = 0)) 25) := ok_if_ne (off := 6) (by decide +kernel) (by decide +kernel)
theorem k_72_22 : OkOp mt Ev 72 22 (o_push (.int (-2)) 2) := ok_bipush (n := -2) (by decide +kernel) (by decide +kernel)
theorem k_72_24 : OkOp mt Ev 72 24 (o_ret 0) := ok_reti (ty := .int) (by decide +kernel) rfl (Or.inl ⟨rfl, rfl⟩)
theorem k_72_25 : OkOp mt Ev 72 25 (o_aload 3 1) := ok_aload_n (k := 3) (by decide +kernel) rfl
theorem k_72_26 : OkOp mt Ev 72 26 (o_getf 3 [1, 2, 3, 4, 5, 6, 8]) := ok_getf (i := 70) (rf := "BridgeSentences$One") (nm := "has") (ds := "I") (by decide +kernel) fc_14 wd_287
theorem k_72_29 : OkOp mt Ev 72 29 (o_istore 4 2) := ok_istore (by decide +kernel)
theorem k_72_31 : OkOp mt Ev 72 31 (o_aload 3 1) := ok_aload_n (k := 3) (by decide +kernel) rfl
theorem k_72_32 : OkOp mt Ev 72 32 (o_iload 2 1) := ok_iload_n (k := 2) (by decide +kernel) rfl
theorem k_72_33 : OkOp mt Ev 72 33 (o_putf 3 [1, 2, 3, 4, 5, 6, 8] 0) := ok_putf (i := 70) (rf := "BridgeSentences$One") (nm := "has") (ds := "I") (ty := .int) (fin := false) (by decide +kernel) fc_14 wd_287 (tc_1_2_3_4_5_6_8) ff_43 (by decide) (by decide +kernel) ov_int
theorem k_72_36 : OkOp mt Ev 72 36 (o_iload 4 2) := ok_iload (by decide +kernel)
theorem k_72_38 : OkOp mt Ev 72 38 (o_ret 0) := ok_reti (ty := .int) (by decide +kernel) rfl (Or.inl ⟨rfl, rfl⟩)
theorem kt_72 : ∀ pc o, cd_X11_learn Ev pc = some o → OkOp mt Ev 72 pc o ∧ Gw o := (tN_ok (tN_ok (tN_ok (tN_ok (tL_ok ⟨k_72_0, gw_aload⟩) (tL_ok ⟨k_72_1, gw_getf⟩)) (tN_ok (tL_ok ⟨k_72_4, gw_iload⟩) (tN_ok (tL_ok ⟨k_72_5, gw_cv⟩) (tL_ok ⟨k_72_8, gw_astore⟩)))) (tN_ok (tN_ok (tL_ok ⟨k_72_9, gw_aload⟩) (tN_ok (tL_ok ⟨k_72_10, gw_ifnonnull⟩) (tL_ok ⟨k_72_13, gw_push⟩))) (tN_ok (tL_ok ⟨k_72_14, gw_ret⟩) (tN_ok (tL_ok ⟨k_72_15, gw_iload⟩) (tL_ok ⟨k_72_16, gw_cs⟩))))) (tN_ok (tN_ok (tN_ok (tL_ok ⟨k_72_19, gw_if1⟩) (tL_ok ⟨k_72_22, gw_push⟩)) (tN_ok (tL_ok ⟨k_72_24, gw_ret⟩) (tN_ok (tL_ok ⟨k_72_25, gw_aload⟩) (tL_ok ⟨k_72_26, gw_getf⟩)))) (tN_ok (tN_ok (tL_ok ⟨k_72_29, gw_istore⟩) (tN_ok (tL_ok ⟨k_72_31, gw_aload⟩) (tL_ok ⟨k_72_32, gw_iload⟩))) (tN_ok (tL_ok ⟨k_72_33, gw_putf⟩) (tN_ok (tL_ok ⟨k_72_36, gw_iload⟩) (tL_ok ⟨k_72_38, gw_ret⟩))))))
theorem k_73_0 : OkOp mt Ev 73 0 (o_aload 0 1) := ok_aload_n (k := 0) (by decide +kernel) rfl
theorem k_73_1 : OkOp mt Ev 73 1 (o_getf 0 [11]) := ok_getf (i := 12) (rf := "BridgeSentences") (nm := "now") (ds := "LBridgeSentences$World;") (by decide +kernel) fc_37 wd_218
theorem k_73_4 : OkOp mt Ev 73 4 (o_iload 1 1) := ok_iload_n (k := 1) (by decide +kernel) rfl
theorem k_73_5 : OkOp mt Ev 73 5 (o_cv [(10, 51)] 1) := ok_cv (i := 80) (by decide +kernel) vc_112
theorem k_73_8 : OkOp mt Ev 73 8 (o_astore 3 1) := ok_astore_n (k := 3) (by decide +kernel) rfl
theorem k_73_9 : OkOp mt Ev 73 9 (o_aload 3 1) := ok_aload_n (k := 3) (by decide +kernel) rfl
theorem k_73_10 : OkOp mt Ev 73 10 (o_ifnonnull 15) := ok_ifnonnull (off := 5) (by decide +kernel) (by decide +kernel)
theorem k_73_13 : OkOp mt Ev 73 13 (o_push (.int (-1)) 1) := ok_iconst (n := -1) (by decide +kernel) (by decide +kernel)
theorem k_73_14 : OkOp mt Ev 73 14 (o_ret 0) := ok_reti (ty := .int) (by decide +kernel) rfl (Or.inl ⟨rfl, rfl⟩)
theorem k_73_15 : OkOp mt Ev 73 15 (o_aload 3 1) := ok_aload_n (k := 3) (by decide +kernel) rfl
theorem k_73_16 : OkOp mt Ev 73 16 (o_getf 4 [1, 2, 3, 4, 5, 6, 8]) := ok_getf (i := 87) (rf := "BridgeSentences$One") (nm := "isBeyond") (ds := "Z") (by decide +kernel) fc_15 wd_292
theorem k_73_19 : OkOp mt Ev 73 19 (o_if1 (fun x => decide (x = 0)) 26) := ok_if_eq (off := 7) (by decide +kernel) (by decide +kernel)
theorem k_73_22 : OkOp mt Ev 73 22 (o_push (.int (1)) 1) := ok_iconst (n := 1) (by decide +kernel) (by decide +kernel)
theorem k_73_23 : OkOp mt Ev 73 23 (o_goto 27) := ok_goto (off := 4) (by decide +kernel) (by decide +kernel)
theorem k_73_26 : OkOp mt Ev 73 26 (o_push (.int (0)) 1) := ok_iconst (n := 0) (by decide +kernel) (by decide +kernel)
theorem k_73_27 : OkOp mt Ev 73 27 (o_istore 4 2) := ok_istore (by decide +kernel)
theorem k_73_29 : OkOp mt Ev 73 29 (o_aload 3 1) := ok_aload_n (k := 3) (by decide +kernel) rfl
theorem k_73_30 : OkOp mt Ev 73 30 (o_iload 2 1) := ok_iload_n (k := 2) (by decide +kernel) rfl
theorem k_73_31 : OkOp mt Ev 73 31 (o_putf 4 [1, 2, 3, 4, 5, 6, 8] 1) := ok_putf (i := 87) (rf := "BridgeSentences$One") (nm := "isBeyond") (ds := "Z") (ty := .boolean) (fin := false) (by decide +kernel) fc_15 wd_292 (tc_1_2_3_4_5_6_8) ff_45 (by decide) (by decide +kernel) ov_bool
theorem k_73_34 : OkOp mt Ev 73 34 (o_iload 4 2) := ok_iload (by decide +kernel)
theorem k_73_36 : OkOp mt Ev 73 36 (o_ret 0) := ok_reti (ty := .int) (by decide +kernel) rfl (Or.inl ⟨rfl, rfl⟩)
theorem kt_73 : ∀ pc o, cd_X11_ford Ev pc = some o → OkOp mt Ev 73 pc o ∧ Gw o := (tN_ok (tN_ok (tN_ok (tN_ok (tL_ok ⟨k_73_0, gw_aload⟩) (tL_ok ⟨k_73_1, gw_getf⟩)) (tN_ok (tL_ok ⟨k_73_4, gw_iload⟩) (tN_ok (tL_ok ⟨k_73_5, gw_cv⟩) (tL_ok ⟨k_73_8, gw_astore⟩)))) (tN_ok (tN_ok (tL_ok ⟨k_73_9, gw_aload⟩) (tL_ok ⟨k_73_10, gw_ifnonnull⟩)) (tN_ok (tL_ok ⟨k_73_13, gw_push⟩) (tN_ok (tL_ok ⟨k_73_14, gw_ret⟩) (tL_ok ⟨k_73_15, gw_aload⟩))))) (tN_ok (tN_ok (tN_ok (tL_ok ⟨k_73_16, gw_getf⟩) (tL_ok ⟨k_73_19, gw_if1⟩)) (tN_ok (tL_ok ⟨k_73_22, gw_push⟩) (tN_ok (tL_ok ⟨k_73_23, gw_goto⟩) (tL_ok ⟨k_73_26, gw_push⟩)))) (tN_ok (tN_ok (tL_ok ⟨k_73_27, gw_istore⟩) (tN_ok (tL_ok ⟨k_73_29, gw_aload⟩) (tL_ok ⟨k_73_30, gw_iload⟩))) (tN_ok (tL_ok ⟨k_73_31, gw_putf⟩) (tN_ok (tL_ok ⟨k_73_34, gw_iload⟩) (tL_ok ⟨k_73_36, gw_ret⟩))))))
theorem k_74_0 : OkOp mt Ev 74 0 (o_iload 1 1) := ok_iload_n (k := 1) (by decide +kernel) rfl
theorem k_74_1 : OkOp mt Ev 74 1 (o_cs 101 1) := ok_cs (i := 112) (by decide +kernel) wd_531 wd_532 wd_56 wd_533 nk_20
theorem k_74_4 : OkOp mt Ev 74 4 (o_if1 (fun x => decide (¬ x = 0)) 9) := ok_if_ne (off := 5) (by decide +kernel) (by decide +kernel)
theorem k_74_7 : OkOp mt Ev 74 7 (o_push (.int (-1)) 1) := ok_iconst (n := -1) (by decide +kernel) (by decide +kernel)
theorem k_74_8 : OkOp mt Ev 74 8 (o_ret 0) := ok_reti (ty := .int) (by decide +kernel) rfl (Or.inl ⟨rfl, rfl⟩)
theorem k_74_9 : OkOp mt Ev 74 9 (o_iload 2 1) := ok_iload_n (k := 2) (by decide +kernel) rfl
theorem k_74_10 : OkOp mt Ev 74 10 (o_cs 103 1) := ok_cs (i := 124) (by decide +kernel) wd_548 wd_549 wd_56 wd_550 nk_21
theorem k_74_13 : OkOp mt Ev 74 13 (o_if1 (fun x => decide (¬ x = 0)) 19) := ok_if_ne (off := 6) (by decide +kernel) (by decide +kernel)
theorem k_74_16 : OkOp mt Ev 74 16 (o_push (.int (-2)) 2) := ok_bipush (n := -2) (by decide +kernel) (by decide +kernel)
theorem k_74_18 : OkOp mt Ev 74 18 (o_ret 0) := ok_reti (ty := .int) (by decide +kernel) rfl (Or.inl ⟨rfl, rfl⟩)
theorem k_74_19 : OkOp mt Ev 74 19 (o_aload 0 1) := ok_aload_n (k := 0) (by decide +kernel) rfl
theorem k_74_20 : OkOp mt Ev 74 20 (o_getf 0 [11]) := ok_getf (i := 12) (rf := "BridgeSentences") (nm := "now") (ds := "LBridgeSentences$World;") (by decide +kernel) fc_37 wd_218
theorem k_74_23 : OkOp mt Ev 74 23 (o_getf 0 [10]) := ok_getf (i := 127) (rf := "BridgeSentences$World") (nm := "worths") (ds := "[I") (by decide +kernel) fc_26 wd_120
theorem k_74_26 : OkOp mt Ev 74 26 (o_iload 1 1) := ok_iload_n (k := 1) (by decide +kernel) rfl
theorem k_74_27 : OkOp mt Ev 74 27 (o_iald 2) := ok_iald (by decide +kernel)
theorem k_74_28 : OkOp mt Ev 74 28 (o_istore 3 1) := ok_istore_n (k := 3) (by decide +kernel) rfl
theorem k_74_29 : OkOp mt Ev 74 29 (o_aload 0 1) := ok_aload_n (k := 0) (by decide +kernel) rfl
theorem k_74_30 : OkOp mt Ev 74 30 (o_getf 0 [11]) := ok_getf (i := 12) (rf := "BridgeSentences") (nm := "now") (ds := "LBridgeSentences$World;") (by decide +kernel) fc_37 wd_218
theorem k_74_33 : OkOp mt Ev 74 33 (o_getf 0 [10]) := ok_getf (i := 127) (rf := "BridgeSentences$World") (nm := "worths") (ds := "[I") (by decide +kernel) fc_26 wd_120
theorem k_74_36 : OkOp mt Ev 74 36 (o_iload 1 1) := ok_iload_n (k := 1) (by decide +kernel) rfl
theorem k_74_37 : OkOp mt Ev 74 37 (o_iload 2 1) := ok_iload_n (k := 2) (by decide +kernel) rfl
theorem k_74_38 : OkOp mt Ev 74 38 (o_iast 2 (fun x => x)) := ok_iast (by decide +kernel)
theorem k_74_39 : OkOp mt Ev 74 39 (o_iload 3 1) := ok_iload_n (k := 3) (by decide +kernel) rfl
theorem k_74_40 : OkOp mt Ev 74 40 (o_ret 0) := ok_reti (ty := .int) (by decide +kernel) rfl (Or.inl ⟨rfl, rfl⟩)
theorem kt_74 : ∀ pc o, cd_X11_worth Ev pc = some o → OkOp mt Ev 74 pc o ∧ Gw o := (tN_ok (tN_ok (tN_ok (tN_ok (tL_ok ⟨k_74_0, gw_iload⟩) (tN_ok (tL_ok ⟨k_74_1, gw_cs⟩) (tL_ok ⟨k_74_4, gw_if1⟩))) (tN_ok (tL_ok ⟨k_74_7, gw_push⟩) (tN_ok (tL_ok ⟨k_74_8, gw_ret⟩) (tL_ok ⟨k_74_9, gw_iload⟩)))) (tN_ok (tN_ok (tL_ok ⟨k_74_10, gw_cs⟩) (tN_ok (tL_ok ⟨k_74_13, gw_if1⟩) (tL_ok ⟨k_74_16, gw_push⟩))) (tN_ok (tL_ok ⟨k_74_18, gw_ret⟩) (tN_ok (tL_ok ⟨k_74_19, gw_aload⟩) (tL_ok ⟨k_74_20, gw_getf⟩))))) (tN_ok (tN_ok (tN_ok (tL_ok ⟨k_74_23, gw_getf⟩) (tN_ok (tL_ok ⟨k_74_26, gw_iload⟩) (tL_ok ⟨k_74_27, gw_iald⟩))) (tN_ok (tL_ok ⟨k_74_28, gw_istore⟩) (tN_ok (tL_ok ⟨k_74_29, gw_aload⟩) (tL_ok ⟨k_74_30, gw_getf⟩)))) (tN_ok (tN_ok (tL_ok ⟨k_74_33, gw_getf⟩) (tN_ok (tL_ok ⟨k_74_36, gw_iload⟩) (tL_ok ⟨k_74_37, gw_iload⟩))) (tN_ok (tL_ok ⟨k_74_38, gw_iast⟩) (tN_ok (tL_ok ⟨k_74_39, gw_iload⟩) (tL_ok ⟨k_74_40, gw_ret⟩))))))
theorem k_75_0 : OkOp mt Ev 75 0 (o_aload 0 1) := ok_aload_n (k := 0) (by decide +kernel) rfl
theorem k_75_1 : OkOp mt Ev 75 1 (o_getf 0 [11]) := ok_getf (i := 12) (rf := "BridgeSentences") (nm := "now") (ds := "LBridgeSentences$World;") (by decide +kernel) fc_37 wd_218
theorem k_75_4 : OkOp mt Ev 75 4 (o_iload 1 1) := ok_iload_n (k := 1) (by decide +kernel) rfl
theorem k_75_5 : OkOp mt Ev 75 5 (o_cv [(10, 51)] 1) := ok_cv (i := 80) (by decide +kernel) vc_112
theorem k_75_8 : OkOp mt Ev 75 8 (o_astore 4 2) := ok_astore (by decide +kernel)
theorem k_75_10 : OkOp mt Ev 75 10 (o_aload 4 2) := ok_aload (by decide +kernel)
theorem k_75_12 : OkOp mt Ev 75 12 (o_ifnull 24) := ok_ifnull (off := 12) (by decide +kernel) (by decide +kernel)
theorem k_75_15 : OkOp mt Ev 75 15 (o_iload 2 1) := ok_iload_n (k := 2) (by decide +kernel) rfl
theorem k_75_16 : OkOp mt Ev 75 16 (o_if1 (fun x => decide (x < 0)) 24) := ok_if_lt (off := 8) (by decide +kernel) (by decide +kernel)
theorem k_75_19 : OkOp mt Ev 75 19 (o_iload 2 1) := ok_iload_n (k := 2) (by decide +kernel) rfl
theorem k_75_20 : OkOp mt Ev 75 20 (o_push (.int (4)) 1) := ok_iconst (n := 4) (by decide +kernel) (by decide +kernel)
theorem k_75_21 : OkOp mt Ev 75 21 (o_if2 (fun x y => decide (x < y)) 26) := ok_icmp_lt (off := 5) (by decide +kernel) (by decide +kernel)
theorem k_75_24 : OkOp mt Ev 75 24 (o_push (.int (-1)) 1) := ok_iconst (n := -1) (by decide +kernel) (by decide +kernel)
theorem k_75_25 : OkOp mt Ev 75 25 (o_ret 0) := ok_reti (ty := .int) (by decide +kernel) rfl (Or.inl ⟨rfl, rfl⟩)
theorem k_75_26 : OkOp mt Ev 75 26 (o_iload 3 1) := ok_iload_n (k := 3) (by decide +kernel) rfl
theorem k_75_27 : OkOp mt Ev 75 27 (o_if1 (fun x => decide (x < 0)) 36) := ok_if_lt (off := 9) (by decide +kernel) (by decide +kernel)
theorem k_75_30 : OkOp mt Ev 75 30 (o_iload 3 1) := ok_iload_n (k := 3) (by decide +kernel) rfl
theorem k_75_31 : OkOp mt Ev 75 31 (o_push (.int (9)) 2) := ok_bipush (n := 9) (by decide +kernel) (by decide +kernel)
theorem k_75_33 : OkOp mt Ev 75 33 (o_if2 (fun x y => decide (x ≤ y)) 39) := ok_icmp_le (off := 6) (by decide +kernel) (by decide +kernel)
theorem k_75_36 : OkOp mt Ev 75 36 (o_push (.int (-2)) 2) := ok_bipush (n := -2) (by decide +kernel) (by decide +kernel)
theorem k_75_38 : OkOp mt Ev 75 38 (o_ret 0) := ok_reti (ty := .int) (by decide +kernel) rfl (Or.inl ⟨rfl, rfl⟩)
theorem k_75_39 : OkOp mt Ev 75 39 (o_aload 4 2) := ok_aload (by decide +kernel)
theorem k_75_41 : OkOp mt Ev 75 41 (o_inst [8] [1, 2, 3, 4, 5, 6]) := ok_inst (i := 130) (E := RX8) (by decide +kernel) wd_364 as_told nc_told
theorem k_75_44 : OkOp mt Ev 75 44 (o_if1 (fun x => decide (x = 0)) 74) := ok_if_eq (off := 30) (by decide +kernel) (by decide +kernel)
theorem k_75_47 : OkOp mt Ev 75 47 (o_aload 4 2) := ok_aload (by decide +kernel)
theorem k_75_49 : OkOp mt Ev 75 49 (o_cast [8]) := ok_cast2 (i := 130) (E := RX8) (by decide +kernel) wd_364 as_told
theorem k_75_52 : OkOp mt Ev 75 52 (o_astore 5 2) := ok_astore (by decide +kernel)
theorem k_75_54 : OkOp mt Ev 75 54 (o_aload 5 2) := ok_aload (by decide +kernel)
theorem k_75_56 : OkOp mt Ev 75 56 (o_getf 6 [8]) := ok_getf (i := 132) (rf := "BridgeSentences$Told") (nm := "more") (ds := "[I") (by decide +kernel) fc_22 wd_371
theorem k_75_59 : OkOp mt Ev 75 59 (o_iload 2 1) := ok_iload_n (k := 2) (by decide +kernel) rfl
theorem k_75_60 : OkOp mt Ev 75 60 (o_iald 2) := ok_iald (by decide +kernel)
theorem k_75_61 : OkOp mt Ev 75 61 (o_istore 6 2) := ok_istore (by decide +kernel)
theorem k_75_63 : OkOp mt Ev 75 63 (o_aload 5 2) := ok_aload (by decide +kernel)
theorem k_75_65 : OkOp mt Ev 75 65 (o_getf 6 [8]) := ok_getf (i := 132) (rf := "BridgeSentences$Told") (nm := "more") (ds := "[I") (by decide +kernel) fc_22 wd_371
theorem k_75_68 : OkOp mt Ev 75 68 (o_iload 2 1) := ok_iload_n (k := 2) (by decide +kernel) rfl
theorem k_75_69 : OkOp mt Ev 75 69 (o_iload 3 1) := ok_iload_n (k := 3) (by decide +kernel) rfl
theorem k_75_70 : OkOp mt Ev 75 70 (o_iast 2 (fun x => x)) := ok_iast (by decide +kernel)
theorem k_75_71 : OkOp mt Ev 75 71 (o_iload 6 2) := ok_iload (by decide +kernel)
theorem k_75_73 : OkOp mt Ev 75 73 (o_ret 0) := ok_reti (ty := .int) (by decide +kernel) rfl (Or.inl ⟨rfl, rfl⟩)
theorem k_75_74 : OkOp mt Ev 75 74 (o_push (.int (-3)) 2) := ok_bipush (n := -3) (by decide +kernel) (by decide +kernel)
theorem k_75_76 : OkOp mt Ev 75 76 (o_ret 0) := ok_reti (ty := .int) (by decide +kernel) rfl (Or.inl ⟨rfl, rfl⟩)
theorem kt_75 : ∀ pc o, cd_X11_row Ev pc = some o → OkOp mt Ev 75 pc o ∧ Gw o := (tN_ok (tN_ok (tN_ok (tN_ok (tN_ok (tL_ok ⟨k_75_0, gw_aload⟩) (tL_ok ⟨k_75_1, gw_getf⟩)) (tN_ok (tL_ok ⟨k_75_4, gw_iload⟩) (tN_ok (tL_ok ⟨k_75_5, gw_cv⟩) (tL_ok ⟨k_75_8, gw_astore⟩)))) (tN_ok (tN_ok (tL_ok ⟨k_75_10, gw_aload⟩) (tL_ok ⟨k_75_12, gw_ifnull⟩)) (tN_ok (tL_ok ⟨k_75_15, gw_iload⟩) (tN_ok (tL_ok ⟨k_75_16, gw_if1⟩) (tL_ok ⟨k_75_19, gw_iload⟩))))) (tN_ok (tN_ok (tN_ok (tL_ok ⟨k_75_20, gw_push⟩) (tL_ok ⟨k_75_21, gw_if2⟩)) (tN_ok (tL_ok ⟨k_75_24, gw_push⟩) (tN_ok (tL_ok ⟨k_75_25, gw_ret⟩) (tL_ok ⟨k_75_26, gw_iload⟩)))) (tN_ok (tN_ok (tL_ok ⟨k_75_27, gw_if1⟩) (tL_ok ⟨k_75_30, gw_iload⟩)) (tN_ok (tL_ok ⟨k_75_31, gw_push⟩) (tN_ok (tL_ok ⟨k_75_33, gw_if2⟩) (tL_ok ⟨k_75_36, gw_push⟩)))))) (tN_ok (tN_ok (tN_ok (tN_ok (tL_ok ⟨k_75_38, gw_ret⟩) (tL_ok ⟨k_75_39, gw_aload⟩)) (tN_ok (tL_ok ⟨k_75_41, gw_inst⟩) (tN_ok (tL_ok ⟨k_75_44, gw_if1⟩) (tL_ok ⟨k_75_47, gw_aload⟩)))) (tN_ok (tN_ok (tL_ok ⟨k_75_49, gw_cast⟩) (tL_ok ⟨k_75_52, gw_astore⟩)) (tN_ok (tL_ok ⟨k_75_54, gw_aload⟩) (tN_ok (tL_ok ⟨k_75_56, gw_getf⟩) (tL_ok ⟨k_75_59, gw_iload⟩))))) (tN_ok (tN_ok (tN_ok (tL_ok ⟨k_75_60, gw_iald⟩) (tL_ok ⟨k_75_61, gw_istore⟩)) (tN_ok (tL_ok ⟨k_75_63, gw_aload⟩) (tN_ok (tL_ok ⟨k_75_65, gw_getf⟩) (tL_ok ⟨k_75_68, gw_iload⟩)))) (tN_ok (tN_ok (tL_ok ⟨k_75_69, gw_iload⟩) (tN_ok (tL_ok ⟨k_75_70, gw_iast⟩) (tL_ok ⟨k_75_71, gw_iload⟩))) (tN_ok (tL_ok ⟨k_75_73, gw_ret⟩) (tN_ok (tL_ok ⟨k_75_74, gw_push⟩) (tL_ok ⟨k_75_76, gw_ret⟩)))))))
theorem k_76_0 : OkOp mt Ev 76 0 (o_iload 1 1) := ok_iload_n (k := 1) (by decide +kernel) rfl
theorem k_76_1 : OkOp mt Ev 76 1 (o_if1 (fun x => decide (x < 0)) 10) := ok_if_lt (off := 9) (by decide +kernel) (by decide +kernel)
theorem k_76_4 : OkOp mt Ev 76 4 (o_iload 1 1) := ok_iload_n (k := 1) (by decide +kernel) rfl
theorem k_76_5 : OkOp mt Ev 76 5 (o_push (.int (127)) 2) := ok_bipush (n := 127) (by decide +kernel) (by decide +kernel)
theorem k_76_7 : OkOp mt Ev 76 7 (o_if2 (fun x y => decide (x ≤ y)) 13) := ok_icmp_le (off := 6) (by decide +kernel) (by decide +kernel)
theorem k_76_10 : OkOp mt Ev 76 10 (o_push (.int (-2)) 2) := ok_bipush (n := -2) (by decide +kernel) (by decide +kernel)
theorem k_76_12 : OkOp mt Ev 76 12 (o_ret 0) := ok_reti (ty := .int) (by decide +kernel) rfl (Or.inl ⟨rfl, rfl⟩)
theorem k_76_13 : OkOp mt Ev 76 13 (o_aload 0 1) := ok_aload_n (k := 0) (by decide +kernel) rfl
theorem k_76_14 : OkOp mt Ev 76 14 (o_getf 4 [11]) := ok_getf (i := 27) (rf := "BridgeSentences") (nm := "next") (ds := "LBridgeSentences$Bridge;") (by decide +kernel) fc_40 wd_222
theorem k_76_17 : OkOp mt Ev 76 17 (o_getf 1 [0]) := ok_getf (i := 135) (rf := "BridgeSentences$Bridge") (nm := "length") (ds := "I") (by decide +kernel) fc_4 wd_172
theorem k_76_20 : OkOp mt Ev 76 20 (o_push (.int (100)) 2) := ok_bipush (n := 100) (by decide +kernel) (by decide +kernel)
theorem k_76_22 : OkOp mt Ev 76 22 (o_if2 (fun x y => decide (x < y)) 28) := ok_icmp_lt (off := 6) (by decide +kernel) (by decide +kernel)
theorem k_76_25 : OkOp mt Ev 76 25 (o_push (.int (-4)) 2) := ok_bipush (n := -4) (by decide +kernel) (by decide +kernel)
theorem k_76_27 : OkOp mt Ev 76 27 (o_ret 0) := ok_reti (ty := .int) (by decide +kernel) rfl (Or.inl ⟨rfl, rfl⟩)
theorem k_76_28 : OkOp mt Ev 76 28 (o_aload 0 1) := ok_aload_n (k := 0) (by decide +kernel) rfl
theorem k_76_29 : OkOp mt Ev 76 29 (o_getf 4 [11]) := ok_getf (i := 27) (rf := "BridgeSentences") (nm := "next") (ds := "LBridgeSentences$Bridge;") (by decide +kernel) fc_40 wd_222
theorem k_76_32 : OkOp mt Ev 76 32 (o_getf 0 [0]) := ok_getf (i := 138) (rf := "BridgeSentences$Bridge") (nm := "text") (ds := "[B") (by decide +kernel) fc_0 wd_170
theorem k_76_35 : OkOp mt Ev 76 35 (o_aload 0 1) := ok_aload_n (k := 0) (by decide +kernel) rfl
theorem k_76_36 : OkOp mt Ev 76 36 (o_getf 4 [11]) := ok_getf (i := 27) (rf := "BridgeSentences") (nm := "next") (ds := "LBridgeSentences$Bridge;") (by decide +kernel) fc_40 wd_222
theorem k_76_39 : OkOp mt Ev 76 39 (o_getf 1 [0]) := ok_getf (i := 135) (rf := "BridgeSentences$Bridge") (nm := "length") (ds := "I") (by decide +kernel) fc_4 wd_172
theorem k_76_42 : OkOp mt Ev 76 42 (o_iload 1 1) := ok_iload_n (k := 1) (by decide +kernel) rfl
theorem k_76_43 : OkOp mt Ev 76 43 (o_iu (fun x => x.toInt8.toInt32)) := ok_i2b (by decide +kernel)
theorem k_76_44 : OkOp mt Ev 76 44 (o_iast 0 (fun x => vp_nar .byte x)) := ok_bast (by decide +kernel)
theorem k_76_45 : OkOp mt Ev 76 45 (o_aload 0 1) := ok_aload_n (k := 0) (by decide +kernel) rfl
theorem k_76_46 : OkOp mt Ev 76 46 (o_getf 4 [11]) := ok_getf (i := 27) (rf := "BridgeSentences") (nm := "next") (ds := "LBridgeSentences$Bridge;") (by decide +kernel) fc_40 wd_222
theorem k_76_49 : OkOp mt Ev 76 49 (o_dup) := ok_dup (by decide +kernel)
theorem k_76_50 : OkOp mt Ev 76 50 (o_getf 1 [0]) := ok_getf (i := 135) (rf := "BridgeSentences$Bridge") (nm := "length") (ds := "I") (by decide +kernel) fc_4 wd_172
theorem k_76_53 : OkOp mt Ev 76 53 (o_push (.int (1)) 1) := ok_iconst (n := 1) (by decide +kernel) (by decide +kernel)
theorem k_76_54 : OkOp mt Ev 76 54 (o_ib (fun x y => x + y)) := ok_iadd (by decide +kernel)
theorem k_76_55 : OkOp mt Ev 76 55 (o_putf 1 [0] 0) := ok_putf (i := 135) (rf := "BridgeSentences$Bridge") (nm := "length") (ds := "I") (ty := .int) (fin := false) (by decide +kernel) fc_4 wd_172 (tc_0) ff_46 (by decide) (by decide +kernel) ov_int
theorem k_76_58 : OkOp mt Ev 76 58 (o_aload 0 1) := ok_aload_n (k := 0) (by decide +kernel) rfl
theorem k_76_59 : OkOp mt Ev 76 59 (o_getf 4 [11]) := ok_getf (i := 27) (rf := "BridgeSentences") (nm := "next") (ds := "LBridgeSentences$Bridge;") (by decide +kernel) fc_40 wd_222
theorem k_76_62 : OkOp mt Ev 76 62 (o_getf 1 [0]) := ok_getf (i := 135) (rf := "BridgeSentences$Bridge") (nm := "length") (ds := "I") (by decide +kernel) fc_4 wd_172
theorem k_76_65 : OkOp mt Ev 76 65 (o_ret 0) := ok_reti (ty := .int) (by decide +kernel) rfl (Or.inl ⟨rfl, rfl⟩)
theorem kt_76 : ∀ pc o, cd_X11_feed Ev pc = some o → OkOp mt Ev 76 pc o ∧ Gw o := (tN_ok (tN_ok (tN_ok (tN_ok (tN_ok (tL_ok ⟨k_76_0, gw_iload⟩) (tL_ok ⟨k_76_1, gw_if1⟩)) (tN_ok (tL_ok ⟨k_76_4, gw_iload⟩) (tL_ok ⟨k_76_5, gw_push⟩))) (tN_ok (tN_ok (tL_ok ⟨k_76_7, gw_if2⟩) (tL_ok ⟨k_76_10, gw_push⟩)) (tN_ok (tL_ok ⟨k_76_12, gw_ret⟩) (tL_ok ⟨k_76_13, gw_aload⟩)))) (tN_ok (tN_ok (tN_ok (tL_ok ⟨k_76_14, gw_getf⟩) (tL_ok ⟨k_76_17, gw_getf⟩)) (tN_ok (tL_ok ⟨k_76_20, gw_push⟩) (tL_ok ⟨k_76_22, gw_if2⟩))) (tN_ok (tN_ok (tL_ok ⟨k_76_25, gw_push⟩) (tL_ok ⟨k_76_27, gw_ret⟩)) (tN_ok (tL_ok ⟨k_76_28, gw_aload⟩) (tN_ok (tL_ok ⟨k_76_29, gw_getf⟩) (tL_ok ⟨k_76_32, gw_getf⟩)))))) (tN_ok (tN_ok (tN_ok (tN_ok (tL_ok ⟨k_76_35, gw_aload⟩) (tL_ok ⟨k_76_36, gw_getf⟩)) (tN_ok (tL_ok ⟨k_76_39, gw_getf⟩) (tL_ok ⟨k_76_42, gw_iload⟩))) (tN_ok (tN_ok (tL_ok ⟨k_76_43, gw_iu⟩) (tL_ok ⟨k_76_44, gw_iast⟩)) (tN_ok (tL_ok ⟨k_76_45, gw_aload⟩) (tL_ok ⟨k_76_46, gw_getf⟩)))) (tN_ok (tN_ok (tN_ok (tL_ok ⟨k_76_49, gw_dup⟩) (tL_ok ⟨k_76_50, gw_getf⟩)) (tN_ok (tL_ok ⟨k_76_53, gw_push⟩) (tL_ok ⟨k_76_54, gw_ib⟩))) (tN_ok (tN_ok (tL_ok ⟨k_76_55, gw_putf⟩) (tL_ok ⟨k_76_58, gw_aload⟩)) (tN_ok (tL_ok ⟨k_76_59, gw_getf⟩) (tN_ok (tL_ok ⟨k_76_62, gw_getf⟩) (tL_ok ⟨k_76_65, gw_ret⟩)))))))
theorem k_77_0 : OkOp mt Ev 77 0 (o_aload 0 1) := ok_aload_n (k := 0) (by decide +kernel) rfl
theorem k_77_1 : OkOp mt Ev 77 1 (o_getf 5 [11]) := ok_getf (i := 142) (rf := "BridgeSentences") (nm := "bridges") (ds := "I") (by decide +kernel) fc_45 wd_223
theorem k_77_4 : OkOp mt Ev 77 4 (o_push (.int (6)) 2) := ok_bipush (n := 6) (by decide +kernel) (by decide +kernel)
theorem k_77_6 : OkOp mt Ev 77 6 (o_if2 (fun x y => decide (x < y)) 12) := ok_icmp_lt (off := 6) (by decide +kernel) (by decide +kernel)
theorem k_77_9 : OkOp mt Ev 77 9 (o_push (.int (-4)) 2) := ok_bipush (n := -4) (by decide +kernel) (by decide +kernel)
theorem k_77_11 : OkOp mt Ev 77 11 (o_ret 0) := ok_reti (ty := .int) (by decide +kernel) rfl (Or.inl ⟨rfl, rfl⟩)
theorem k_77_12 : OkOp mt Ev 77 12 (o_aload 0 1) := ok_aload_n (k := 0) (by decide +kernel) rfl
theorem k_77_13 : OkOp mt Ev 77 13 (o_getf 4 [11]) := ok_getf (i := 27) (rf := "BridgeSentences") (nm := "next") (ds := "LBridgeSentences$Bridge;") (by decide +kernel) fc_40 wd_222
theorem k_77_16 : OkOp mt Ev 77 16 (o_cv [(0, 2)] 0) := ok_cv (i := 145) (by decide +kernel) vc_118
theorem k_77_19 : OkOp mt Ev 77 19 (o_istore 1 1) := ok_istore_n (k := 1) (by decide +kernel) rfl
theorem k_77_20 : OkOp mt Ev 77 20 (o_iload 1 1) := ok_iload_n (k := 1) (by decide +kernel) rfl
theorem k_77_21 : OkOp mt Ev 77 21 (o_if1 (fun x => decide (x < 0)) 37) := ok_if_lt (off := 16) (by decide +kernel) (by decide +kernel)
theorem k_77_24 : OkOp mt Ev 77 24 (o_aload 0 1) := ok_aload_n (k := 0) (by decide +kernel) rfl
theorem k_77_25 : OkOp mt Ev 77 25 (o_getf 4 [11]) := ok_getf (i := 27) (rf := "BridgeSentences") (nm := "next") (ds := "LBridgeSentences$Bridge;") (by decide +kernel) fc_40 wd_222
theorem k_77_28 : OkOp mt Ev 77 28 (o_push (.int (0)) 1) := ok_iconst (n := 0) (by decide +kernel) (by decide +kernel)
theorem k_77_29 : OkOp mt Ev 77 29 (o_putf 1 [0] 0) := ok_putf (i := 135) (rf := "BridgeSentences$Bridge") (nm := "length") (ds := "I") (ty := .int) (fin := false) (by decide +kernel) fc_4 wd_172 (tc_0) ff_46 (by decide) (by decide +kernel) ov_int
theorem k_77_32 : OkOp mt Ev 77 32 (o_push (.int (-10)) 2) := ok_bipush (n := -10) (by decide +kernel) (by decide +kernel)
theorem k_77_34 : OkOp mt Ev 77 34 (o_iload 1 1) := ok_iload_n (k := 1) (by decide +kernel) rfl
theorem k_77_35 : OkOp mt Ev 77 35 (o_ib (fun x y => x - y)) := ok_isub (by decide +kernel)
theorem k_77_36 : OkOp mt Ev 77 36 (o_ret 0) := ok_reti (ty := .int) (by decide +kernel) rfl (Or.inl ⟨rfl, rfl⟩)
theorem k_77_37 : OkOp mt Ev 77 37 (o_aload 0 1) := ok_aload_n (k := 0) (by decide +kernel) rfl
theorem k_77_38 : OkOp mt Ev 77 38 (o_getf 0 [11]) := ok_getf (i := 12) (rf := "BridgeSentences") (nm := "now") (ds := "LBridgeSentences$World;") (by decide +kernel) fc_37 wd_218
theorem k_77_41 : OkOp mt Ev 77 41 (o_aload 0 1) := ok_aload_n (k := 0) (by decide +kernel) rfl
theorem k_77_42 : OkOp mt Ev 77 42 (o_getf 4 [11]) := ok_getf (i := 27) (rf := "BridgeSentences") (nm := "next") (ds := "LBridgeSentences$Bridge;") (by decide +kernel) fc_40 wd_222
theorem k_77_45 : OkOp mt Ev 77 45 (o_putf 9 [10] 2) := ok_putf (i := 149) (rf := "BridgeSentences$World") (nm := "held") (ds := "LBridgeSentences$Bridge;") (ty := (.object "BridgeSentences$Bridge")) (fin := false) (by decide +kernel) fc_36 wd_138 (tc_10) ff_47 (by decide) (by decide +kernel) (ov_obj "BridgeSentences$Bridge")
theorem k_77_48 : OkOp mt Ev 77 48 (o_aload 0 1) := ok_aload_n (k := 0) (by decide +kernel) rfl
theorem k_77_49 : OkOp mt Ev 77 49 (o_new 0 [.null, .int 0, .int 0, .null, .int 0, .null, .null, .int 0, .int 0]) := ok_new (i := 24) (K := RX0) (T := TX0) (N := 9) (ty := tyX0) (by decide +kernel) rfl ci_0 tyX0_ok df_0 rfl wd_163 wd_164 wd_60
theorem k_77_52 : OkOp mt Ev 77 52 (o_dup) := ok_dup (by decide +kernel)
theorem k_77_53 : OkOp mt Ev 77 53 (o_ci 1 0) := ok_ciN (i := 26) (host := "BridgeSentences") (by decide +kernel) ws_165 wd_166 wd_60 wd_167 nk_16 rfl rfl
theorem k_77_56 : OkOp mt Ev 77 56 (o_putf 4 [11] 2) := ok_putf (i := 27) (rf := "BridgeSentences") (nm := "next") (ds := "LBridgeSentences$Bridge;") (ty := (.object "BridgeSentences$Bridge")) (fin := false) (by decide +kernel) fc_40 wd_222 (tc_11) ff_37 (by decide) (by decide +kernel) (ov_obj "BridgeSentences$Bridge")
theorem k_77_59 : OkOp mt Ev 77 59 (o_aload 0 1) := ok_aload_n (k := 0) (by decide +kernel) rfl
theorem k_77_60 : OkOp mt Ev 77 60 (o_dup) := ok_dup (by decide +kernel)
theorem k_77_61 : OkOp mt Ev 77 61 (o_getf 5 [11]) := ok_getf (i := 142) (rf := "BridgeSentences") (nm := "bridges") (ds := "I") (by decide +kernel) fc_45 wd_223
theorem k_77_64 : OkOp mt Ev 77 64 (o_push (.int (1)) 1) := ok_iconst (n := 1) (by decide +kernel) (by decide +kernel)
theorem k_77_65 : OkOp mt Ev 77 65 (o_ib (fun x y => x + y)) := ok_iadd (by decide +kernel)
theorem k_77_66 : OkOp mt Ev 77 66 (o_putf 5 [11] 0) := ok_putf (i := 142) (rf := "BridgeSentences") (nm := "bridges") (ds := "I") (ty := .int) (fin := false) (by decide +kernel) fc_45 wd_223 (tc_11) ff_48 (by decide) (by decide +kernel) ov_int
theorem k_77_69 : OkOp mt Ev 77 69 (o_aload 0 1) := ok_aload_n (k := 0) (by decide +kernel) rfl
theorem k_77_70 : OkOp mt Ev 77 70 (o_getf 5 [11]) := ok_getf (i := 142) (rf := "BridgeSentences") (nm := "bridges") (ds := "I") (by decide +kernel) fc_45 wd_223
theorem k_77_73 : OkOp mt Ev 77 73 (o_push (.int (1)) 1) := ok_iconst (n := 1) (by decide +kernel) (by decide +kernel)
theorem k_77_74 : OkOp mt Ev 77 74 (o_ib (fun x y => x - y)) := ok_isub (by decide +kernel)
theorem k_77_75 : OkOp mt Ev 77 75 (o_ret 0) := ok_reti (ty := .int) (by decide +kernel) rfl (Or.inl ⟨rfl, rfl⟩)
theorem kt_77 : ∀ pc o, cd_X11_bridge Ev pc = some o → OkOp mt Ev 77 pc o ∧ Gw o := (tN_ok (tN_ok (tN_ok (tN_ok (tN_ok (tL_ok ⟨k_77_0, gw_aload⟩) (tL_ok ⟨k_77_1, gw_getf⟩)) (tN_ok (tL_ok ⟨k_77_4, gw_push⟩) (tN_ok (tL_ok ⟨k_77_6, gw_if2⟩) (tL_ok ⟨k_77_9, gw_push⟩)))) (tN_ok (tN_ok (tL_ok ⟨k_77_11, gw_ret⟩) (tL_ok ⟨k_77_12, gw_aload⟩)) (tN_ok (tL_ok ⟨k_77_13, gw_getf⟩) (tN_ok (tL_ok ⟨k_77_16, gw_cv⟩) (tL_ok ⟨k_77_19, gw_istore⟩))))) (tN_ok (tN_ok (tN_ok (tL_ok ⟨k_77_20, gw_iload⟩) (tL_ok ⟨k_77_21, gw_if1⟩)) (tN_ok (tL_ok ⟨k_77_24, gw_aload⟩) (tN_ok (tL_ok ⟨k_77_25, gw_getf⟩) (tL_ok ⟨k_77_28, gw_push⟩)))) (tN_ok (tN_ok (tL_ok ⟨k_77_29, gw_putf⟩) (tL_ok ⟨k_77_32, gw_push⟩)) (tN_ok (tL_ok ⟨k_77_34, gw_iload⟩) (tN_ok (tL_ok ⟨k_77_35, gw_ib⟩) (tL_ok ⟨k_77_36, gw_ret⟩)))))) (tN_ok (tN_ok (tN_ok (tN_ok (tL_ok ⟨k_77_37, gw_aload⟩) (tL_ok ⟨k_77_38, gw_getf⟩)) (tN_ok (tL_ok ⟨k_77_41, gw_aload⟩) (tN_ok (tL_ok ⟨k_77_42, gw_getf⟩) (tL_ok ⟨k_77_45, gw_putf⟩)))) (tN_ok (tN_ok (tL_ok ⟨k_77_48, gw_aload⟩) (tL_ok ⟨k_77_49, gw_new⟩)) (tN_ok (tL_ok ⟨k_77_52, gw_dup⟩) (tN_ok (tL_ok ⟨k_77_53, gw_ci⟩) (tL_ok ⟨k_77_56, gw_putf⟩))))) (tN_ok (tN_ok (tN_ok (tL_ok ⟨k_77_59, gw_aload⟩) (tL_ok ⟨k_77_60, gw_dup⟩)) (tN_ok (tL_ok ⟨k_77_61, gw_getf⟩) (tN_ok (tL_ok ⟨k_77_64, gw_push⟩) (tL_ok ⟨k_77_65, gw_ib⟩)))) (tN_ok (tN_ok (tL_ok ⟨k_77_66, gw_putf⟩) (tN_ok (tL_ok ⟨k_77_69, gw_aload⟩) (tL_ok ⟨k_77_70, gw_getf⟩))) (tN_ok (tL_ok ⟨k_77_73, gw_push⟩) (tN_ok (tL_ok ⟨k_77_74, gw_ib⟩) (tL_ok ⟨k_77_75, gw_ret⟩)))))))
theorem k_78_0 : OkOp mt Ev 78 0 (o_iload 1 1) := ok_iload_n (k := 1) (by decide +kernel) rfl
theorem k_78_1 : OkOp mt Ev 78 1 (o_sw 76 [(0, 36), (1, 44), (2, 52), (3, 60), (4, 68)]) := ok_tsw (dflt := 75) (lo := 0) (hi := 4) (offs := #[35, 43, 51, 59, 67]) (len := 35) (by decide +kernel) (by decide +kernel) (by decide +kernel) (by decide +kernel)
theorem k_78_36 : OkOp mt Ev 78 36 (o_aload 0 1) := ok_aload_n (k := 0) (by decide +kernel) rfl
theorem k_78_37 : OkOp mt Ev 78 37 (o_getf 0 [11]) := ok_getf (i := 12) (rf := "BridgeSentences") (nm := "now") (ds := "LBridgeSentences$World;") (by decide +kernel) fc_37 wd_218
theorem k_78_40 : OkOp mt Ev 78 40 (o_getf 5 [10]) := ok_getf (i := 152) (rf := "BridgeSentences$World") (nm := "day") (ds := "I") (by decide +kernel) fc_35 wd_130
theorem k_78_43 : OkOp mt Ev 78 43 (o_ret 0) := ok_reti (ty := .int) (by decide +kernel) rfl (Or.inl ⟨rfl, rfl⟩)
theorem k_78_44 : OkOp mt Ev 78 44 (o_aload 0 1) := ok_aload_n (k := 0) (by decide +kernel) rfl
theorem k_78_45 : OkOp mt Ev 78 45 (o_getf 0 [11]) := ok_getf (i := 12) (rf := "BridgeSentences") (nm := "now") (ds := "LBridgeSentences$World;") (by decide +kernel) fc_37 wd_218
theorem k_78_48 : OkOp mt Ev 78 48 (o_cv [(10, 52)] 0) := ok_cv (i := 155) (by decide +kernel) vc_119
theorem k_78_51 : OkOp mt Ev 78 51 (o_ret 0) := ok_reti (ty := .int) (by decide +kernel) rfl (Or.inl ⟨rfl, rfl⟩)
theorem k_78_52 : OkOp mt Ev 78 52 (o_aload 0 1) := ok_aload_n (k := 0) (by decide +kernel) rfl
theorem k_78_53 : OkOp mt Ev 78 53 (o_getf 0 [11]) := ok_getf (i := 12) (rf := "BridgeSentences") (nm := "now") (ds := "LBridgeSentences$World;") (by decide +kernel) fc_37 wd_218
theorem k_78_56 : OkOp mt Ev 78 56 (o_getf 3 [10]) := ok_getf (i := 158) (rf := "BridgeSentences$World") (nm := "takenSet") (ds := "I") (by decide +kernel) fc_33 wd_126
theorem k_78_59 : OkOp mt Ev 78 59 (o_ret 0) := ok_reti (ty := .int) (by decide +kernel) rfl (Or.inl ⟨rfl, rfl⟩)
theorem k_78_60 : OkOp mt Ev 78 60 (o_aload 0 1) := ok_aload_n (k := 0) (by decide +kernel) rfl
theorem k_78_61 : OkOp mt Ev 78 61 (o_getf 0 [11]) := ok_getf (i := 12) (rf := "BridgeSentences") (nm := "now") (ds := "LBridgeSentences$World;") (by decide +kernel) fc_37 wd_218
theorem k_78_64 : OkOp mt Ev 78 64 (o_getf 4 [10]) := ok_getf (i := 161) (rf := "BridgeSentences$World") (nm := "heardSet") (ds := "I") (by decide +kernel) fc_34 wd_128
theorem k_78_67 : OkOp mt Ev 78 67 (o_ret 0) := ok_reti (ty := .int) (by decide +kernel) rfl (Or.inl ⟨rfl, rfl⟩)
theorem k_78_68 : OkOp mt Ev 78 68 (o_aload 0 1) := ok_aload_n (k := 0) (by decide +kernel) rfl
theorem k_78_69 : OkOp mt Ev 78 69 (o_getf 0 [11]) := ok_getf (i := 12) (rf := "BridgeSentences") (nm := "now") (ds := "LBridgeSentences$World;") (by decide +kernel) fc_37 wd_218
theorem k_78_72 : OkOp mt Ev 78 72 (o_cv [(10, 53)] 0) := ok_cv (i := 164) (by decide +kernel) vc_120
theorem k_78_75 : OkOp mt Ev 78 75 (o_ret 0) := ok_reti (ty := .int) (by decide +kernel) rfl (Or.inl ⟨rfl, rfl⟩)
theorem k_78_76 : OkOp mt Ev 78 76 (o_iload 1 1) := ok_iload_n (k := 1) (by decide +kernel) rfl
theorem k_78_77 : OkOp mt Ev 78 77 (o_push (.int (10)) 2) := ok_bipush (n := 10) (by decide +kernel) (by decide +kernel)
theorem k_78_79 : OkOp mt Ev 78 79 (o_if2 (fun x y => decide (x < y)) 101) := ok_icmp_lt (off := 22) (by decide +kernel) (by decide +kernel)
theorem k_78_82 : OkOp mt Ev 78 82 (o_iload 1 1) := ok_iload_n (k := 1) (by decide +kernel) rfl
theorem k_78_83 : OkOp mt Ev 78 83 (o_push (.int (22)) 2) := ok_bipush (n := 22) (by decide +kernel) (by decide +kernel)
theorem k_78_85 : OkOp mt Ev 78 85 (o_if2 (fun x y => decide (y ≤ x)) 101) := ok_icmp_ge (off := 16) (by decide +kernel) (by decide +kernel)
theorem k_78_88 : OkOp mt Ev 78 88 (o_aload 0 1) := ok_aload_n (k := 0) (by decide +kernel) rfl
theorem k_78_89 : OkOp mt Ev 78 89 (o_getf 0 [11]) := ok_getf (i := 12) (rf := "BridgeSentences") (nm := "now") (ds := "LBridgeSentences$World;") (by decide +kernel) fc_37 wd_218
theorem k_78_92 : OkOp mt Ev 78 92 (o_getf 0 [10]) := ok_getf (i := 127) (rf := "BridgeSentences$World") (nm := "worths") (ds := "[I") (by decide +kernel) fc_26 wd_120
theorem k_78_95 : OkOp mt Ev 78 95 (o_iload 1 1) := ok_iload_n (k := 1) (by decide +kernel) rfl
theorem k_78_96 : OkOp mt Ev 78 96 (o_push (.int (10)) 2) := ok_bipush (n := 10) (by decide +kernel) (by decide +kernel)
theorem k_78_98 : OkOp mt Ev 78 98 (o_ib (fun x y => x - y)) := ok_isub (by decide +kernel)
theorem k_78_99 : OkOp mt Ev 78 99 (o_iald 2) := ok_iald (by decide +kernel)
theorem k_78_100 : OkOp mt Ev 78 100 (o_ret 0) := ok_reti (ty := .int) (by decide +kernel) rfl (Or.inl ⟨rfl, rfl⟩)
theorem k_78_101 : OkOp mt Ev 78 101 (o_iload 1 1) := ok_iload_n (k := 1) (by decide +kernel) rfl
theorem k_78_102 : OkOp mt Ev 78 102 (o_push (.int (30)) 2) := ok_bipush (n := 30) (by decide +kernel) (by decide +kernel)
theorem k_78_104 : OkOp mt Ev 78 104 (o_if2 (fun x y => decide (x < y)) 122) := ok_icmp_lt (off := 18) (by decide +kernel) (by decide +kernel)
theorem k_78_107 : OkOp mt Ev 78 107 (o_iload 1 1) := ok_iload_n (k := 1) (by decide +kernel) rfl
theorem k_78_108 : OkOp mt Ev 78 108 (o_push (.int (42)) 2) := ok_bipush (n := 42) (by decide +kernel) (by decide +kernel)
theorem k_78_110 : OkOp mt Ev 78 110 (o_if2 (fun x y => decide (y ≤ x)) 122) := ok_icmp_ge (off := 12) (by decide +kernel) (by decide +kernel)
theorem k_78_113 : OkOp mt Ev 78 113 (o_aload 0 1) := ok_aload_n (k := 0) (by decide +kernel) rfl
theorem k_78_114 : OkOp mt Ev 78 114 (o_iload 1 1) := ok_iload_n (k := 1) (by decide +kernel) rfl
theorem k_78_115 : OkOp mt Ev 78 115 (o_push (.int (30)) 2) := ok_bipush (n := 30) (by decide +kernel) (by decide +kernel)
theorem k_78_117 : OkOp mt Ev 78 117 (o_ib (fun x y => x - y)) := ok_isub (by decide +kernel)
theorem k_78_118 : OkOp mt Ev 78 118 (o_cv [(11, 118)] 1) := ok_cv (i := 167) (by decide +kernel) vc_121
theorem k_78_121 : OkOp mt Ev 78 121 (o_ret 0) := ok_reti (ty := .int) (by decide +kernel) rfl (Or.inl ⟨rfl, rfl⟩)
theorem k_78_122 : OkOp mt Ev 78 122 (o_iload 1 1) := ok_iload_n (k := 1) (by decide +kernel) rfl
theorem k_78_123 : OkOp mt Ev 78 123 (o_push (.int (50)) 2) := ok_bipush (n := 50) (by decide +kernel) (by decide +kernel)
theorem k_78_125 : OkOp mt Ev 78 125 (o_if2 (fun x y => decide (x < y)) 143) := ok_icmp_lt (off := 18) (by decide +kernel) (by decide +kernel)
theorem k_78_128 : OkOp mt Ev 78 128 (o_iload 1 1) := ok_iload_n (k := 1) (by decide +kernel) rfl
theorem k_78_129 : OkOp mt Ev 78 129 (o_push (.int (62)) 2) := ok_bipush (n := 62) (by decide +kernel) (by decide +kernel)
theorem k_78_131 : OkOp mt Ev 78 131 (o_if2 (fun x y => decide (y ≤ x)) 143) := ok_icmp_ge (off := 12) (by decide +kernel) (by decide +kernel)
theorem k_78_134 : OkOp mt Ev 78 134 (o_aload 0 1) := ok_aload_n (k := 0) (by decide +kernel) rfl
theorem k_78_135 : OkOp mt Ev 78 135 (o_iload 1 1) := ok_iload_n (k := 1) (by decide +kernel) rfl
theorem k_78_136 : OkOp mt Ev 78 136 (o_push (.int (50)) 2) := ok_bipush (n := 50) (by decide +kernel) (by decide +kernel)
theorem k_78_138 : OkOp mt Ev 78 138 (o_ib (fun x y => x - y)) := ok_isub (by decide +kernel)
theorem k_78_139 : OkOp mt Ev 78 139 (o_cv [(11, 119)] 1) := ok_cv (i := 170) (by decide +kernel) vc_122
theorem k_78_142 : OkOp mt Ev 78 142 (o_ret 0) := ok_reti (ty := .int) (by decide +kernel) rfl (Or.inl ⟨rfl, rfl⟩)
theorem k_78_143 : OkOp mt Ev 78 143 (o_push (.int (-1)) 1) := ok_iconst (n := -1) (by decide +kernel) (by decide +kernel)
theorem k_78_144 : OkOp mt Ev 78 144 (o_ret 0) := ok_reti (ty := .int) (by decide +kernel) rfl (Or.inl ⟨rfl, rfl⟩)
theorem kt_78 : ∀ pc o, cd_X11_told Ev pc = some o → OkOp mt Ev 78 pc o ∧ Gw o := (tN_ok (tN_ok (tN_ok (tN_ok (tN_ok (tL_ok ⟨k_78_0, gw_iload⟩) (tN_ok (tL_ok ⟨k_78_1, gw_sw⟩) (tL_ok ⟨k_78_36, gw_aload⟩))) (tN_ok (tN_ok (tL_ok ⟨k_78_37, gw_getf⟩) (tL_ok ⟨k_78_40, gw_getf⟩)) (tN_ok (tL_ok ⟨k_78_43, gw_ret⟩) (tL_ok ⟨k_78_44, gw_aload⟩)))) (tN_ok (tN_ok (tN_ok (tL_ok ⟨k_78_45, gw_getf⟩) (tL_ok ⟨k_78_48, gw_cv⟩)) (tN_ok (tL_ok ⟨k_78_51, gw_ret⟩) (tL_ok ⟨k_78_52, gw_aload⟩))) (tN_ok (tN_ok (tL_ok ⟨k_78_53, gw_getf⟩) (tL_ok ⟨k_78_56, gw_getf⟩)) (tN_ok (tL_ok ⟨k_78_59, gw_ret⟩) (tL_ok ⟨k_78_60, gw_aload⟩))))) (tN_ok (tN_ok (tN_ok (tN_ok (tL_ok ⟨k_78_61, gw_getf⟩) (tL_ok ⟨k_78_64, gw_getf⟩)) (tN_ok (tL_ok ⟨k_78_67, gw_ret⟩) (tL_ok ⟨k_78_68, gw_aload⟩))) (tN_ok (tN_ok (tL_ok ⟨k_78_69, gw_getf⟩) (tL_ok ⟨k_78_72, gw_cv⟩)) (tN_ok (tL_ok ⟨k_78_75, gw_ret⟩) (tL_ok ⟨k_78_76, gw_iload⟩)))) (tN_ok (tN_ok (tN_ok (tL_ok ⟨k_78_77, gw_push⟩) (tL_ok ⟨k_78_79, gw_if2⟩)) (tN_ok (tL_ok ⟨k_78_82, gw_iload⟩) (tL_ok ⟨k_78_83, gw_push⟩))) (tN_ok (tN_ok (tL_ok ⟨k_78_85, gw_if2⟩) (tL_ok ⟨k_78_88, gw_aload⟩)) (tN_ok (tL_ok ⟨k_78_89, gw_getf⟩) (tL_ok ⟨k_78_92, gw_getf⟩)))))) (tN_ok (tN_ok (tN_ok (tN_ok (tL_ok ⟨k_78_95, gw_iload⟩) (tN_ok (tL_ok ⟨k_78_96, gw_push⟩) (tL_ok ⟨k_78_98, gw_ib⟩))) (tN_ok (tN_ok (tL_ok ⟨k_78_99, gw_iald⟩) (tL_ok ⟨k_78_100, gw_ret⟩)) (tN_ok (tL_ok ⟨k_78_101, gw_iload⟩) (tL_ok ⟨k_78_102, gw_push⟩)))) (tN_ok (tN_ok (tN_ok (tL_ok ⟨k_78_104, gw_if2⟩) (tL_ok ⟨k_78_107, gw_iload⟩)) (tN_ok (tL_ok ⟨k_78_108, gw_push⟩) (tL_ok ⟨k_78_110, gw_if2⟩))) (tN_ok (tN_ok (tL_ok ⟨k_78_113, gw_aload⟩) (tL_ok ⟨k_78_114, gw_iload⟩)) (tN_ok (tL_ok ⟨k_78_115, gw_push⟩) (tL_ok ⟨k_78_117, gw_ib⟩))))) (tN_ok (tN_ok (tN_ok (tN_ok (tL_ok ⟨k_78_118, gw_cv⟩) (tL_ok ⟨k_78_121, gw_ret⟩)) (tN_ok (tL_ok ⟨k_78_122, gw_iload⟩) (tL_ok ⟨k_78_123, gw_push⟩))) (tN_ok (tN_ok (tL_ok ⟨k_78_125, gw_if2⟩) (tL_ok ⟨k_78_128, gw_iload⟩)) (tN_ok (tL_ok ⟨k_78_129, gw_push⟩) (tL_ok ⟨k_78_131, gw_if2⟩)))) (tN_ok (tN_ok (tN_ok (tL_ok ⟨k_78_134, gw_aload⟩) (tL_ok ⟨k_78_135, gw_iload⟩)) (tN_ok (tL_ok ⟨k_78_136, gw_push⟩) (tL_ok ⟨k_78_138, gw_ib⟩))) (tN_ok (tN_ok (tL_ok ⟨k_78_139, gw_cv⟩) (tL_ok ⟨k_78_142, gw_ret⟩)) (tN_ok (tL_ok ⟨k_78_143, gw_push⟩) (tL_ok ⟨k_78_144, gw_ret⟩)))))))
theorem k_79_0 : OkOp mt Ev 79 0 (o_iload 1 1) := ok_iload_n (k := 1) (by decide +kernel) rfl
theorem k_79_1 : OkOp mt Ev 79 1 (o_cs 104 1) := ok_cs (i := 173) (by decide +kernel) wd_759 wd_760 wd_56 wd_761 nk_22
theorem k_79_4 : OkOp mt Ev 79 4 (o_if1 (fun x => decide (¬ x = 0)) 10) := ok_if_ne (off := 6) (by decide +kernel) (by decide +kernel)
theorem k_79_7 : OkOp mt Ev 79 7 (o_push (.int (-2)) 2) := ok_bipush (n := -2) (by decide +kernel) (by decide +kernel)
theorem k_79_9 : OkOp mt Ev 79 9 (o_ret 0) := ok_reti (ty := .int) (by decide +kernel) rfl (Or.inl ⟨rfl, rfl⟩)
theorem k_79_10 : OkOp mt Ev 79 10 (o_aload 0 1) := ok_aload_n (k := 0) (by decide +kernel) rfl
theorem k_79_11 : OkOp mt Ev 79 11 (o_getf 0 [11]) := ok_getf (i := 12) (rf := "BridgeSentences") (nm := "now") (ds := "LBridgeSentences$World;") (by decide +kernel) fc_37 wd_218
theorem k_79_14 : OkOp mt Ev 79 14 (o_getf 5 [10]) := ok_getf (i := 152) (rf := "BridgeSentences$World") (nm := "day") (ds := "I") (by decide +kernel) fc_35 wd_130
theorem k_79_17 : OkOp mt Ev 79 17 (o_iload 1 1) := ok_iload_n (k := 1) (by decide +kernel) rfl
theorem k_79_18 : OkOp mt Ev 79 18 (o_ib (fun x y => x + y)) := ok_iadd (by decide +kernel)
theorem k_79_19 : OkOp mt Ev 79 19 (o_push (.int (9999)) 3) := ok_sipush (n := 9999) (by decide +kernel) (by decide +kernel)
theorem k_79_22 : OkOp mt Ev 79 22 (o_if2 (fun x y => decide (x ≤ y)) 28) := ok_icmp_le (off := 6) (by decide +kernel) (by decide +kernel)
theorem k_79_25 : OkOp mt Ev 79 25 (o_push (.int (-3)) 2) := ok_bipush (n := -3) (by decide +kernel) (by decide +kernel)
theorem k_79_27 : OkOp mt Ev 79 27 (o_ret 0) := ok_reti (ty := .int) (by decide +kernel) rfl (Or.inl ⟨rfl, rfl⟩)
theorem k_79_28 : OkOp mt Ev 79 28 (o_aload 0 1) := ok_aload_n (k := 0) (by decide +kernel) rfl
theorem k_79_29 : OkOp mt Ev 79 29 (o_getf 0 [11]) := ok_getf (i := 12) (rf := "BridgeSentences") (nm := "now") (ds := "LBridgeSentences$World;") (by decide +kernel) fc_37 wd_218
theorem k_79_32 : OkOp mt Ev 79 32 (o_iload 1 1) := ok_iload_n (k := 1) (by decide +kernel) rfl
theorem k_79_33 : OkOp mt Ev 79 33 (o_push (.int (9999)) 3) := ok_sipush (n := 9999) (by decide +kernel) (by decide +kernel)
theorem k_79_36 : OkOp mt Ev 79 36 (o_cv [(10, 59)] 2) := ok_cv (i := 176) (by decide +kernel) vc_123
theorem k_79_39 : OkOp mt Ev 79 39 (o_aload 0 1) := ok_aload_n (k := 0) (by decide +kernel) rfl
theorem k_79_40 : OkOp mt Ev 79 40 (o_getf 0 [11]) := ok_getf (i := 12) (rf := "BridgeSentences") (nm := "now") (ds := "LBridgeSentences$World;") (by decide +kernel) fc_37 wd_218
theorem k_79_43 : OkOp mt Ev 79 43 (o_getf 5 [10]) := ok_getf (i := 152) (rf := "BridgeSentences$World") (nm := "day") (ds := "I") (by decide +kernel) fc_35 wd_130
theorem k_79_46 : OkOp mt Ev 79 46 (o_ret 0) := ok_reti (ty := .int) (by decide +kernel) rfl (Or.inl ⟨rfl, rfl⟩)
theorem kt_79 : ∀ pc o, cd_X11_pass Ev pc = some o → OkOp mt Ev 79 pc o ∧ Gw o := (tN_ok (tN_ok (tN_ok (tN_ok (tL_ok ⟨k_79_0, gw_iload⟩) (tL_ok ⟨k_79_1, gw_cs⟩)) (tN_ok (tL_ok ⟨k_79_4, gw_if1⟩) (tN_ok (tL_ok ⟨k_79_7, gw_push⟩) (tL_ok ⟨k_79_9, gw_ret⟩)))) (tN_ok (tN_ok (tL_ok ⟨k_79_10, gw_aload⟩) (tN_ok (tL_ok ⟨k_79_11, gw_getf⟩) (tL_ok ⟨k_79_14, gw_getf⟩))) (tN_ok (tL_ok ⟨k_79_17, gw_iload⟩) (tN_ok (tL_ok ⟨k_79_18, gw_ib⟩) (tL_ok ⟨k_79_19, gw_push⟩))))) (tN_ok (tN_ok (tN_ok (tL_ok ⟨k_79_22, gw_if2⟩) (tN_ok (tL_ok ⟨k_79_25, gw_push⟩) (tL_ok ⟨k_79_27, gw_ret⟩))) (tN_ok (tL_ok ⟨k_79_28, gw_aload⟩) (tN_ok (tL_ok ⟨k_79_29, gw_getf⟩) (tL_ok ⟨k_79_32, gw_iload⟩)))) (tN_ok (tN_ok (tL_ok ⟨k_79_33, gw_push⟩) (tN_ok (tL_ok ⟨k_79_36, gw_cv⟩) (tL_ok ⟨k_79_39, gw_aload⟩))) (tN_ok (tL_ok ⟨k_79_40, gw_getf⟩) (tN_ok (tL_ok ⟨k_79_43, gw_getf⟩) (tL_ok ⟨k_79_46, gw_ret⟩))))))
theorem k_80_0 : OkOp mt Ev 80 0 (o_aload 0 1) := ok_aload_n (k := 0) (by decide +kernel) rfl
theorem k_80_1 : OkOp mt Ev 80 1 (o_getf 0 [11]) := ok_getf (i := 12) (rf := "BridgeSentences") (nm := "now") (ds := "LBridgeSentences$World;") (by decide +kernel) fc_37 wd_218
theorem k_80_4 : OkOp mt Ev 80 4 (o_iload 2 1) := ok_iload_n (k := 2) (by decide +kernel) rfl
theorem k_80_5 : OkOp mt Ev 80 5 (o_push (.int (10)) 2) := ok_bipush (n := 10) (by decide +kernel) (by decide +kernel)
theorem k_80_7 : OkOp mt Ev 80 7 (o_ib (fun x y => x - y)) := ok_isub (by decide +kernel)
theorem k_80_8 : OkOp mt Ev 80 8 (o_cv [(10, 51)] 1) := ok_cv (i := 80) (by decide +kernel) vc_112
theorem k_80_11 : OkOp mt Ev 80 11 (o_astore 3 1) := ok_astore_n (k := 3) (by decide +kernel) rfl
theorem k_80_12 : OkOp mt Ev 80 12 (o_iload 2 1) := ok_iload_n (k := 2) (by decide +kernel) rfl
theorem k_80_13 : OkOp mt Ev 80 13 (o_if1 (fun x => decide (x < 0)) 21) := ok_if_lt (off := 8) (by decide +kernel) (by decide +kernel)
theorem k_80_16 : OkOp mt Ev 80 16 (o_iload 2 1) := ok_iload_n (k := 2) (by decide +kernel) rfl
theorem k_80_17 : OkOp mt Ev 80 17 (o_push (.int (2)) 1) := ok_iconst (n := 2) (by decide +kernel) (by decide +kernel)
theorem k_80_18 : OkOp mt Ev 80 18 (o_if2 (fun x y => decide (x ≤ y)) 27) := ok_icmp_le (off := 9) (by decide +kernel) (by decide +kernel)
theorem k_80_21 : OkOp mt Ev 80 21 (o_aload 3 1) := ok_aload_n (k := 3) (by decide +kernel) rfl
theorem k_80_22 : OkOp mt Ev 80 22 (o_ifnonnull 27) := ok_ifnonnull (off := 5) (by decide +kernel) (by decide +kernel)
theorem k_80_25 : OkOp mt Ev 80 25 (o_push (.int (-1)) 1) := ok_iconst (n := -1) (by decide +kernel) (by decide +kernel)
theorem k_80_26 : OkOp mt Ev 80 26 (o_ret 0) := ok_reti (ty := .int) (by decide +kernel) rfl (Or.inl ⟨rfl, rfl⟩)
theorem k_80_27 : OkOp mt Ev 80 27 (o_iload 1 1) := ok_iload_n (k := 1) (by decide +kernel) rfl
theorem k_80_28 : OkOp mt Ev 80 28 (o_cs 104 1) := ok_cs (i := 173) (by decide +kernel) wd_759 wd_760 wd_56 wd_761 nk_22
theorem k_80_31 : OkOp mt Ev 80 31 (o_if1 (fun x => decide (¬ x = 0)) 37) := ok_if_ne (off := 6) (by decide +kernel) (by decide +kernel)
theorem k_80_34 : OkOp mt Ev 80 34 (o_push (.int (-2)) 2) := ok_bipush (n := -2) (by decide +kernel) (by decide +kernel)
theorem k_80_36 : OkOp mt Ev 80 36 (o_ret 0) := ok_reti (ty := .int) (by decide +kernel) rfl (Or.inl ⟨rfl, rfl⟩)
theorem k_80_37 : OkOp mt Ev 80 37 (o_aload 0 1) := ok_aload_n (k := 0) (by decide +kernel) rfl
theorem k_80_38 : OkOp mt Ev 80 38 (o_getf 1 [11]) := ok_getf (i := 18) (rf := "BridgeSentences") (nm := "trial") (ds := "LBridgeSentences$World;") (by decide +kernel) fc_38 wd_219
theorem k_80_41 : OkOp mt Ev 80 41 (o_aload 0 1) := ok_aload_n (k := 0) (by decide +kernel) rfl
theorem k_80_42 : OkOp mt Ev 80 42 (o_getf 0 [11]) := ok_getf (i := 12) (rf := "BridgeSentences") (nm := "now") (ds := "LBridgeSentences$World;") (by decide +kernel) fc_37 wd_218
theorem k_80_45 : OkOp mt Ev 80 45 (o_cv [(10, 49)] 1) := ok_cv (i := 180) (by decide +kernel) vc_124
theorem k_80_48 : OkOp mt Ev 80 48 (o_aload 0 1) := ok_aload_n (k := 0) (by decide +kernel) rfl
theorem k_80_49 : OkOp mt Ev 80 49 (o_getf 1 [11]) := ok_getf (i := 18) (rf := "BridgeSentences") (nm := "trial") (ds := "LBridgeSentences$World;") (by decide +kernel) fc_38 wd_219
theorem k_80_52 : OkOp mt Ev 80 52 (o_iload 1 1) := ok_iload_n (k := 1) (by decide +kernel) rfl
theorem k_80_53 : OkOp mt Ev 80 53 (o_push (.int (2147483647)) 2) := ok_ldc (i := 184) (by decide +kernel) wd_731
theorem k_80_55 : OkOp mt Ev 80 55 (o_cv [(10, 59)] 2) := ok_cv (i := 176) (by decide +kernel) vc_123
theorem k_80_58 : OkOp mt Ev 80 58 (o_iload 2 1) := ok_iload_n (k := 2) (by decide +kernel) rfl
theorem k_80_59 : OkOp mt Ev 80 59 (o_sw 108 [(0, 84), (1, 92), (2, 100)]) := ok_tsw (dflt := 49) (lo := 0) (hi := 2) (offs := #[25, 33, 41]) (len := 25) (by decide +kernel) (by decide +kernel) (by decide +kernel) (by decide +kernel)
theorem k_80_84 : OkOp mt Ev 80 84 (o_aload 0 1) := ok_aload_n (k := 0) (by decide +kernel) rfl
theorem k_80_85 : OkOp mt Ev 80 85 (o_getf 1 [11]) := ok_getf (i := 18) (rf := "BridgeSentences") (nm := "trial") (ds := "LBridgeSentences$World;") (by decide +kernel) fc_38 wd_219
theorem k_80_88 : OkOp mt Ev 80 88 (o_getf 3 [10]) := ok_getf (i := 158) (rf := "BridgeSentences$World") (nm := "takenSet") (ds := "I") (by decide +kernel) fc_33 wd_126
theorem k_80_91 : OkOp mt Ev 80 91 (o_ret 0) := ok_reti (ty := .int) (by decide +kernel) rfl (Or.inl ⟨rfl, rfl⟩)
theorem k_80_92 : OkOp mt Ev 80 92 (o_aload 0 1) := ok_aload_n (k := 0) (by decide +kernel) rfl
theorem k_80_93 : OkOp mt Ev 80 93 (o_getf 1 [11]) := ok_getf (i := 18) (rf := "BridgeSentences") (nm := "trial") (ds := "LBridgeSentences$World;") (by decide +kernel) fc_38 wd_219
theorem k_80_96 : OkOp mt Ev 80 96 (o_getf 4 [10]) := ok_getf (i := 161) (rf := "BridgeSentences$World") (nm := "heardSet") (ds := "I") (by decide +kernel) fc_34 wd_128
theorem k_80_99 : OkOp mt Ev 80 99 (o_ret 0) := ok_reti (ty := .int) (by decide +kernel) rfl (Or.inl ⟨rfl, rfl⟩)
theorem k_80_100 : OkOp mt Ev 80 100 (o_aload 0 1) := ok_aload_n (k := 0) (by decide +kernel) rfl
theorem k_80_101 : OkOp mt Ev 80 101 (o_getf 1 [11]) := ok_getf (i := 18) (rf := "BridgeSentences") (nm := "trial") (ds := "LBridgeSentences$World;") (by decide +kernel) fc_38 wd_219
theorem k_80_104 : OkOp mt Ev 80 104 (o_cv [(10, 53)] 0) := ok_cv (i := 164) (by decide +kernel) vc_120
theorem k_80_107 : OkOp mt Ev 80 107 (o_ret 0) := ok_reti (ty := .int) (by decide +kernel) rfl (Or.inl ⟨rfl, rfl⟩)
theorem k_80_108 : OkOp mt Ev 80 108 (o_aload 0 1) := ok_aload_n (k := 0) (by decide +kernel) rfl
theorem k_80_109 : OkOp mt Ev 80 109 (o_getf 1 [11]) := ok_getf (i := 18) (rf := "BridgeSentences") (nm := "trial") (ds := "LBridgeSentences$World;") (by decide +kernel) fc_38 wd_219
theorem k_80_112 : OkOp mt Ev 80 112 (o_iload 2 1) := ok_iload_n (k := 2) (by decide +kernel) rfl
theorem k_80_113 : OkOp mt Ev 80 113 (o_push (.int (10)) 2) := ok_bipush (n := 10) (by decide +kernel) (by decide +kernel)
theorem k_80_115 : OkOp mt Ev 80 115 (o_ib (fun x y => x - y)) := ok_isub (by decide +kernel)
theorem k_80_116 : OkOp mt Ev 80 116 (o_cv [(10, 51)] 1) := ok_cv (i := 80) (by decide +kernel) vc_112
theorem k_80_119 : OkOp mt Ev 80 119 (o_astore 4 2) := ok_astore (by decide +kernel)
theorem k_80_121 : OkOp mt Ev 80 121 (o_aload 4 2) := ok_aload (by decide +kernel)
theorem k_80_123 : OkOp mt Ev 80 123 (o_ifnonnull 130) := ok_ifnonnull (off := 7) (by decide +kernel) (by decide +kernel)
theorem k_80_126 : OkOp mt Ev 80 126 (o_push (.int (-1)) 1) := ok_iconst (n := -1) (by decide +kernel) (by decide +kernel)
theorem k_80_127 : OkOp mt Ev 80 127 (o_goto 135) := ok_goto (off := 8) (by decide +kernel) (by decide +kernel)
theorem k_80_130 : OkOp mt Ev 80 130 (o_aload 4 2) := ok_aload (by decide +kernel)
theorem k_80_132 : OkOp mt Ev 80 132 (o_getf 3 [1, 2, 3, 4, 5, 6, 8]) := ok_getf (i := 70) (rf := "BridgeSentences$One") (nm := "has") (ds := "I") (by decide +kernel) fc_14 wd_287
theorem k_80_135 : OkOp mt Ev 80 135 (o_ret 0) := ok_reti (ty := .int) (by decide +kernel) rfl (Or.inl ⟨rfl, rfl⟩)
theorem kt_80 : ∀ pc o, cd_X11_on Ev pc = some o → OkOp mt Ev 80 pc o ∧ Gw o := (tN_ok (tN_ok (tN_ok (tN_ok (tN_ok (tL_ok ⟨k_80_0, gw_aload⟩) (tN_ok (tL_ok ⟨k_80_1, gw_getf⟩) (tL_ok ⟨k_80_4, gw_iload⟩))) (tN_ok (tN_ok (tL_ok ⟨k_80_5, gw_push⟩) (tL_ok ⟨k_80_7, gw_ib⟩)) (tN_ok (tL_ok ⟨k_80_8, gw_cv⟩) (tL_ok ⟨k_80_11, gw_astore⟩)))) (tN_ok (tN_ok (tL_ok ⟨k_80_12, gw_iload⟩) (tN_ok (tL_ok ⟨k_80_13, gw_if1⟩) (tL_ok ⟨k_80_16, gw_iload⟩))) (tN_ok (tN_ok (tL_ok ⟨k_80_17, gw_push⟩) (tL_ok ⟨k_80_18, gw_if2⟩)) (tN_ok (tL_ok ⟨k_80_21, gw_aload⟩) (tL_ok ⟨k_80_22, gw_ifnonnull⟩))))) (tN_ok (tN_ok (tN_ok (tL_ok ⟨k_80_25, gw_push⟩) (tN_ok (tL_ok ⟨k_80_26, gw_ret⟩) (tL_ok ⟨k_80_27, gw_iload⟩))) (tN_ok (tN_ok (tL_ok ⟨k_80_28, gw_cs⟩) (tL_ok ⟨k_80_31, gw_if1⟩)) (tN_ok (tL_ok ⟨k_80_34, gw_push⟩) (tL_ok ⟨k_80_36, gw_ret⟩)))) (tN_ok (tN_ok (tN_ok (tL_ok ⟨k_80_37, gw_aload⟩) (tL_ok ⟨k_80_38, gw_getf⟩)) (tN_ok (tL_ok ⟨k_80_41, gw_aload⟩) (tL_ok ⟨k_80_42, gw_getf⟩))) (tN_ok (tN_ok (tL_ok ⟨k_80_45, gw_cv⟩) (tL_ok ⟨k_80_48, gw_aload⟩)) (tN_ok (tL_ok ⟨k_80_49, gw_getf⟩) (tL_ok ⟨k_80_52, gw_iload⟩)))))) (tN_ok (tN_ok (tN_ok (tN_ok (tL_ok ⟨k_80_53, gw_push⟩) (tN_ok (tL_ok ⟨k_80_55, gw_cv⟩) (tL_ok ⟨k_80_58, gw_iload⟩))) (tN_ok (tN_ok (tL_ok ⟨k_80_59, gw_sw⟩) (tL_ok ⟨k_80_84, gw_aload⟩)) (tN_ok (tL_ok ⟨k_80_85, gw_getf⟩) (tL_ok ⟨k_80_88, gw_getf⟩)))) (tN_ok (tN_ok (tN_ok (tL_ok ⟨k_80_91, gw_ret⟩) (tL_ok ⟨k_80_92, gw_aload⟩)) (tN_ok (tL_ok ⟨k_80_93, gw_getf⟩) (tL_ok ⟨k_80_96, gw_getf⟩))) (tN_ok (tN_ok (tL_ok ⟨k_80_99, gw_ret⟩) (tL_ok ⟨k_80_100, gw_aload⟩)) (tN_ok (tL_ok ⟨k_80_101, gw_getf⟩) (tL_ok ⟨k_80_104, gw_cv⟩))))) (tN_ok (tN_ok (tN_ok (tL_ok ⟨k_80_107, gw_ret⟩) (tN_ok (tL_ok ⟨k_80_108, gw_aload⟩) (tL_ok ⟨k_80_109, gw_getf⟩))) (tN_ok (tN_ok (tL_ok ⟨k_80_112, gw_iload⟩) (tL_ok ⟨k_80_113, gw_push⟩)) (tN_ok (tL_ok ⟨k_80_115, gw_ib⟩) (tL_ok ⟨k_80_116, gw_cv⟩)))) (tN_ok (tN_ok (tN_ok (tL_ok ⟨k_80_119, gw_astore⟩) (tL_ok ⟨k_80_121, gw_aload⟩)) (tN_ok (tL_ok ⟨k_80_123, gw_ifnonnull⟩) (tL_ok ⟨k_80_126, gw_push⟩))) (tN_ok (tN_ok (tL_ok ⟨k_80_127, gw_goto⟩) (tL_ok ⟨k_80_130, gw_aload⟩)) (tN_ok (tL_ok ⟨k_80_132, gw_getf⟩) (tL_ok ⟨k_80_135, gw_ret⟩)))))))
theorem k_81_0 : OkOp mt Ev 81 0 (o_aload 0 1) := ok_aload_n (k := 0) (by decide +kernel) rfl
theorem k_81_1 : OkOp mt Ev 81 1 (o_getf 0 [11]) := ok_getf (i := 12) (rf := "BridgeSentences") (nm := "now") (ds := "LBridgeSentences$World;") (by decide +kernel) fc_37 wd_218
theorem k_81_4 : OkOp mt Ev 81 4 (o_iload 1 1) := ok_iload_n (k := 1) (by decide +kernel) rfl
theorem k_81_5 : OkOp mt Ev 81 5 (o_cv [(10, 51)] 1) := ok_cv (i := 80) (by decide +kernel) vc_112
theorem k_81_8 : OkOp mt Ev 81 8 (o_astore 3 1) := ok_astore_n (k := 3) (by decide +kernel) rfl
theorem k_81_9 : OkOp mt Ev 81 9 (o_aload 3 1) := ok_aload_n (k := 3) (by decide +kernel) rfl
theorem k_81_10 : OkOp mt Ev 81 10 (o_ifnull 20) := ok_ifnull (off := 10) (by decide +kernel) (by decide +kernel)
theorem k_81_13 : OkOp mt Ev 81 13 (o_iload 2 1) := ok_iload_n (k := 2) (by decide +kernel) rfl
theorem k_81_14 : OkOp mt Ev 81 14 (o_cs 101 1) := ok_cs (i := 112) (by decide +kernel) wd_531 wd_532 wd_56 wd_533 nk_20
theorem k_81_17 : OkOp mt Ev 81 17 (o_if1 (fun x => decide (¬ x = 0)) 22) := ok_if_ne (off := 5) (by decide +kernel) (by decide +kernel)
theorem k_81_20 : OkOp mt Ev 81 20 (o_push (.int (-1)) 1) := ok_iconst (n := -1) (by decide +kernel) (by decide +kernel)
theorem k_81_21 : OkOp mt Ev 81 21 (o_ret 0) := ok_reti (ty := .int) (by decide +kernel) rfl (Or.inl ⟨rfl, rfl⟩)
theorem k_81_22 : OkOp mt Ev 81 22 (o_aload 3 1) := ok_aload_n (k := 3) (by decide +kernel) rfl
theorem k_81_23 : OkOp mt Ev 81 23 (o_getf 3 [1, 2, 3, 4, 5, 6, 8]) := ok_getf (i := 70) (rf := "BridgeSentences$One") (nm := "has") (ds := "I") (by decide +kernel) fc_14 wd_287
theorem k_81_26 : OkOp mt Ev 81 26 (o_iload 2 1) := ok_iload_n (k := 2) (by decide +kernel) rfl
theorem k_81_27 : OkOp mt Ev 81 27 (o_ib (fun x y => x >>> (y &&& 31))) := ok_ishr (by decide +kernel)
theorem k_81_28 : OkOp mt Ev 81 28 (o_push (.int (1)) 1) := ok_iconst (n := 1) (by decide +kernel) (by decide +kernel)
theorem k_81_29 : OkOp mt Ev 81 29 (o_ib (fun x y => x &&& y)) := ok_iand (by decide +kernel)
theorem k_81_30 : OkOp mt Ev 81 30 (o_if1 (fun x => decide (¬ x = 0)) 36) := ok_if_ne (off := 6) (by decide +kernel) (by decide +kernel)
theorem k_81_33 : OkOp mt Ev 81 33 (o_push (.int (-5)) 2) := ok_bipush (n := -5) (by decide +kernel) (by decide +kernel)
theorem k_81_35 : OkOp mt Ev 81 35 (o_ret 0) := ok_reti (ty := .int) (by decide +kernel) rfl (Or.inl ⟨rfl, rfl⟩)
theorem k_81_36 : OkOp mt Ev 81 36 (o_aload 0 1) := ok_aload_n (k := 0) (by decide +kernel) rfl
theorem k_81_37 : OkOp mt Ev 81 37 (o_aload 3 1) := ok_aload_n (k := 3) (by decide +kernel) rfl
theorem k_81_38 : OkOp mt Ev 81 38 (o_iload 2 1) := ok_iload_n (k := 2) (by decide +kernel) rfl
theorem k_81_39 : OkOp mt Ev 81 39 (o_cv [(11, 116)] 2) := ok_cv (i := 185) (by decide +kernel) vc_125
theorem k_81_42 : OkOp mt Ev 81 42 (o_ret 0) := ok_reti (ty := .int) (by decide +kernel) rfl (Or.inl ⟨rfl, rfl⟩)
theorem kt_81 : ∀ pc o, cd_X11_decoy Ev pc = some o → OkOp mt Ev 81 pc o ∧ Gw o := (tN_ok (tN_ok (tN_ok (tN_ok (tL_ok ⟨k_81_0, gw_aload⟩) (tN_ok (tL_ok ⟨k_81_1, gw_getf⟩) (tL_ok ⟨k_81_4, gw_iload⟩))) (tN_ok (tL_ok ⟨k_81_5, gw_cv⟩) (tN_ok (tL_ok ⟨k_81_8, gw_astore⟩) (tL_ok ⟨k_81_9, gw_aload⟩)))) (tN_ok (tN_ok (tL_ok ⟨k_81_10, gw_ifnull⟩) (tN_ok (tL_ok ⟨k_81_13, gw_iload⟩) (tL_ok ⟨k_81_14, gw_cs⟩))) (tN_ok (tN_ok (tL_ok ⟨k_81_17, gw_if1⟩) (tL_ok ⟨k_81_20, gw_push⟩)) (tN_ok (tL_ok ⟨k_81_21, gw_ret⟩) (tL_ok ⟨k_81_22, gw_aload⟩))))) (tN_ok (tN_ok (tN_ok (tL_ok ⟨k_81_23, gw_getf⟩) (tN_ok (tL_ok ⟨k_81_26, gw_iload⟩) (tL_ok ⟨k_81_27, gw_ib⟩))) (tN_ok (tL_ok ⟨k_81_28, gw_push⟩) (tN_ok (tL_ok ⟨k_81_29, gw_ib⟩) (tL_ok ⟨k_81_30, gw_if1⟩)))) (tN_ok (tN_ok (tL_ok ⟨k_81_33, gw_push⟩) (tN_ok (tL_ok ⟨k_81_35, gw_ret⟩) (tL_ok ⟨k_81_36, gw_aload⟩))) (tN_ok (tN_ok (tL_ok ⟨k_81_37, gw_aload⟩) (tL_ok ⟨k_81_38, gw_iload⟩)) (tN_ok (tL_ok ⟨k_81_39, gw_cv⟩) (tL_ok ⟨k_81_42, gw_ret⟩))))))
theorem k_82_0 : OkOp mt Ev 82 0 (o_iload 1 1) := ok_iload_n (k := 1) (by decide +kernel) rfl
theorem k_82_1 : OkOp mt Ev 82 1 (o_push (.int (-1)) 1) := ok_iconst (n := -1) (by decide +kernel) (by decide +kernel)
theorem k_82_2 : OkOp mt Ev 82 2 (o_if2 (fun x y => decide (¬ x = y)) 16) := ok_icmp_ne (off := 14) (by decide +kernel) (by decide +kernel)
theorem k_82_5 : OkOp mt Ev 82 5 (o_aload 0 1) := ok_aload_n (k := 0) (by decide +kernel) rfl
theorem k_82_6 : OkOp mt Ev 82 6 (o_getf 0 [11]) := ok_getf (i := 12) (rf := "BridgeSentences") (nm := "now") (ds := "LBridgeSentences$World;") (by decide +kernel) fc_37 wd_218
theorem k_82_9 : OkOp mt Ev 82 9 (o_getf 6 [10]) := ok_getf (i := 188) (rf := "BridgeSentences$World") (nm := "seen") (ds := "LBridgeSentences$Rows;") (by decide +kernel) fc_28 wd_132
theorem k_82_12 : OkOp mt Ev 82 12 (o_cv [(7, 38)] 0) := ok_cv (i := 192) (by decide +kernel) vc_126
theorem k_82_15 : OkOp mt Ev 82 15 (o_ret 0) := ok_reti (ty := .int) (by decide +kernel) rfl (Or.inl ⟨rfl, rfl⟩)
theorem k_82_16 : OkOp mt Ev 82 16 (o_aload 0 1) := ok_aload_n (k := 0) (by decide +kernel) rfl
theorem k_82_17 : OkOp mt Ev 82 17 (o_getf 0 [11]) := ok_getf (i := 12) (rf := "BridgeSentences") (nm := "now") (ds := "LBridgeSentences$World;") (by decide +kernel) fc_37 wd_218
theorem k_82_20 : OkOp mt Ev 82 20 (o_iload 1 1) := ok_iload_n (k := 1) (by decide +kernel) rfl
theorem k_82_21 : OkOp mt Ev 82 21 (o_cv [(10, 51)] 1) := ok_cv (i := 80) (by decide +kernel) vc_112
theorem k_82_24 : OkOp mt Ev 82 24 (o_ifnull 39) := ok_ifnull (off := 15) (by decide +kernel) (by decide +kernel)
theorem k_82_27 : OkOp mt Ev 82 27 (o_iload 2 1) := ok_iload_n (k := 2) (by decide +kernel) rfl
theorem k_82_28 : OkOp mt Ev 82 28 (o_push (.int (-1)) 1) := ok_iconst (n := -1) (by decide +kernel) (by decide +kernel)
theorem k_82_29 : OkOp mt Ev 82 29 (o_if2 (fun x y => decide (x = y)) 41) := ok_icmp_eq (off := 12) (by decide +kernel) (by decide +kernel)
theorem k_82_32 : OkOp mt Ev 82 32 (o_iload 2 1) := ok_iload_n (k := 2) (by decide +kernel) rfl
theorem k_82_33 : OkOp mt Ev 82 33 (o_cs 101 1) := ok_cs (i := 112) (by decide +kernel) wd_531 wd_532 wd_56 wd_533 nk_20
theorem k_82_36 : OkOp mt Ev 82 36 (o_if1 (fun x => decide (¬ x = 0)) 41) := ok_if_ne (off := 5) (by decide +kernel) (by decide +kernel)
theorem k_82_39 : OkOp mt Ev 82 39 (o_push (.int (-1)) 1) := ok_iconst (n := -1) (by decide +kernel) (by decide +kernel)
theorem k_82_40 : OkOp mt Ev 82 40 (o_ret 0) := ok_reti (ty := .int) (by decide +kernel) rfl (Or.inl ⟨rfl, rfl⟩)
theorem k_82_41 : OkOp mt Ev 82 41 (o_aload 0 1) := ok_aload_n (k := 0) (by decide +kernel) rfl
theorem k_82_42 : OkOp mt Ev 82 42 (o_getf 0 [11]) := ok_getf (i := 12) (rf := "BridgeSentences") (nm := "now") (ds := "LBridgeSentences$World;") (by decide +kernel) fc_37 wd_218
theorem k_82_45 : OkOp mt Ev 82 45 (o_getf 6 [10]) := ok_getf (i := 188) (rf := "BridgeSentences$World") (nm := "seen") (ds := "LBridgeSentences$Rows;") (by decide +kernel) fc_28 wd_132
theorem k_82_48 : OkOp mt Ev 82 48 (o_iload 1 1) := ok_iload_n (k := 1) (by decide +kernel) rfl
theorem k_82_49 : OkOp mt Ev 82 49 (o_iload 2 1) := ok_iload_n (k := 2) (by decide +kernel) rfl
theorem k_82_50 : OkOp mt Ev 82 50 (o_cv [(7, 39)] 2) := ok_cv (i := 197) (by decide +kernel) vc_127
theorem k_82_53 : OkOp mt Ev 82 53 (o_ret 0) := ok_reti (ty := .int) (by decide +kernel) rfl (Or.inl ⟨rfl, rfl⟩)
theorem kt_82 : ∀ pc o, cd_X11_see Ev pc = some o → OkOp mt Ev 82 pc o ∧ Gw o := (tN_ok (tN_ok (tN_ok (tN_ok (tL_ok ⟨k_82_0, gw_iload⟩) (tN_ok (tL_ok ⟨k_82_1, gw_push⟩) (tL_ok ⟨k_82_2, gw_if2⟩))) (tN_ok (tN_ok (tL_ok ⟨k_82_5, gw_aload⟩) (tL_ok ⟨k_82_6, gw_getf⟩)) (tN_ok (tL_ok ⟨k_82_9, gw_getf⟩) (tL_ok ⟨k_82_12, gw_cv⟩)))) (tN_ok (tN_ok (tL_ok ⟨k_82_15, gw_ret⟩) (tN_ok (tL_ok ⟨k_82_16, gw_aload⟩) (tL_ok ⟨k_82_17, gw_getf⟩))) (tN_ok (tN_ok (tL_ok ⟨k_82_20, gw_iload⟩) (tL_ok ⟨k_82_21, gw_cv⟩)) (tN_ok (tL_ok ⟨k_82_24, gw_ifnull⟩) (tL_ok ⟨k_82_27, gw_iload⟩))))) (tN_ok (tN_ok (tN_ok (tL_ok ⟨k_82_28, gw_push⟩) (tN_ok (tL_ok ⟨k_82_29, gw_if2⟩) (tL_ok ⟨k_82_32, gw_iload⟩))) (tN_ok (tN_ok (tL_ok ⟨k_82_33, gw_cs⟩) (tL_ok ⟨k_82_36, gw_if1⟩)) (tN_ok (tL_ok ⟨k_82_39, gw_push⟩) (tL_ok ⟨k_82_40, gw_ret⟩)))) (tN_ok (tN_ok (tL_ok ⟨k_82_41, gw_aload⟩) (tN_ok (tL_ok ⟨k_82_42, gw_getf⟩) (tL_ok ⟨k_82_45, gw_getf⟩))) (tN_ok (tN_ok (tL_ok ⟨k_82_48, gw_iload⟩) (tL_ok ⟨k_82_49, gw_iload⟩)) (tN_ok (tL_ok ⟨k_82_50, gw_cv⟩) (tL_ok ⟨k_82_53, gw_ret⟩))))))
theorem k_83_0 : OkOp mt Ev 83 0 (o_aload 0 1) := ok_aload_n (k := 0) (by decide +kernel) rfl
theorem k_83_1 : OkOp mt Ev 83 1 (o_getf 0 [11]) := ok_getf (i := 12) (rf := "BridgeSentences") (nm := "now") (ds := "LBridgeSentences$World;") (by decide +kernel) fc_37 wd_218
theorem k_83_4 : OkOp mt Ev 83 4 (o_iload 1 1) := ok_iload_n (k := 1) (by decide +kernel) rfl
theorem k_83_5 : OkOp mt Ev 83 5 (o_cv [(10, 51)] 1) := ok_cv (i := 80) (by decide +kernel) vc_112
theorem k_83_8 : OkOp mt Ev 83 8 (o_astore 3 1) := ok_astore_n (k := 3) (by decide +kernel) rfl
theorem k_83_9 : OkOp mt Ev 83 9 (o_aload 3 1) := ok_aload_n (k := 3) (by decide +kernel) rfl
theorem k_83_10 : OkOp mt Ev 83 10 (o_ifnull 22) := ok_ifnull (off := 12) (by decide +kernel) (by decide +kernel)
theorem k_83_13 : OkOp mt Ev 83 13 (o_iload 2 1) := ok_iload_n (k := 2) (by decide +kernel) rfl
theorem k_83_14 : OkOp mt Ev 83 14 (o_if1 (fun x => decide (x < 0)) 22) := ok_if_lt (off := 8) (by decide +kernel) (by decide +kernel)
theorem k_83_17 : OkOp mt Ev 83 17 (o_iload 2 1) := ok_iload_n (k := 2) (by decide +kernel) rfl
theorem k_83_18 : OkOp mt Ev 83 18 (o_push (.int (1)) 1) := ok_iconst (n := 1) (by decide +kernel) (by decide +kernel)
theorem k_83_19 : OkOp mt Ev 83 19 (o_if2 (fun x y => decide (x ≤ y)) 24) := ok_icmp_le (off := 5) (by decide +kernel) (by decide +kernel)
theorem k_83_22 : OkOp mt Ev 83 22 (o_push (.int (-1)) 1) := ok_iconst (n := -1) (by decide +kernel) (by decide +kernel)
theorem k_83_23 : OkOp mt Ev 83 23 (o_ret 0) := ok_reti (ty := .int) (by decide +kernel) rfl (Or.inl ⟨rfl, rfl⟩)
theorem k_83_24 : OkOp mt Ev 83 24 (o_push (.int (0)) 1) := ok_iconst (n := 0) (by decide +kernel) (by decide +kernel)
theorem k_83_25 : OkOp mt Ev 83 25 (o_istore 4 2) := ok_istore (by decide +kernel)
theorem k_83_27 : OkOp mt Ev 83 27 (o_push (.int (-5)) 2) := ok_bipush (n := -5) (by decide +kernel) (by decide +kernel)
theorem k_83_29 : OkOp mt Ev 83 29 (o_istore 5 2) := ok_istore (by decide +kernel)
theorem k_83_31 : OkOp mt Ev 83 31 (o_aload 0 1) := ok_aload_n (k := 0) (by decide +kernel) rfl
theorem k_83_32 : OkOp mt Ev 83 32 (o_getf 1 [11]) := ok_getf (i := 18) (rf := "BridgeSentences") (nm := "trial") (ds := "LBridgeSentences$World;") (by decide +kernel) fc_38 wd_219
theorem k_83_35 : OkOp mt Ev 83 35 (o_aload 0 1) := ok_aload_n (k := 0) (by decide +kernel) rfl
theorem k_83_36 : OkOp mt Ev 83 36 (o_getf 0 [11]) := ok_getf (i := 12) (rf := "BridgeSentences") (nm := "now") (ds := "LBridgeSentences$World;") (by decide +kernel) fc_37 wd_218
theorem k_83_39 : OkOp mt Ev 83 39 (o_cv [(10, 49)] 1) := ok_cv (i := 180) (by decide +kernel) vc_124
theorem k_83_42 : OkOp mt Ev 83 42 (o_push (.int (9)) 2) := ok_bipush (n := 9) (by decide +kernel) (by decide +kernel)
theorem k_83_44 : OkOp mt Ev 83 44 (o_istore 6 2) := ok_istore (by decide +kernel)
theorem k_83_46 : OkOp mt Ev 83 46 (o_iload 6 2) := ok_iload (by decide +kernel)
theorem k_83_48 : OkOp mt Ev 83 48 (o_if1 (fun x => decide (x < 0)) 74) := ok_if_lt (off := 26) (by decide +kernel) (by decide +kernel)
theorem k_83_51 : OkOp mt Ev 83 51 (o_aload 0 1) := ok_aload_n (k := 0) (by decide +kernel) rfl
theorem k_83_52 : OkOp mt Ev 83 52 (o_iload 1 1) := ok_iload_n (k := 1) (by decide +kernel) rfl
theorem k_83_53 : OkOp mt Ev 83 53 (o_iload 6 2) := ok_iload (by decide +kernel)
theorem k_83_55 : OkOp mt Ev 83 55 (o_cv [(11, 120)] 2) := ok_cv (i := 201) (by decide +kernel) vc_128
theorem k_83_58 : OkOp mt Ev 83 58 (o_if1 (fun x => decide (x = 0)) 68) := ok_if_eq (off := 10) (by decide +kernel) (by decide +kernel)
theorem k_83_61 : OkOp mt Ev 83 61 (o_iinc 4 (1)) := ok_iinc (n := 1) (by decide +kernel) (by decide +kernel)
theorem k_83_64 : OkOp mt Ev 83 64 (o_iload 6 2) := ok_iload (by decide +kernel)
theorem k_83_66 : OkOp mt Ev 83 66 (o_istore 5 2) := ok_istore (by decide +kernel)
theorem k_83_68 : OkOp mt Ev 83 68 (o_iinc 6 (-1)) := ok_iinc (n := -1) (by decide +kernel) (by decide +kernel)
theorem k_83_71 : OkOp mt Ev 83 71 (o_goto 46) := ok_goto (off := -25) (by decide +kernel) (by decide +kernel)
theorem k_83_74 : OkOp mt Ev 83 74 (o_iload 2 1) := ok_iload_n (k := 2) (by decide +kernel) rfl
theorem k_83_75 : OkOp mt Ev 83 75 (o_if1 (fun x => decide (¬ x = 0)) 83) := ok_if_ne (off := 8) (by decide +kernel) (by decide +kernel)
theorem k_83_78 : OkOp mt Ev 83 78 (o_iload 4 2) := ok_iload (by decide +kernel)
theorem k_83_80 : OkOp mt Ev 83 80 (o_goto 85) := ok_goto (off := 5) (by decide +kernel) (by decide +kernel)
theorem k_83_83 : OkOp mt Ev 83 83 (o_iload 5 2) := ok_iload (by decide +kernel)
theorem k_83_85 : OkOp mt Ev 83 85 (o_ret 0) := ok_reti (ty := .int) (by decide +kernel) rfl (Or.inl ⟨rfl, rfl⟩)
theorem kt_83 : ∀ pc o, cd_X11_can Ev pc = some o → OkOp mt Ev 83 pc o ∧ Gw o := (tN_ok (tN_ok (tN_ok (tN_ok (tN_ok (tL_ok ⟨k_83_0, gw_aload⟩) (tL_ok ⟨k_83_1, gw_getf⟩)) (tN_ok (tL_ok ⟨k_83_4, gw_iload⟩) (tN_ok (tL_ok ⟨k_83_5, gw_cv⟩) (tL_ok ⟨k_83_8, gw_astore⟩)))) (tN_ok (tN_ok (tL_ok ⟨k_83_9, gw_aload⟩) (tL_ok ⟨k_83_10, gw_ifnull⟩)) (tN_ok (tL_ok ⟨k_83_13, gw_iload⟩) (tN_ok (tL_ok ⟨k_83_14, gw_if1⟩) (tL_ok ⟨k_83_17, gw_iload⟩))))) (tN_ok (tN_ok (tN_ok (tL_ok ⟨k_83_18, gw_push⟩) (tL_ok ⟨k_83_19, gw_if2⟩)) (tN_ok (tL_ok ⟨k_83_22, gw_push⟩) (tN_ok (tL_ok ⟨k_83_23, gw_ret⟩) (tL_ok ⟨k_83_24, gw_push⟩)))) (tN_ok (tN_ok (tL_ok ⟨k_83_25, gw_istore⟩) (tN_ok (tL_ok ⟨k_83_27, gw_push⟩) (tL_ok ⟨k_83_29, gw_istore⟩))) (tN_ok (tL_ok ⟨k_83_31, gw_aload⟩) (tN_ok (tL_ok ⟨k_83_32, gw_getf⟩) (tL_ok ⟨k_83_35, gw_aload⟩)))))) (tN_ok (tN_ok (tN_ok (tN_ok (tL_ok ⟨k_83_36, gw_getf⟩) (tL_ok ⟨k_83_39, gw_cv⟩)) (tN_ok (tL_ok ⟨k_83_42, gw_push⟩) (tN_ok (tL_ok ⟨k_83_44, gw_istore⟩) (tL_ok ⟨k_83_46, gw_iload⟩)))) (tN_ok (tN_ok (tL_ok ⟨k_83_48, gw_if1⟩) (tN_ok (tL_ok ⟨k_83_51, gw_aload⟩) (tL_ok ⟨k_83_52, gw_iload⟩))) (tN_ok (tL_ok ⟨k_83_53, gw_iload⟩) (tN_ok (tL_ok ⟨k_83_55, gw_cv⟩) (tL_ok ⟨k_83_58, gw_if1⟩))))) (tN_ok (tN_ok (tN_ok (tL_ok ⟨k_83_61, gw_iinc⟩) (tL_ok ⟨k_83_64, gw_iload⟩)) (tN_ok (tL_ok ⟨k_83_66, gw_istore⟩) (tN_ok (tL_ok ⟨k_83_68, gw_iinc⟩) (tL_ok ⟨k_83_71, gw_goto⟩)))) (tN_ok (tN_ok (tL_ok ⟨k_83_74, gw_iload⟩) (tN_ok (tL_ok ⟨k_83_75, gw_if1⟩) (tL_ok ⟨k_83_78, gw_iload⟩))) (tN_ok (tL_ok ⟨k_83_80, gw_goto⟩) (tN_ok (tL_ok ⟨k_83_83, gw_iload⟩) (tL_ok ⟨k_83_85, gw_ret⟩)))))))
theorem k_84_0 : OkOp mt Ev 84 0 (o_aload 0 1) := ok_aload_n (k := 0) (by decide +kernel) rfl
theorem k_84_1 : OkOp mt Ev 84 1 (o_getf 0 [11]) := ok_getf (i := 12) (rf := "BridgeSentences") (nm := "now") (ds := "LBridgeSentences$World;") (by decide +kernel) fc_37 wd_218
theorem k_84_4 : OkOp mt Ev 84 4 (o_iload 1 1) := ok_iload_n (k := 1) (by decide +kernel) rfl
theorem k_84_5 : OkOp mt Ev 84 5 (o_cv [(10, 51)] 1) := ok_cv (i := 80) (by decide +kernel) vc_112
theorem k_84_8 : OkOp mt Ev 84 8 (o_astore 3 1) := ok_astore_n (k := 3) (by decide +kernel) rfl
theorem k_84_9 : OkOp mt Ev 84 9 (o_aload 3 1) := ok_aload_n (k := 3) (by decide +kernel) rfl
theorem k_84_10 : OkOp mt Ev 84 10 (o_ifnull 20) := ok_ifnull (off := 10) (by decide +kernel) (by decide +kernel)
theorem k_84_13 : OkOp mt Ev 84 13 (o_iload 2 1) := ok_iload_n (k := 2) (by decide +kernel) rfl
theorem k_84_14 : OkOp mt Ev 84 14 (o_cs 105 1) := ok_cs (i := 205) (by decide +kernel) wd_803 wd_804 wd_56 wd_805 nk_23
theorem k_84_17 : OkOp mt Ev 84 17 (o_if1 (fun x => decide (¬ x = 0)) 24) := ok_if_ne (off := 7) (by decide +kernel) (by decide +kernel)
theorem k_84_20 : OkOp mt Ev 84 20 (o_push (.long (-9223372036854775808)) 3) := ok_ldc2 (i := 208) (by decide +kernel) wd_806
theorem k_84_23 : OkOp mt Ev 84 23 (o_ret 2) := ok_retl (by decide +kernel) rfl
theorem k_84_24 : OkOp mt Ev 84 24 (o_aload 0 1) := ok_aload_n (k := 0) (by decide +kernel) rfl
theorem k_84_25 : OkOp mt Ev 84 25 (o_getf 0 [11]) := ok_getf (i := 12) (rf := "BridgeSentences") (nm := "now") (ds := "LBridgeSentences$World;") (by decide +kernel) fc_37 wd_218
theorem k_84_28 : OkOp mt Ev 84 28 (o_aload 3 1) := ok_aload_n (k := 3) (by decide +kernel) rfl
theorem k_84_29 : OkOp mt Ev 84 29 (o_aload 3 1) := ok_aload_n (k := 3) (by decide +kernel) rfl
theorem k_84_30 : OkOp mt Ev 84 30 (o_getf 3 [1, 2, 3, 4, 5, 6, 8]) := ok_getf (i := 70) (rf := "BridgeSentences$One") (nm := "has") (ds := "I") (by decide +kernel) fc_14 wd_287
theorem k_84_33 : OkOp mt Ev 84 33 (o_cv [(10, 58)] 2) := ok_cv (i := 94) (by decide +kernel) vc_113
theorem k_84_36 : OkOp mt Ev 84 36 (o_istore 4 2) := ok_istore (by decide +kernel)
theorem k_84_38 : OkOp mt Ev 84 38 (o_push (.int (0)) 1) := ok_iconst (n := 0) (by decide +kernel) (by decide +kernel)
theorem k_84_39 : OkOp mt Ev 84 39 (o_istore 5 2) := ok_istore (by decide +kernel)
theorem k_84_41 : OkOp mt Ev 84 41 (o_push (.int (0)) 1) := ok_iconst (n := 0) (by decide +kernel) (by decide +kernel)
theorem k_84_42 : OkOp mt Ev 84 42 (o_istore 6 2) := ok_istore (by decide +kernel)
theorem k_84_44 : OkOp mt Ev 84 44 (o_iload 6 2) := ok_iload (by decide +kernel)
theorem k_84_46 : OkOp mt Ev 84 46 (o_push (.int (12)) 2) := ok_bipush (n := 12) (by decide +kernel) (by decide +kernel)
theorem k_84_48 : OkOp mt Ev 84 48 (o_if2 (fun x y => decide (y ≤ x)) 91) := ok_icmp_ge (off := 43) (by decide +kernel) (by decide +kernel)
theorem k_84_51 : OkOp mt Ev 84 51 (o_aload 0 1) := ok_aload_n (k := 0) (by decide +kernel) rfl
theorem k_84_52 : OkOp mt Ev 84 52 (o_getf 0 [11]) := ok_getf (i := 12) (rf := "BridgeSentences") (nm := "now") (ds := "LBridgeSentences$World;") (by decide +kernel) fc_37 wd_218
theorem k_84_55 : OkOp mt Ev 84 55 (o_aload 3 1) := ok_aload_n (k := 3) (by decide +kernel) rfl
theorem k_84_56 : OkOp mt Ev 84 56 (o_aload 3 1) := ok_aload_n (k := 3) (by decide +kernel) rfl
theorem k_84_57 : OkOp mt Ev 84 57 (o_getf 3 [1, 2, 3, 4, 5, 6, 8]) := ok_getf (i := 70) (rf := "BridgeSentences$One") (nm := "has") (ds := "I") (by decide +kernel) fc_14 wd_287
theorem k_84_60 : OkOp mt Ev 84 60 (o_push (.int (1)) 1) := ok_iconst (n := 1) (by decide +kernel) (by decide +kernel)
theorem k_84_61 : OkOp mt Ev 84 61 (o_iload 6 2) := ok_iload (by decide +kernel)
theorem k_84_63 : OkOp mt Ev 84 63 (o_ib (fun x y => x <<< (y &&& 31))) := ok_ishl (by decide +kernel)
theorem k_84_64 : OkOp mt Ev 84 64 (o_ib (fun x y => x ||| y)) := ok_ior (by decide +kernel)
theorem k_84_65 : OkOp mt Ev 84 65 (o_cv [(10, 58)] 2) := ok_cv (i := 94) (by decide +kernel) vc_113
theorem k_84_68 : OkOp mt Ev 84 68 (o_istore 7 2) := ok_istore (by decide +kernel)
theorem k_84_70 : OkOp mt Ev 84 70 (o_iload 7 2) := ok_iload (by decide +kernel)
theorem k_84_72 : OkOp mt Ev 84 72 (o_if1 (fun x => decide (x < 0)) 85) := ok_if_lt (off := 13) (by decide +kernel) (by decide +kernel)
theorem k_84_75 : OkOp mt Ev 84 75 (o_iload 7 2) := ok_iload (by decide +kernel)
theorem k_84_77 : OkOp mt Ev 84 77 (o_iload 4 2) := ok_iload (by decide +kernel)
theorem k_84_79 : OkOp mt Ev 84 79 (o_if2 (fun x y => decide (x = y)) 85) := ok_icmp_eq (off := 6) (by decide +kernel) (by decide +kernel)
theorem k_84_82 : OkOp mt Ev 84 82 (o_iinc 5 (1)) := ok_iinc (n := 1) (by decide +kernel) (by decide +kernel)
theorem k_84_85 : OkOp mt Ev 84 85 (o_iinc 6 (1)) := ok_iinc (n := 1) (by decide +kernel) (by decide +kernel)
theorem k_84_88 : OkOp mt Ev 84 88 (o_goto 44) := ok_goto (off := -44) (by decide +kernel) (by decide +kernel)
theorem k_84_91 : OkOp mt Ev 84 91 (o_iload 5 2) := ok_iload (by decide +kernel)
theorem k_84_93 : OkOp mt Ev 84 93 (o_push (.int (12)) 2) := ok_bipush (n := 12) (by decide +kernel) (by decide +kernel)
theorem k_84_95 : OkOp mt Ev 84 95 (o_iload 2 1) := ok_iload_n (k := 2) (by decide +kernel) rfl
theorem k_84_96 : OkOp mt Ev 84 96 (o_cs 110 3) := ok_cs (i := 210) (by decide +kernel) wd_807 wd_808 wd_56 wd_809 nk_24
theorem k_84_99 : OkOp mt Ev 84 99 (o_ret 2) := ok_retl (by decide +kernel) rfl
theorem kt_84 : ∀ pc o, cd_X11_odds Ev pc = some o → OkOp mt Ev 84 pc o ∧ Gw o := (tN_ok (tN_ok (tN_ok (tN_ok (tN_ok (tL_ok ⟨k_84_0, gw_aload⟩) (tN_ok (tL_ok ⟨k_84_1, gw_getf⟩) (tL_ok ⟨k_84_4, gw_iload⟩))) (tN_ok (tL_ok ⟨k_84_5, gw_cv⟩) (tN_ok (tL_ok ⟨k_84_8, gw_astore⟩) (tL_ok ⟨k_84_9, gw_aload⟩)))) (tN_ok (tN_ok (tL_ok ⟨k_84_10, gw_ifnull⟩) (tN_ok (tL_ok ⟨k_84_13, gw_iload⟩) (tL_ok ⟨k_84_14, gw_cs⟩))) (tN_ok (tL_ok ⟨k_84_17, gw_if1⟩) (tN_ok (tL_ok ⟨k_84_20, gw_push⟩) (tL_ok ⟨k_84_23, gw_ret⟩))))) (tN_ok (tN_ok (tN_ok (tL_ok ⟨k_84_24, gw_aload⟩) (tN_ok (tL_ok ⟨k_84_25, gw_getf⟩) (tL_ok ⟨k_84_28, gw_aload⟩))) (tN_ok (tL_ok ⟨k_84_29, gw_aload⟩) (tN_ok (tL_ok ⟨k_84_30, gw_getf⟩) (tL_ok ⟨k_84_33, gw_cv⟩)))) (tN_ok (tN_ok (tL_ok ⟨k_84_36, gw_istore⟩) (tN_ok (tL_ok ⟨k_84_38, gw_push⟩) (tL_ok ⟨k_84_39, gw_istore⟩))) (tN_ok (tN_ok (tL_ok ⟨k_84_41, gw_push⟩) (tL_ok ⟨k_84_42, gw_istore⟩)) (tN_ok (tL_ok ⟨k_84_44, gw_iload⟩) (tL_ok ⟨k_84_46, gw_push⟩)))))) (tN_ok (tN_ok (tN_ok (tN_ok (tL_ok ⟨k_84_48, gw_if2⟩) (tN_ok (tL_ok ⟨k_84_51, gw_aload⟩) (tL_ok ⟨k_84_52, gw_getf⟩))) (tN_ok (tL_ok ⟨k_84_55, gw_aload⟩) (tN_ok (tL_ok ⟨k_84_56, gw_aload⟩) (tL_ok ⟨k_84_57, gw_getf⟩)))) (tN_ok (tN_ok (tL_ok ⟨k_84_60, gw_push⟩) (tN_ok (tL_ok ⟨k_84_61, gw_iload⟩) (tL_ok ⟨k_84_63, gw_ib⟩))) (tN_ok (tL_ok ⟨k_84_64, gw_ib⟩) (tN_ok (tL_ok ⟨k_84_65, gw_cv⟩) (tL_ok ⟨k_84_68, gw_istore⟩))))) (tN_ok (tN_ok (tN_ok (tL_ok ⟨k_84_70, gw_iload⟩) (tN_ok (tL_ok ⟨k_84_72, gw_if1⟩) (tL_ok ⟨k_84_75, gw_iload⟩))) (tN_ok (tL_ok ⟨k_84_77, gw_iload⟩) (tN_ok (tL_ok ⟨k_84_79, gw_if2⟩) (tL_ok ⟨k_84_82, gw_iinc⟩)))) (tN_ok (tN_ok (tL_ok ⟨k_84_85, gw_iinc⟩) (tN_ok (tL_ok ⟨k_84_88, gw_goto⟩) (tL_ok ⟨k_84_91, gw_iload⟩))) (tN_ok (tN_ok (tL_ok ⟨k_84_93, gw_push⟩) (tL_ok ⟨k_84_95, gw_iload⟩)) (tN_ok (tL_ok ⟨k_84_96, gw_cs⟩) (tL_ok ⟨k_84_99, gw_ret⟩)))))))
theorem k_85_0 : OkOp mt Ev 85 0 (o_iload 1 1) := ok_iload_n (k := 1) (by decide +kernel) rfl
theorem k_85_1 : OkOp mt Ev 85 1 (o_cs 104 1) := ok_cs (i := 173) (by decide +kernel) wd_759 wd_760 wd_56 wd_761 nk_22
theorem k_85_4 : OkOp mt Ev 85 4 (o_if1 (fun x => decide (x = 0)) 14) := ok_if_eq (off := 10) (by decide +kernel) (by decide +kernel)
theorem k_85_7 : OkOp mt Ev 85 7 (o_iload 2 1) := ok_iload_n (k := 2) (by decide +kernel) rfl
theorem k_85_8 : OkOp mt Ev 85 8 (o_cs 105 1) := ok_cs (i := 205) (by decide +kernel) wd_803 wd_804 wd_56 wd_805 nk_23
theorem k_85_11 : OkOp mt Ev 85 11 (o_if1 (fun x => decide (¬ x = 0)) 18) := ok_if_ne (off := 7) (by decide +kernel) (by decide +kernel)
theorem k_85_14 : OkOp mt Ev 85 14 (o_push (.long (-9223372036854775808)) 3) := ok_ldc2 (i := 208) (by decide +kernel) wd_806
theorem k_85_17 : OkOp mt Ev 85 17 (o_ret 2) := ok_retl (by decide +kernel) rfl
theorem k_85_18 : OkOp mt Ev 85 18 (o_aload 0 1) := ok_aload_n (k := 0) (by decide +kernel) rfl
theorem k_85_19 : OkOp mt Ev 85 19 (o_getf 1 [11]) := ok_getf (i := 18) (rf := "BridgeSentences") (nm := "trial") (ds := "LBridgeSentences$World;") (by decide +kernel) fc_38 wd_219
theorem k_85_22 : OkOp mt Ev 85 22 (o_aload 0 1) := ok_aload_n (k := 0) (by decide +kernel) rfl
theorem k_85_23 : OkOp mt Ev 85 23 (o_getf 0 [11]) := ok_getf (i := 12) (rf := "BridgeSentences") (nm := "now") (ds := "LBridgeSentences$World;") (by decide +kernel) fc_37 wd_218
theorem k_85_26 : OkOp mt Ev 85 26 (o_cv [(10, 49)] 1) := ok_cv (i := 180) (by decide +kernel) vc_124
theorem k_85_29 : OkOp mt Ev 85 29 (o_aload 0 1) := ok_aload_n (k := 0) (by decide +kernel) rfl
theorem k_85_30 : OkOp mt Ev 85 30 (o_getf 1 [11]) := ok_getf (i := 18) (rf := "BridgeSentences") (nm := "trial") (ds := "LBridgeSentences$World;") (by decide +kernel) fc_38 wd_219
theorem k_85_33 : OkOp mt Ev 85 33 (o_iload 1 1) := ok_iload_n (k := 1) (by decide +kernel) rfl
theorem k_85_34 : OkOp mt Ev 85 34 (o_push (.int (2147483647)) 2) := ok_ldc (i := 184) (by decide +kernel) wd_731
theorem k_85_36 : OkOp mt Ev 85 36 (o_cv [(10, 59)] 2) := ok_cv (i := 176) (by decide +kernel) vc_123
theorem k_85_39 : OkOp mt Ev 85 39 (o_aload 0 1) := ok_aload_n (k := 0) (by decide +kernel) rfl
theorem k_85_40 : OkOp mt Ev 85 40 (o_getf 1 [11]) := ok_getf (i := 18) (rf := "BridgeSentences") (nm := "trial") (ds := "LBridgeSentences$World;") (by decide +kernel) fc_38 wd_219
theorem k_85_43 : OkOp mt Ev 85 43 (o_cv [(10, 55)] 0) := ok_cv (i := 214) (by decide +kernel) vc_129
theorem k_85_46 : OkOp mt Ev 85 46 (o_aload 0 1) := ok_aload_n (k := 0) (by decide +kernel) rfl
theorem k_85_47 : OkOp mt Ev 85 47 (o_getf 1 [11]) := ok_getf (i := 18) (rf := "BridgeSentences") (nm := "trial") (ds := "LBridgeSentences$World;") (by decide +kernel) fc_38 wd_219
theorem k_85_50 : OkOp mt Ev 85 50 (o_getf 4 [10]) := ok_getf (i := 161) (rf := "BridgeSentences$World") (nm := "heardSet") (ds := "I") (by decide +kernel) fc_34 wd_128
theorem k_85_53 : OkOp mt Ev 85 53 (o_cs 195 1) := ok_cs (i := 115) (by decide +kernel) wd_534 wd_404 wd_70 wd_405 nk_13
theorem k_85_56 : OkOp mt Ev 85 56 (o_iload 2 1) := ok_iload_n (k := 2) (by decide +kernel) rfl
theorem k_85_57 : OkOp mt Ev 85 57 (o_cs 110 3) := ok_cs (i := 210) (by decide +kernel) wd_807 wd_808 wd_56 wd_809 nk_24
theorem k_85_60 : OkOp mt Ev 85 60 (o_ret 2) := ok_retl (by decide +kernel) rfl
theorem kt_85 : ∀ pc o, cd_X11_mean Ev pc = some o → OkOp mt Ev 85 pc o ∧ Gw o := (tN_ok (tN_ok (tN_ok (tN_ok (tL_ok ⟨k_85_0, gw_iload⟩) (tN_ok (tL_ok ⟨k_85_1, gw_cs⟩) (tL_ok ⟨k_85_4, gw_if1⟩))) (tN_ok (tN_ok (tL_ok ⟨k_85_7, gw_iload⟩) (tL_ok ⟨k_85_8, gw_cs⟩)) (tN_ok (tL_ok ⟨k_85_11, gw_if1⟩) (tL_ok ⟨k_85_14, gw_push⟩)))) (tN_ok (tN_ok (tL_ok ⟨k_85_17, gw_ret⟩) (tN_ok (tL_ok ⟨k_85_18, gw_aload⟩) (tL_ok ⟨k_85_19, gw_getf⟩))) (tN_ok (tN_ok (tL_ok ⟨k_85_22, gw_aload⟩) (tL_ok ⟨k_85_23, gw_getf⟩)) (tN_ok (tL_ok ⟨k_85_26, gw_cv⟩) (tL_ok ⟨k_85_29, gw_aload⟩))))) (tN_ok (tN_ok (tN_ok (tL_ok ⟨k_85_30, gw_getf⟩) (tN_ok (tL_ok ⟨k_85_33, gw_iload⟩) (tL_ok ⟨k_85_34, gw_push⟩))) (tN_ok (tN_ok (tL_ok ⟨k_85_36, gw_cv⟩) (tL_ok ⟨k_85_39, gw_aload⟩)) (tN_ok (tL_ok ⟨k_85_40, gw_getf⟩) (tL_ok ⟨k_85_43, gw_cv⟩)))) (tN_ok (tN_ok (tL_ok ⟨k_85_46, gw_aload⟩) (tN_ok (tL_ok ⟨k_85_47, gw_getf⟩) (tL_ok ⟨k_85_50, gw_getf⟩))) (tN_ok (tN_ok (tL_ok ⟨k_85_53, gw_cs⟩) (tL_ok ⟨k_85_56, gw_iload⟩)) (tN_ok (tL_ok ⟨k_85_57, gw_cs⟩) (tL_ok ⟨k_85_60, gw_ret⟩))))))
theorem k_86_0 : OkOp mt Ev 86 0 (o_iload 1 1) := ok_iload_n (k := 1) (by decide +kernel) rfl
theorem k_86_1 : OkOp mt Ev 86 1 (o_push (.int (-1)) 1) := ok_iconst (n := -1) (by decide +kernel) (by decide +kernel)
theorem k_86_2 : OkOp mt Ev 86 2 (o_if2 (fun x y => decide (¬ x = y)) 16) := ok_icmp_ne (off := 14) (by decide +kernel) (by decide +kernel)
theorem k_86_5 : OkOp mt Ev 86 5 (o_aload 0 1) := ok_aload_n (k := 0) (by decide +kernel) rfl
theorem k_86_6 : OkOp mt Ev 86 6 (o_getf 0 [11]) := ok_getf (i := 12) (rf := "BridgeSentences") (nm := "now") (ds := "LBridgeSentences$World;") (by decide +kernel) fc_37 wd_218
theorem k_86_9 : OkOp mt Ev 86 9 (o_getf 7 [10]) := ok_getf (i := 217) (rf := "BridgeSentences$World") (nm := "planned") (ds := "LBridgeSentences$Rows;") (by decide +kernel) fc_29 wd_134
theorem k_86_12 : OkOp mt Ev 86 12 (o_cv [(7, 38)] 0) := ok_cv (i := 192) (by decide +kernel) vc_126
theorem k_86_15 : OkOp mt Ev 86 15 (o_ret 0) := ok_reti (ty := .int) (by decide +kernel) rfl (Or.inl ⟨rfl, rfl⟩)
theorem k_86_16 : OkOp mt Ev 86 16 (o_iload 1 1) := ok_iload_n (k := 1) (by decide +kernel) rfl
theorem k_86_17 : OkOp mt Ev 86 17 (o_if1 (fun x => decide (x < 0)) 25) := ok_if_lt (off := 8) (by decide +kernel) (by decide +kernel)
theorem k_86_20 : OkOp mt Ev 86 20 (o_iload 1 1) := ok_iload_n (k := 1) (by decide +kernel) rfl
theorem k_86_21 : OkOp mt Ev 86 21 (o_push (.int (3)) 1) := ok_iconst (n := 3) (by decide +kernel) (by decide +kernel)
theorem k_86_22 : OkOp mt Ev 86 22 (o_if2 (fun x y => decide (x ≤ y)) 27) := ok_icmp_le (off := 5) (by decide +kernel) (by decide +kernel)
theorem k_86_25 : OkOp mt Ev 86 25 (o_push (.int (-1)) 1) := ok_iconst (n := -1) (by decide +kernel) (by decide +kernel)
theorem k_86_26 : OkOp mt Ev 86 26 (o_ret 0) := ok_reti (ty := .int) (by decide +kernel) rfl (Or.inl ⟨rfl, rfl⟩)
theorem k_86_27 : OkOp mt Ev 86 27 (o_iload 1 1) := ok_iload_n (k := 1) (by decide +kernel) rfl
theorem k_86_28 : OkOp mt Ev 86 28 (o_push (.int (1)) 1) := ok_iconst (n := 1) (by decide +kernel) (by decide +kernel)
theorem k_86_29 : OkOp mt Ev 86 29 (o_if2 (fun x y => decide (x = y)) 37) := ok_icmp_eq (off := 8) (by decide +kernel) (by decide +kernel)
theorem k_86_32 : OkOp mt Ev 86 32 (o_iload 1 1) := ok_iload_n (k := 1) (by decide +kernel) rfl
theorem k_86_33 : OkOp mt Ev 86 33 (o_push (.int (2)) 1) := ok_iconst (n := 2) (by decide +kernel) (by decide +kernel)
theorem k_86_34 : OkOp mt Ev 86 34 (o_if2 (fun x y => decide (¬ x = y)) 50) := ok_icmp_ne (off := 16) (by decide +kernel) (by decide +kernel)
theorem k_86_37 : OkOp mt Ev 86 37 (o_aload 0 1) := ok_aload_n (k := 0) (by decide +kernel) rfl
theorem k_86_38 : OkOp mt Ev 86 38 (o_getf 0 [11]) := ok_getf (i := 12) (rf := "BridgeSentences") (nm := "now") (ds := "LBridgeSentences$World;") (by decide +kernel) fc_37 wd_218
theorem k_86_41 : OkOp mt Ev 86 41 (o_iload 2 1) := ok_iload_n (k := 2) (by decide +kernel) rfl
theorem k_86_42 : OkOp mt Ev 86 42 (o_cv [(10, 51)] 1) := ok_cv (i := 80) (by decide +kernel) vc_112
theorem k_86_45 : OkOp mt Ev 86 45 (o_ifnonnull 50) := ok_ifnonnull (off := 5) (by decide +kernel) (by decide +kernel)
theorem k_86_48 : OkOp mt Ev 86 48 (o_push (.int (-1)) 1) := ok_iconst (n := -1) (by decide +kernel) (by decide +kernel)
theorem k_86_49 : OkOp mt Ev 86 49 (o_ret 0) := ok_reti (ty := .int) (by decide +kernel) rfl (Or.inl ⟨rfl, rfl⟩)
theorem k_86_50 : OkOp mt Ev 86 50 (o_iload 1 1) := ok_iload_n (k := 1) (by decide +kernel) rfl
theorem k_86_51 : OkOp mt Ev 86 51 (o_push (.int (3)) 1) := ok_iconst (n := 3) (by decide +kernel) (by decide +kernel)
theorem k_86_52 : OkOp mt Ev 86 52 (o_if2 (fun x y => decide (¬ x = y)) 64) := ok_icmp_ne (off := 12) (by decide +kernel) (by decide +kernel)
theorem k_86_55 : OkOp mt Ev 86 55 (o_iload 2 1) := ok_iload_n (k := 2) (by decide +kernel) rfl
theorem k_86_56 : OkOp mt Ev 86 56 (o_cs 101 1) := ok_cs (i := 112) (by decide +kernel) wd_531 wd_532 wd_56 wd_533 nk_20
theorem k_86_59 : OkOp mt Ev 86 59 (o_if1 (fun x => decide (¬ x = 0)) 64) := ok_if_ne (off := 5) (by decide +kernel) (by decide +kernel)
theorem k_86_62 : OkOp mt Ev 86 62 (o_push (.int (-1)) 1) := ok_iconst (n := -1) (by decide +kernel) (by decide +kernel)
theorem k_86_63 : OkOp mt Ev 86 63 (o_ret 0) := ok_reti (ty := .int) (by decide +kernel) rfl (Or.inl ⟨rfl, rfl⟩)
theorem k_86_64 : OkOp mt Ev 86 64 (o_aload 0 1) := ok_aload_n (k := 0) (by decide +kernel) rfl
theorem k_86_65 : OkOp mt Ev 86 65 (o_getf 0 [11]) := ok_getf (i := 12) (rf := "BridgeSentences") (nm := "now") (ds := "LBridgeSentences$World;") (by decide +kernel) fc_37 wd_218
theorem k_86_68 : OkOp mt Ev 86 68 (o_getf 7 [10]) := ok_getf (i := 217) (rf := "BridgeSentences$World") (nm := "planned") (ds := "LBridgeSentences$Rows;") (by decide +kernel) fc_29 wd_134
theorem k_86_71 : OkOp mt Ev 86 71 (o_iload 1 1) := ok_iload_n (k := 1) (by decide +kernel) rfl
theorem k_86_72 : OkOp mt Ev 86 72 (o_iload 2 1) := ok_iload_n (k := 2) (by decide +kernel) rfl
theorem k_86_73 : OkOp mt Ev 86 73 (o_cv [(7, 39)] 2) := ok_cv (i := 197) (by decide +kernel) vc_127
theorem k_86_76 : OkOp mt Ev 86 76 (o_ret 0) := ok_reti (ty := .int) (by decide +kernel) rfl (Or.inl ⟨rfl, rfl⟩)
theorem kt_86 : ∀ pc o, cd_X11_plan Ev pc = some o → OkOp mt Ev 86 pc o ∧ Gw o := (tN_ok (tN_ok (tN_ok (tN_ok (tN_ok (tL_ok ⟨k_86_0, gw_iload⟩) (tL_ok ⟨k_86_1, gw_push⟩)) (tN_ok (tL_ok ⟨k_86_2, gw_if2⟩) (tN_ok (tL_ok ⟨k_86_5, gw_aload⟩) (tL_ok ⟨k_86_6, gw_getf⟩)))) (tN_ok (tN_ok (tL_ok ⟨k_86_9, gw_getf⟩) (tL_ok ⟨k_86_12, gw_cv⟩)) (tN_ok (tL_ok ⟨k_86_15, gw_ret⟩) (tN_ok (tL_ok ⟨k_86_16, gw_iload⟩) (tL_ok ⟨k_86_17, gw_if1⟩))))) (tN_ok (tN_ok (tN_ok (tL_ok ⟨k_86_20, gw_iload⟩) (tL_ok ⟨k_86_21, gw_push⟩)) (tN_ok (tL_ok ⟨k_86_22, gw_if2⟩) (tN_ok (tL_ok ⟨k_86_25, gw_push⟩) (tL_ok ⟨k_86_26, gw_ret⟩)))) (tN_ok (tN_ok (tL_ok ⟨k_86_27, gw_iload⟩) (tN_ok (tL_ok ⟨k_86_28, gw_push⟩) (tL_ok ⟨k_86_29, gw_if2⟩))) (tN_ok (tL_ok ⟨k_86_32, gw_iload⟩) (tN_ok (tL_ok ⟨k_86_33, gw_push⟩) (tL_ok ⟨k_86_34, gw_if2⟩)))))) (tN_ok (tN_ok (tN_ok (tN_ok (tL_ok ⟨k_86_37, gw_aload⟩) (tL_ok ⟨k_86_38, gw_getf⟩)) (tN_ok (tL_ok ⟨k_86_41, gw_iload⟩) (tN_ok (tL_ok ⟨k_86_42, gw_cv⟩) (tL_ok ⟨k_86_45, gw_ifnonnull⟩)))) (tN_ok (tN_ok (tL_ok ⟨k_86_48, gw_push⟩) (tN_ok (tL_ok ⟨k_86_49, gw_ret⟩) (tL_ok ⟨k_86_50, gw_iload⟩))) (tN_ok (tL_ok ⟨k_86_51, gw_push⟩) (tN_ok (tL_ok ⟨k_86_52, gw_if2⟩) (tL_ok ⟨k_86_55, gw_iload⟩))))) (tN_ok (tN_ok (tN_ok (tL_ok ⟨k_86_56, gw_cs⟩) (tL_ok ⟨k_86_59, gw_if1⟩)) (tN_ok (tL_ok ⟨k_86_62, gw_push⟩) (tN_ok (tL_ok ⟨k_86_63, gw_ret⟩) (tL_ok ⟨k_86_64, gw_aload⟩)))) (tN_ok (tN_ok (tL_ok ⟨k_86_65, gw_getf⟩) (tN_ok (tL_ok ⟨k_86_68, gw_getf⟩) (tL_ok ⟨k_86_71, gw_iload⟩))) (tN_ok (tL_ok ⟨k_86_72, gw_iload⟩) (tN_ok (tL_ok ⟨k_86_73, gw_cv⟩) (tL_ok ⟨k_86_76, gw_ret⟩)))))))
theorem k_87_0 : OkOp mt Ev 87 0 (o_iload 1 1) := ok_iload_n (k := 1) (by decide +kernel) rfl
theorem k_87_1 : OkOp mt Ev 87 1 (o_if1 (fun x => decide (x < 0)) 9) := ok_if_lt (off := 8) (by decide +kernel) (by decide +kernel)
theorem k_87_4 : OkOp mt Ev 87 4 (o_iload 1 1) := ok_iload_n (k := 1) (by decide +kernel) rfl
theorem k_87_5 : OkOp mt Ev 87 5 (o_push (.int (1)) 1) := ok_iconst (n := 1) (by decide +kernel) (by decide +kernel)
theorem k_87_6 : OkOp mt Ev 87 6 (o_if2 (fun x y => decide (x ≤ y)) 11) := ok_icmp_le (off := 5) (by decide +kernel) (by decide +kernel)
theorem k_87_9 : OkOp mt Ev 87 9 (o_push (.int (-1)) 1) := ok_iconst (n := -1) (by decide +kernel) (by decide +kernel)
theorem k_87_10 : OkOp mt Ev 87 10 (o_ret 0) := ok_reti (ty := .int) (by decide +kernel) rfl (Or.inl ⟨rfl, rfl⟩)
theorem k_87_11 : OkOp mt Ev 87 11 (o_aload 0 1) := ok_aload_n (k := 0) (by decide +kernel) rfl
theorem k_87_12 : OkOp mt Ev 87 12 (o_getf 1 [11]) := ok_getf (i := 18) (rf := "BridgeSentences") (nm := "trial") (ds := "LBridgeSentences$World;") (by decide +kernel) fc_38 wd_219
theorem k_87_15 : OkOp mt Ev 87 15 (o_aload 0 1) := ok_aload_n (k := 0) (by decide +kernel) rfl
theorem k_87_16 : OkOp mt Ev 87 16 (o_getf 0 [11]) := ok_getf (i := 12) (rf := "BridgeSentences") (nm := "now") (ds := "LBridgeSentences$World;") (by decide +kernel) fc_37 wd_218
theorem k_87_19 : OkOp mt Ev 87 19 (o_cv [(10, 49)] 1) := ok_cv (i := 180) (by decide +kernel) vc_124
theorem k_87_22 : OkOp mt Ev 87 22 (o_push (.int (0)) 1) := ok_iconst (n := 0) (by decide +kernel) (by decide +kernel)
theorem k_87_23 : OkOp mt Ev 87 23 (o_istore 2 1) := ok_istore_n (k := 2) (by decide +kernel) rfl
theorem k_87_24 : OkOp mt Ev 87 24 (o_iload 2 1) := ok_iload_n (k := 2) (by decide +kernel) rfl
theorem k_87_25 : OkOp mt Ev 87 25 (o_aload 0 1) := ok_aload_n (k := 0) (by decide +kernel) rfl
theorem k_87_26 : OkOp mt Ev 87 26 (o_getf 0 [11]) := ok_getf (i := 12) (rf := "BridgeSentences") (nm := "now") (ds := "LBridgeSentences$World;") (by decide +kernel) fc_37 wd_218
theorem k_87_29 : OkOp mt Ev 87 29 (o_getf 7 [10]) := ok_getf (i := 217) (rf := "BridgeSentences$World") (nm := "planned") (ds := "LBridgeSentences$Rows;") (by decide +kernel) fc_29 wd_134
theorem k_87_32 : OkOp mt Ev 87 32 (o_getf 2 [7]) := ok_getf (i := 220) (rf := "BridgeSentences$Rows") (nm := "size") (ds := "I") (by decide +kernel) fc_21 wd_110
theorem k_87_35 : OkOp mt Ev 87 35 (o_if2 (fun x y => decide (y ≤ x)) 72) := ok_icmp_ge (off := 37) (by decide +kernel) (by decide +kernel)
theorem k_87_38 : OkOp mt Ev 87 38 (o_aload 0 1) := ok_aload_n (k := 0) (by decide +kernel) rfl
theorem k_87_39 : OkOp mt Ev 87 39 (o_aload 0 1) := ok_aload_n (k := 0) (by decide +kernel) rfl
theorem k_87_40 : OkOp mt Ev 87 40 (o_getf 0 [11]) := ok_getf (i := 12) (rf := "BridgeSentences") (nm := "now") (ds := "LBridgeSentences$World;") (by decide +kernel) fc_37 wd_218
theorem k_87_43 : OkOp mt Ev 87 43 (o_getf 7 [10]) := ok_getf (i := 217) (rf := "BridgeSentences$World") (nm := "planned") (ds := "LBridgeSentences$Rows;") (by decide +kernel) fc_29 wd_134
theorem k_87_46 : OkOp mt Ev 87 46 (o_getf 0 [7]) := ok_getf (i := 223) (rf := "BridgeSentences$Rows") (nm := "first") (ds := "[I") (by decide +kernel) fc_19 wd_104
theorem k_87_49 : OkOp mt Ev 87 49 (o_iload 2 1) := ok_iload_n (k := 2) (by decide +kernel) rfl
theorem k_87_50 : OkOp mt Ev 87 50 (o_iald 2) := ok_iald (by decide +kernel)
theorem k_87_51 : OkOp mt Ev 87 51 (o_aload 0 1) := ok_aload_n (k := 0) (by decide +kernel) rfl
theorem k_87_52 : OkOp mt Ev 87 52 (o_getf 0 [11]) := ok_getf (i := 12) (rf := "BridgeSentences") (nm := "now") (ds := "LBridgeSentences$World;") (by decide +kernel) fc_37 wd_218
theorem k_87_55 : OkOp mt Ev 87 55 (o_getf 7 [10]) := ok_getf (i := 217) (rf := "BridgeSentences$World") (nm := "planned") (ds := "LBridgeSentences$Rows;") (by decide +kernel) fc_29 wd_134
theorem k_87_58 : OkOp mt Ev 87 58 (o_getf 1 [7]) := ok_getf (i := 226) (rf := "BridgeSentences$Rows") (nm := "second") (ds := "[I") (by decide +kernel) fc_20 wd_107
theorem k_87_61 : OkOp mt Ev 87 61 (o_iload 2 1) := ok_iload_n (k := 2) (by decide +kernel) rfl
theorem k_87_62 : OkOp mt Ev 87 62 (o_iald 2) := ok_iald (by decide +kernel)
theorem k_87_63 : OkOp mt Ev 87 63 (o_cv [(11, 121)] 2) := ok_cv (i := 229) (by decide +kernel) vc_130
theorem k_87_66 : OkOp mt Ev 87 66 (o_iinc 2 (1)) := ok_iinc (n := 1) (by decide +kernel) (by decide +kernel)
theorem k_87_69 : OkOp mt Ev 87 69 (o_goto 24) := ok_goto (off := -45) (by decide +kernel) (by decide +kernel)
theorem k_87_72 : OkOp mt Ev 87 72 (o_iload 1 1) := ok_iload_n (k := 1) (by decide +kernel) rfl
theorem k_87_73 : OkOp mt Ev 87 73 (o_if1 (fun x => decide (¬ x = 0)) 86) := ok_if_ne (off := 13) (by decide +kernel) (by decide +kernel)
theorem k_87_76 : OkOp mt Ev 87 76 (o_aload 0 1) := ok_aload_n (k := 0) (by decide +kernel) rfl
theorem k_87_77 : OkOp mt Ev 87 77 (o_getf 1 [11]) := ok_getf (i := 18) (rf := "BridgeSentences") (nm := "trial") (ds := "LBridgeSentences$World;") (by decide +kernel) fc_38 wd_219
theorem k_87_80 : OkOp mt Ev 87 80 (o_getf 4 [10]) := ok_getf (i := 161) (rf := "BridgeSentences$World") (nm := "heardSet") (ds := "I") (by decide +kernel) fc_34 wd_128
theorem k_87_83 : OkOp mt Ev 87 83 (o_goto 93) := ok_goto (off := 10) (by decide +kernel) (by decide +kernel)
theorem k_87_86 : OkOp mt Ev 87 86 (o_aload 0 1) := ok_aload_n (k := 0) (by decide +kernel) rfl
theorem k_87_87 : OkOp mt Ev 87 87 (o_getf 1 [11]) := ok_getf (i := 18) (rf := "BridgeSentences") (nm := "trial") (ds := "LBridgeSentences$World;") (by decide +kernel) fc_38 wd_219
theorem k_87_90 : OkOp mt Ev 87 90 (o_cv [(10, 54)] 0) := ok_cv (i := 232) (by decide +kernel) vc_131
theorem k_87_93 : OkOp mt Ev 87 93 (o_ret 0) := ok_reti (ty := .int) (by decide +kernel) rfl (Or.inl ⟨rfl, rfl⟩)
theorem kt_87 : ∀ pc o, cd_X11_ends Ev pc = some o → OkOp mt Ev 87 pc o ∧ Gw o := (tN_ok (tN_ok (tN_ok (tN_ok (tN_ok (tL_ok ⟨k_87_0, gw_iload⟩) (tL_ok ⟨k_87_1, gw_if1⟩)) (tN_ok (tL_ok ⟨k_87_4, gw_iload⟩) (tN_ok (tL_ok ⟨k_87_5, gw_push⟩) (tL_ok ⟨k_87_6, gw_if2⟩)))) (tN_ok (tN_ok (tL_ok ⟨k_87_9, gw_push⟩) (tN_ok (tL_ok ⟨k_87_10, gw_ret⟩) (tL_ok ⟨k_87_11, gw_aload⟩))) (tN_ok (tL_ok ⟨k_87_12, gw_getf⟩) (tN_ok (tL_ok ⟨k_87_15, gw_aload⟩) (tL_ok ⟨k_87_16, gw_getf⟩))))) (tN_ok (tN_ok (tN_ok (tL_ok ⟨k_87_19, gw_cv⟩) (tN_ok (tL_ok ⟨k_87_22, gw_push⟩) (tL_ok ⟨k_87_23, gw_istore⟩))) (tN_ok (tL_ok ⟨k_87_24, gw_iload⟩) (tN_ok (tL_ok ⟨k_87_25, gw_aload⟩) (tL_ok ⟨k_87_26, gw_getf⟩)))) (tN_ok (tN_ok (tL_ok ⟨k_87_29, gw_getf⟩) (tN_ok (tL_ok ⟨k_87_32, gw_getf⟩) (tL_ok ⟨k_87_35, gw_if2⟩))) (tN_ok (tL_ok ⟨k_87_38, gw_aload⟩) (tN_ok (tL_ok ⟨k_87_39, gw_aload⟩) (tL_ok ⟨k_87_40, gw_getf⟩)))))) (tN_ok (tN_ok (tN_ok (tN_ok (tL_ok ⟨k_87_43, gw_getf⟩) (tL_ok ⟨k_87_46, gw_getf⟩)) (tN_ok (tL_ok ⟨k_87_49, gw_iload⟩) (tN_ok (tL_ok ⟨k_87_50, gw_iald⟩) (tL_ok ⟨k_87_51, gw_aload⟩)))) (tN_ok (tN_ok (tL_ok ⟨k_87_52, gw_getf⟩) (tN_ok (tL_ok ⟨k_87_55, gw_getf⟩) (tL_ok ⟨k_87_58, gw_getf⟩))) (tN_ok (tL_ok ⟨k_87_61, gw_iload⟩) (tN_ok (tL_ok ⟨k_87_62, gw_iald⟩) (tL_ok ⟨k_87_63, gw_cv⟩))))) (tN_ok (tN_ok (tN_ok (tL_ok ⟨k_87_66, gw_iinc⟩) (tN_ok (tL_ok ⟨k_87_69, gw_goto⟩) (tL_ok ⟨k_87_72, gw_iload⟩))) (tN_ok (tL_ok ⟨k_87_73, gw_if1⟩) (tN_ok (tL_ok ⟨k_87_76, gw_aload⟩) (tL_ok ⟨k_87_77, gw_getf⟩)))) (tN_ok (tN_ok (tL_ok ⟨k_87_80, gw_getf⟩) (tN_ok (tL_ok ⟨k_87_83, gw_goto⟩) (tL_ok ⟨k_87_86, gw_aload⟩))) (tN_ok (tL_ok ⟨k_87_87, gw_getf⟩) (tN_ok (tL_ok ⟨k_87_90, gw_cv⟩) (tL_ok ⟨k_87_93, gw_ret⟩)))))))
theorem k_88_0 : OkOp mt Ev 88 0 (o_iload 1 1) := ok_iload_n (k := 1) (by decide +kernel) rfl
theorem k_88_1 : OkOp mt Ev 88 1 (o_push (.int (-1)) 1) := ok_iconst (n := -1) (by decide +kernel) (by decide +kernel)
theorem k_88_2 : OkOp mt Ev 88 2 (o_if2 (fun x y => decide (¬ x = y)) 16) := ok_icmp_ne (off := 14) (by decide +kernel) (by decide +kernel)
theorem k_88_5 : OkOp mt Ev 88 5 (o_aload 0 1) := ok_aload_n (k := 0) (by decide +kernel) rfl
theorem k_88_6 : OkOp mt Ev 88 6 (o_getf 0 [11]) := ok_getf (i := 12) (rf := "BridgeSentences") (nm := "now") (ds := "LBridgeSentences$World;") (by decide +kernel) fc_37 wd_218
theorem k_88_9 : OkOp mt Ev 88 9 (o_getf 8 [10]) := ok_getf (i := 235) (rf := "BridgeSentences$World") (nm := "booked") (ds := "LBridgeSentences$Rows;") (by decide +kernel) fc_30 wd_136
theorem k_88_12 : OkOp mt Ev 88 12 (o_cv [(7, 38)] 0) := ok_cv (i := 192) (by decide +kernel) vc_126
theorem k_88_15 : OkOp mt Ev 88 15 (o_ret 0) := ok_reti (ty := .int) (by decide +kernel) rfl (Or.inl ⟨rfl, rfl⟩)
theorem k_88_16 : OkOp mt Ev 88 16 (o_iload 1 1) := ok_iload_n (k := 1) (by decide +kernel) rfl
theorem k_88_17 : OkOp mt Ev 88 17 (o_cs 101 1) := ok_cs (i := 112) (by decide +kernel) wd_531 wd_532 wd_56 wd_533 nk_20
theorem k_88_20 : OkOp mt Ev 88 20 (o_if1 (fun x => decide (¬ x = 0)) 25) := ok_if_ne (off := 5) (by decide +kernel) (by decide +kernel)
theorem k_88_23 : OkOp mt Ev 88 23 (o_push (.int (-1)) 1) := ok_iconst (n := -1) (by decide +kernel) (by decide +kernel)
theorem k_88_24 : OkOp mt Ev 88 24 (o_ret 0) := ok_reti (ty := .int) (by decide +kernel) rfl (Or.inl ⟨rfl, rfl⟩)
theorem k_88_25 : OkOp mt Ev 88 25 (o_iload 2 1) := ok_iload_n (k := 2) (by decide +kernel) rfl
theorem k_88_26 : OkOp mt Ev 88 26 (o_cs 103 1) := ok_cs (i := 124) (by decide +kernel) wd_548 wd_549 wd_56 wd_550 nk_21
theorem k_88_29 : OkOp mt Ev 88 29 (o_if1 (fun x => decide (¬ x = 0)) 35) := ok_if_ne (off := 6) (by decide +kernel) (by decide +kernel)
theorem k_88_32 : OkOp mt Ev 88 32 (o_push (.int (-2)) 2) := ok_bipush (n := -2) (by decide +kernel) (by decide +kernel)
theorem k_88_34 : OkOp mt Ev 88 34 (o_ret 0) := ok_reti (ty := .int) (by decide +kernel) rfl (Or.inl ⟨rfl, rfl⟩)
theorem k_88_35 : OkOp mt Ev 88 35 (o_aload 0 1) := ok_aload_n (k := 0) (by decide +kernel) rfl
theorem k_88_36 : OkOp mt Ev 88 36 (o_getf 0 [11]) := ok_getf (i := 12) (rf := "BridgeSentences") (nm := "now") (ds := "LBridgeSentences$World;") (by decide +kernel) fc_37 wd_218
theorem k_88_39 : OkOp mt Ev 88 39 (o_getf 8 [10]) := ok_getf (i := 235) (rf := "BridgeSentences$World") (nm := "booked") (ds := "LBridgeSentences$Rows;") (by decide +kernel) fc_30 wd_136
theorem k_88_42 : OkOp mt Ev 88 42 (o_iload 1 1) := ok_iload_n (k := 1) (by decide +kernel) rfl
theorem k_88_43 : OkOp mt Ev 88 43 (o_iload 2 1) := ok_iload_n (k := 2) (by decide +kernel) rfl
theorem k_88_44 : OkOp mt Ev 88 44 (o_cv [(7, 39)] 2) := ok_cv (i := 197) (by decide +kernel) vc_127
theorem k_88_47 : OkOp mt Ev 88 47 (o_ret 0) := ok_reti (ty := .int) (by decide +kernel) rfl (Or.inl ⟨rfl, rfl⟩)
theorem kt_88 : ∀ pc o, cd_X11_book Ev pc = some o → OkOp mt Ev 88 pc o ∧ Gw o := (tN_ok (tN_ok (tN_ok (tN_ok (tL_ok ⟨k_88_0, gw_iload⟩) (tN_ok (tL_ok ⟨k_88_1, gw_push⟩) (tL_ok ⟨k_88_2, gw_if2⟩))) (tN_ok (tL_ok ⟨k_88_5, gw_aload⟩) (tN_ok (tL_ok ⟨k_88_6, gw_getf⟩) (tL_ok ⟨k_88_9, gw_getf⟩)))) (tN_ok (tN_ok (tL_ok ⟨k_88_12, gw_cv⟩) (tN_ok (tL_ok ⟨k_88_15, gw_ret⟩) (tL_ok ⟨k_88_16, gw_iload⟩))) (tN_ok (tL_ok ⟨k_88_17, gw_cs⟩) (tN_ok (tL_ok ⟨k_88_20, gw_if1⟩) (tL_ok ⟨k_88_23, gw_push⟩))))) (tN_ok (tN_ok (tN_ok (tL_ok ⟨k_88_24, gw_ret⟩) (tN_ok (tL_ok ⟨k_88_25, gw_iload⟩) (tL_ok ⟨k_88_26, gw_cs⟩))) (tN_ok (tL_ok ⟨k_88_29, gw_if1⟩) (tN_ok (tL_ok ⟨k_88_32, gw_push⟩) (tL_ok ⟨k_88_34, gw_ret⟩)))) (tN_ok (tN_ok (tL_ok ⟨k_88_35, gw_aload⟩) (tN_ok (tL_ok ⟨k_88_36, gw_getf⟩) (tL_ok ⟨k_88_39, gw_getf⟩))) (tN_ok (tN_ok (tL_ok ⟨k_88_42, gw_iload⟩) (tL_ok ⟨k_88_43, gw_iload⟩)) (tN_ok (tL_ok ⟨k_88_44, gw_cv⟩) (tL_ok ⟨k_88_47, gw_ret⟩))))))
theorem k_89_0 : OkOp mt Ev 89 0 (o_push (.int (0)) 1) := ok_iconst (n := 0) (by decide +kernel) (by decide +kernel)
theorem k_89_1 : OkOp mt Ev 89 1 (o_istore 1 1) := ok_istore_n (k := 1) (by decide +kernel) rfl
theorem k_89_2 : OkOp mt Ev 89 2 (o_iload 1 1) := ok_iload_n (k := 1) (by decide +kernel) rfl
theorem k_89_3 : OkOp mt Ev 89 3 (o_aload 0 1) := ok_aload_n (k := 0) (by decide +kernel) rfl
theorem k_89_4 : OkOp mt Ev 89 4 (o_getf 0 [11]) := ok_getf (i := 12) (rf := "BridgeSentences") (nm := "now") (ds := "LBridgeSentences$World;") (by decide +kernel) fc_37 wd_218
theorem k_89_7 : OkOp mt Ev 89 7 (o_getf 8 [10]) := ok_getf (i := 235) (rf := "BridgeSentences$World") (nm := "booked") (ds := "LBridgeSentences$Rows;") (by decide +kernel) fc_30 wd_136
theorem k_89_10 : OkOp mt Ev 89 10 (o_getf 2 [7]) := ok_getf (i := 220) (rf := "BridgeSentences$Rows") (nm := "size") (ds := "I") (by decide +kernel) fc_21 wd_110
theorem k_89_13 : OkOp mt Ev 89 13 (o_if2 (fun x y => decide (y ≤ x)) 59) := ok_icmp_ge (off := 46) (by decide +kernel) (by decide +kernel)
theorem k_89_16 : OkOp mt Ev 89 16 (o_aload 0 1) := ok_aload_n (k := 0) (by decide +kernel) rfl
theorem k_89_17 : OkOp mt Ev 89 17 (o_getf 0 [11]) := ok_getf (i := 12) (rf := "BridgeSentences") (nm := "now") (ds := "LBridgeSentences$World;") (by decide +kernel) fc_37 wd_218
theorem k_89_20 : OkOp mt Ev 89 20 (o_getf 0 [10]) := ok_getf (i := 127) (rf := "BridgeSentences$World") (nm := "worths") (ds := "[I") (by decide +kernel) fc_26 wd_120
theorem k_89_23 : OkOp mt Ev 89 23 (o_aload 0 1) := ok_aload_n (k := 0) (by decide +kernel) rfl
theorem k_89_24 : OkOp mt Ev 89 24 (o_getf 0 [11]) := ok_getf (i := 12) (rf := "BridgeSentences") (nm := "now") (ds := "LBridgeSentences$World;") (by decide +kernel) fc_37 wd_218
theorem k_89_27 : OkOp mt Ev 89 27 (o_getf 8 [10]) := ok_getf (i := 235) (rf := "BridgeSentences$World") (nm := "booked") (ds := "LBridgeSentences$Rows;") (by decide +kernel) fc_30 wd_136
theorem k_89_30 : OkOp mt Ev 89 30 (o_getf 0 [7]) := ok_getf (i := 223) (rf := "BridgeSentences$Rows") (nm := "first") (ds := "[I") (by decide +kernel) fc_19 wd_104
theorem k_89_33 : OkOp mt Ev 89 33 (o_iload 1 1) := ok_iload_n (k := 1) (by decide +kernel) rfl
theorem k_89_34 : OkOp mt Ev 89 34 (o_iald 2) := ok_iald (by decide +kernel)
theorem k_89_35 : OkOp mt Ev 89 35 (o_iald 2) := ok_iald (by decide +kernel)
theorem k_89_36 : OkOp mt Ev 89 36 (o_aload 0 1) := ok_aload_n (k := 0) (by decide +kernel) rfl
theorem k_89_37 : OkOp mt Ev 89 37 (o_getf 0 [11]) := ok_getf (i := 12) (rf := "BridgeSentences") (nm := "now") (ds := "LBridgeSentences$World;") (by decide +kernel) fc_37 wd_218
theorem k_89_40 : OkOp mt Ev 89 40 (o_getf 8 [10]) := ok_getf (i := 235) (rf := "BridgeSentences$World") (nm := "booked") (ds := "LBridgeSentences$Rows;") (by decide +kernel) fc_30 wd_136
theorem k_89_43 : OkOp mt Ev 89 43 (o_getf 1 [7]) := ok_getf (i := 226) (rf := "BridgeSentences$Rows") (nm := "second") (ds := "[I") (by decide +kernel) fc_20 wd_107
theorem k_89_46 : OkOp mt Ev 89 46 (o_iload 1 1) := ok_iload_n (k := 1) (by decide +kernel) rfl
theorem k_89_47 : OkOp mt Ev 89 47 (o_iald 2) := ok_iald (by decide +kernel)
theorem k_89_48 : OkOp mt Ev 89 48 (o_if2 (fun x y => decide (x = y)) 53) := ok_icmp_eq (off := 5) (by decide +kernel) (by decide +kernel)
theorem k_89_51 : OkOp mt Ev 89 51 (o_iload 1 1) := ok_iload_n (k := 1) (by decide +kernel) rfl
theorem k_89_52 : OkOp mt Ev 89 52 (o_ret 0) := ok_reti (ty := .int) (by decide +kernel) rfl (Or.inl ⟨rfl, rfl⟩)
theorem k_89_53 : OkOp mt Ev 89 53 (o_iinc 1 (1)) := ok_iinc (n := 1) (by decide +kernel) (by decide +kernel)
theorem k_89_56 : OkOp mt Ev 89 56 (o_goto 2) := ok_goto (off := -54) (by decide +kernel) (by decide +kernel)
theorem k_89_59 : OkOp mt Ev 89 59 (o_push (.int (-5)) 2) := ok_bipush (n := -5) (by decide +kernel) (by decide +kernel)
theorem k_89_61 : OkOp mt Ev 89 61 (o_ret 0) := ok_reti (ty := .int) (by decide +kernel) rfl (Or.inl ⟨rfl, rfl⟩)
theorem kt_89 : ∀ pc o, cd_X11_looked Ev pc = some o → OkOp mt Ev 89 pc o ∧ Gw o := (tN_ok (tN_ok (tN_ok (tN_ok (tL_ok ⟨k_89_0, gw_push⟩) (tN_ok (tL_ok ⟨k_89_1, gw_istore⟩) (tL_ok ⟨k_89_2, gw_iload⟩))) (tN_ok (tN_ok (tL_ok ⟨k_89_3, gw_aload⟩) (tL_ok ⟨k_89_4, gw_getf⟩)) (tN_ok (tL_ok ⟨k_89_7, gw_getf⟩) (tL_ok ⟨k_89_10, gw_getf⟩)))) (tN_ok (tN_ok (tN_ok (tL_ok ⟨k_89_13, gw_if2⟩) (tL_ok ⟨k_89_16, gw_aload⟩)) (tN_ok (tL_ok ⟨k_89_17, gw_getf⟩) (tL_ok ⟨k_89_20, gw_getf⟩))) (tN_ok (tN_ok (tL_ok ⟨k_89_23, gw_aload⟩) (tL_ok ⟨k_89_24, gw_getf⟩)) (tN_ok (tL_ok ⟨k_89_27, gw_getf⟩) (tL_ok ⟨k_89_30, gw_getf⟩))))) (tN_ok (tN_ok (tN_ok (tN_ok (tL_ok ⟨k_89_33, gw_iload⟩) (tL_ok ⟨k_89_34, gw_iald⟩)) (tN_ok (tL_ok ⟨k_89_35, gw_iald⟩) (tL_ok ⟨k_89_36, gw_aload⟩))) (tN_ok (tN_ok (tL_ok ⟨k_89_37, gw_getf⟩) (tL_ok ⟨k_89_40, gw_getf⟩)) (tN_ok (tL_ok ⟨k_89_43, gw_getf⟩) (tL_ok ⟨k_89_46, gw_iload⟩)))) (tN_ok (tN_ok (tN_ok (tL_ok ⟨k_89_47, gw_iald⟩) (tL_ok ⟨k_89_48, gw_if2⟩)) (tN_ok (tL_ok ⟨k_89_51, gw_iload⟩) (tL_ok ⟨k_89_52, gw_ret⟩))) (tN_ok (tN_ok (tL_ok ⟨k_89_53, gw_iinc⟩) (tL_ok ⟨k_89_56, gw_goto⟩)) (tN_ok (tL_ok ⟨k_89_59, gw_push⟩) (tL_ok ⟨k_89_61, gw_ret⟩))))))
theorem k_90_0 : OkOp mt Ev 90 0 (o_iload 1 1) := ok_iload_n (k := 1) (by decide +kernel) rfl
theorem k_90_1 : OkOp mt Ev 90 1 (o_cs 106 1) := ok_cs (i := 238) (by decide +kernel) wd_847 wd_848 wd_56 wd_849 nk_25
theorem k_90_4 : OkOp mt Ev 90 4 (o_if1 (fun x => decide (¬ x = 0)) 9) := ok_if_ne (off := 5) (by decide +kernel) (by decide +kernel)
theorem k_90_7 : OkOp mt Ev 90 7 (o_push (.int (-1)) 1) := ok_iconst (n := -1) (by decide +kernel) (by decide +kernel)
theorem k_90_8 : OkOp mt Ev 90 8 (o_ret 0) := ok_reti (ty := .int) (by decide +kernel) rfl (Or.inl ⟨rfl, rfl⟩)
theorem k_90_9 : OkOp mt Ev 90 9 (o_aload 0 1) := ok_aload_n (k := 0) (by decide +kernel) rfl
theorem k_90_10 : OkOp mt Ev 90 10 (o_getf 7 [11]) := ok_getf (i := 38) (rf := "BridgeSentences") (nm := "tapeSort") (ds := "[I") (by decide +kernel) fc_42 wd_225
theorem k_90_13 : OkOp mt Ev 90 13 (o_iload 1 1) := ok_iload_n (k := 1) (by decide +kernel) rfl
theorem k_90_14 : OkOp mt Ev 90 14 (o_iald 2) := ok_iald (by decide +kernel)
theorem k_90_15 : OkOp mt Ev 90 15 (o_push (.int (-1)) 1) := ok_iconst (n := -1) (by decide +kernel) (by decide +kernel)
theorem k_90_16 : OkOp mt Ev 90 16 (o_if2 (fun x y => decide (¬ x = y)) 22) := ok_icmp_ne (off := 6) (by decide +kernel) (by decide +kernel)
theorem k_90_19 : OkOp mt Ev 90 19 (o_push (.int (100)) 2) := ok_bipush (n := 100) (by decide +kernel) (by decide +kernel)
theorem k_90_21 : OkOp mt Ev 90 21 (o_ret 0) := ok_reti (ty := .int) (by decide +kernel) rfl (Or.inl ⟨rfl, rfl⟩)
theorem k_90_22 : OkOp mt Ev 90 22 (o_aload 0 1) := ok_aload_n (k := 0) (by decide +kernel) rfl
theorem k_90_23 : OkOp mt Ev 90 23 (o_getf 7 [11]) := ok_getf (i := 38) (rf := "BridgeSentences") (nm := "tapeSort") (ds := "[I") (by decide +kernel) fc_42 wd_225
theorem k_90_26 : OkOp mt Ev 90 26 (o_iload 1 1) := ok_iload_n (k := 1) (by decide +kernel) rfl
theorem k_90_27 : OkOp mt Ev 90 27 (o_iald 2) := ok_iald (by decide +kernel)
theorem k_90_28 : OkOp mt Ev 90 28 (o_push (.int (3)) 1) := ok_iconst (n := 3) (by decide +kernel) (by decide +kernel)
theorem k_90_29 : OkOp mt Ev 90 29 (o_if2 (fun x y => decide (x = y)) 35) := ok_icmp_eq (off := 6) (by decide +kernel) (by decide +kernel)
theorem k_90_32 : OkOp mt Ev 90 32 (o_push (.int (-12)) 2) := ok_bipush (n := -12) (by decide +kernel) (by decide +kernel)
theorem k_90_34 : OkOp mt Ev 90 34 (o_ret 0) := ok_reti (ty := .int) (by decide +kernel) rfl (Or.inl ⟨rfl, rfl⟩)
theorem k_90_35 : OkOp mt Ev 90 35 (o_iload 2 1) := ok_iload_n (k := 2) (by decide +kernel) rfl
theorem k_90_36 : OkOp mt Ev 90 36 (o_if1 (fun x => decide (0 ≤ x)) 42) := ok_if_ge (off := 6) (by decide +kernel) (by decide +kernel)
theorem k_90_39 : OkOp mt Ev 90 39 (o_push (.int (100)) 2) := ok_bipush (n := 100) (by decide +kernel) (by decide +kernel)
theorem k_90_41 : OkOp mt Ev 90 41 (o_ret 0) := ok_reti (ty := .int) (by decide +kernel) rfl (Or.inl ⟨rfl, rfl⟩)
theorem k_90_42 : OkOp mt Ev 90 42 (o_push (.int (0)) 1) := ok_iconst (n := 0) (by decide +kernel) (by decide +kernel)
theorem k_90_43 : OkOp mt Ev 90 43 (o_istore 3 1) := ok_istore_n (k := 3) (by decide +kernel) rfl
theorem k_90_44 : OkOp mt Ev 90 44 (o_iload 3 1) := ok_iload_n (k := 3) (by decide +kernel) rfl
theorem k_90_45 : OkOp mt Ev 90 45 (o_push (.int (12)) 2) := ok_bipush (n := 12) (by decide +kernel) (by decide +kernel)
theorem k_90_47 : OkOp mt Ev 90 47 (o_if2 (fun x y => decide (y ≤ x)) 99) := ok_icmp_ge (off := 52) (by decide +kernel) (by decide +kernel)
theorem k_90_50 : OkOp mt Ev 90 50 (o_iload 2 1) := ok_iload_n (k := 2) (by decide +kernel) rfl
theorem k_90_51 : OkOp mt Ev 90 51 (o_aload 0 1) := ok_aload_n (k := 0) (by decide +kernel) rfl
theorem k_90_52 : OkOp mt Ev 90 52 (o_getf 8 [11]) := ok_getf (i := 42) (rf := "BridgeSentences") (nm := "tapeSize") (ds := "[I") (by decide +kernel) fc_43 wd_226
theorem k_90_55 : OkOp mt Ev 90 55 (o_iload 1 1) := ok_iload_n (k := 1) (by decide +kernel) rfl
theorem k_90_56 : OkOp mt Ev 90 56 (o_iald 2) := ok_iald (by decide +kernel)
theorem k_90_57 : OkOp mt Ev 90 57 (o_iload 3 1) := ok_iload_n (k := 3) (by decide +kernel) rfl
theorem k_90_58 : OkOp mt Ev 90 58 (o_ib (fun x y => x - y)) := ok_isub (by decide +kernel)
theorem k_90_59 : OkOp mt Ev 90 59 (o_if2 (fun x y => decide (x < y)) 67) := ok_icmp_lt (off := 8) (by decide +kernel) (by decide +kernel)
theorem k_90_62 : OkOp mt Ev 90 62 (o_push (.int (100)) 2) := ok_bipush (n := 100) (by decide +kernel) (by decide +kernel)
theorem k_90_64 : OkOp mt Ev 90 64 (o_iload 3 1) := ok_iload_n (k := 3) (by decide +kernel) rfl
theorem k_90_65 : OkOp mt Ev 90 65 (o_ib (fun x y => x + y)) := ok_iadd (by decide +kernel)
theorem k_90_66 : OkOp mt Ev 90 66 (o_ret 0) := ok_reti (ty := .int) (by decide +kernel) rfl (Or.inl ⟨rfl, rfl⟩)
theorem k_90_67 : OkOp mt Ev 90 67 (o_aload 0 1) := ok_aload_n (k := 0) (by decide +kernel) rfl
theorem k_90_68 : OkOp mt Ev 90 68 (o_getf 9 [11]) := ok_getf (i := 47) (rf := "BridgeSentences") (nm := "tapeItems") (ds := "[[J") (by decide +kernel) fc_44 wd_227
theorem k_90_71 : OkOp mt Ev 90 71 (o_iload 1 1) := ok_iload_n (k := 1) (by decide +kernel) rfl
theorem k_90_72 : OkOp mt Ev 90 72 (o_aald) := ok_aald (by decide +kernel)
theorem k_90_73 : OkOp mt Ev 90 73 (o_iload 2 1) := ok_iload_n (k := 2) (by decide +kernel) rfl
theorem k_90_74 : OkOp mt Ev 90 74 (o_iload 3 1) := ok_iload_n (k := 3) (by decide +kernel) rfl
theorem k_90_75 : OkOp mt Ev 90 75 (o_ib (fun x y => x + y)) := ok_iadd (by decide +kernel)
theorem k_90_76 : OkOp mt Ev 90 76 (o_lald) := ok_lald (by decide +kernel)
theorem k_90_77 : OkOp mt Ev 90 77 (o_aload 0 1) := ok_aload_n (k := 0) (by decide +kernel) rfl
theorem k_90_78 : OkOp mt Ev 90 78 (o_getf 0 [11]) := ok_getf (i := 12) (rf := "BridgeSentences") (nm := "now") (ds := "LBridgeSentences$World;") (by decide +kernel) fc_37 wd_218
theorem k_90_81 : OkOp mt Ev 90 81 (o_getf 0 [10]) := ok_getf (i := 127) (rf := "BridgeSentences$World") (nm := "worths") (ds := "[I") (by decide +kernel) fc_26 wd_120
theorem k_90_84 : OkOp mt Ev 90 84 (o_iload 3 1) := ok_iload_n (k := 3) (by decide +kernel) rfl
theorem k_90_85 : OkOp mt Ev 90 85 (o_iald 2) := ok_iald (by decide +kernel)
theorem k_90_86 : OkOp mt Ev 90 86 (o_i2l) := ok_i2l (by decide +kernel)
theorem k_90_87 : OkOp mt Ev 90 87 (o_lcmp) := ok_lcmp (by decide +kernel)
theorem k_90_88 : OkOp mt Ev 90 88 (o_if1 (fun x => decide (x = 0)) 93) := ok_if_eq (off := 5) (by decide +kernel) (by decide +kernel)
theorem k_90_91 : OkOp mt Ev 90 91 (o_iload 3 1) := ok_iload_n (k := 3) (by decide +kernel) rfl
theorem k_90_92 : OkOp mt Ev 90 92 (o_ret 0) := ok_reti (ty := .int) (by decide +kernel) rfl (Or.inl ⟨rfl, rfl⟩)
theorem k_90_93 : OkOp mt Ev 90 93 (o_iinc 3 (1)) := ok_iinc (n := 1) (by decide +kernel) (by decide +kernel)
theorem k_90_96 : OkOp mt Ev 90 96 (o_goto 44) := ok_goto (off := -52) (by decide +kernel) (by decide +kernel)
theorem k_90_99 : OkOp mt Ev 90 99 (o_push (.int (-5)) 2) := ok_bipush (n := -5) (by decide +kernel) (by decide +kernel)
theorem k_90_101 : OkOp mt Ev 90 101 (o_ret 0) := ok_reti (ty := .int) (by decide +kernel) rfl (Or.inl ⟨rfl, rfl⟩)
theorem kt_90 : ∀ pc o, cd_X11_judge Ev pc = some o → OkOp mt Ev 90 pc o ∧ Gw o := (tN_ok (tN_ok (tN_ok (tN_ok (tN_ok (tN_ok (tL_ok ⟨k_90_0, gw_iload⟩) (tL_ok ⟨k_90_1, gw_cs⟩)) (tN_ok (tL_ok ⟨k_90_4, gw_if1⟩) (tL_ok ⟨k_90_7, gw_push⟩))) (tN_ok (tN_ok (tL_ok ⟨k_90_8, gw_ret⟩) (tL_ok ⟨k_90_9, gw_aload⟩)) (tN_ok (tL_ok ⟨k_90_10, gw_getf⟩) (tL_ok ⟨k_90_13, gw_iload⟩)))) (tN_ok (tN_ok (tN_ok (tL_ok ⟨k_90_14, gw_iald⟩) (tL_ok ⟨k_90_15, gw_push⟩)) (tN_ok (tL_ok ⟨k_90_16, gw_if2⟩) (tL_ok ⟨k_90_19, gw_push⟩))) (tN_ok (tN_ok (tL_ok ⟨k_90_21, gw_ret⟩) (tL_ok ⟨k_90_22, gw_aload⟩)) (tN_ok (tL_ok ⟨k_90_23, gw_getf⟩) (tL_ok ⟨k_90_26, gw_iload⟩))))) (tN_ok (tN_ok (tN_ok (tN_ok (tL_ok ⟨k_90_27, gw_iald⟩) (tL_ok ⟨k_90_28, gw_push⟩)) (tN_ok (tL_ok ⟨k_90_29, gw_if2⟩) (tL_ok ⟨k_90_32, gw_push⟩))) (tN_ok (tN_ok (tL_ok ⟨k_90_34, gw_ret⟩) (tL_ok ⟨k_90_35, gw_iload⟩)) (tN_ok (tL_ok ⟨k_90_36, gw_if1⟩) (tL_ok ⟨k_90_39, gw_push⟩)))) (tN_ok (tN_ok (tN_ok (tL_ok ⟨k_90_41, gw_ret⟩) (tL_ok ⟨k_90_42, gw_push⟩)) (tN_ok (tL_ok ⟨k_90_43, gw_istore⟩) (tL_ok ⟨k_90_44, gw_iload⟩))) (tN_ok (tN_ok (tL_ok ⟨k_90_45, gw_push⟩) (tL_ok ⟨k_90_47, gw_if2⟩)) (tN_ok (tL_ok ⟨k_90_50, gw_iload⟩) (tL_ok ⟨k_90_51, gw_aload⟩)))))) (tN_ok (tN_ok (tN_ok (tN_ok (tN_ok (tL_ok ⟨k_90_52, gw_getf⟩) (tL_ok ⟨k_90_55, gw_iload⟩)) (tN_ok (tL_ok ⟨k_90_56, gw_iald⟩) (tL_ok ⟨k_90_57, gw_iload⟩))) (tN_ok (tN_ok (tL_ok ⟨k_90_58, gw_ib⟩) (tL_ok ⟨k_90_59, gw_if2⟩)) (tN_ok (tL_ok ⟨k_90_62, gw_push⟩) (tL_ok ⟨k_90_64, gw_iload⟩)))) (tN_ok (tN_ok (tN_ok (tL_ok ⟨k_90_65, gw_ib⟩) (tL_ok ⟨k_90_66, gw_ret⟩)) (tN_ok (tL_ok ⟨k_90_67, gw_aload⟩) (tL_ok ⟨k_90_68, gw_getf⟩))) (tN_ok (tN_ok (tL_ok ⟨k_90_71, gw_iload⟩) (tL_ok ⟨k_90_72, gw_aald⟩)) (tN_ok (tL_ok ⟨k_90_73, gw_iload⟩) (tL_ok ⟨k_90_74, gw_iload⟩))))) (tN_ok (tN_ok (tN_ok (tN_ok (tL_ok ⟨k_90_75, gw_ib⟩) (tL_ok ⟨k_90_76, gw_lald⟩)) (tN_ok (tL_ok ⟨k_90_77, gw_aload⟩) (tL_ok ⟨k_90_78, gw_getf⟩))) (tN_ok (tN_ok (tL_ok ⟨k_90_81, gw_getf⟩) (tL_ok ⟨k_90_84, gw_iload⟩)) (tN_ok (tL_ok ⟨k_90_85, gw_iald⟩) (tL_ok ⟨k_90_86, gw_i2l⟩)))) (tN_ok (tN_ok (tN_ok (tL_ok ⟨k_90_87, gw_lcmp⟩) (tL_ok ⟨k_90_88, gw_if1⟩)) (tN_ok (tL_ok ⟨k_90_91, gw_iload⟩) (tL_ok ⟨k_90_92, gw_ret⟩))) (tN_ok (tN_ok (tL_ok ⟨k_90_93, gw_iinc⟩) (tL_ok ⟨k_90_96, gw_goto⟩)) (tN_ok (tL_ok ⟨k_90_99, gw_push⟩) (tL_ok ⟨k_90_101, gw_ret⟩)))))))
theorem k_91_0 : OkOp mt Ev 91 0 (o_aload 0 1) := ok_aload_n (k := 0) (by decide +kernel) rfl
theorem k_91_1 : OkOp mt Ev 91 1 (o_getf 2 [11]) := ok_getf (i := 21) (rf := "BridgeSentences") (nm := "kept") (ds := "LBridgeSentences$World;") (by decide +kernel) fc_39 wd_220
theorem k_91_4 : OkOp mt Ev 91 4 (o_aload 0 1) := ok_aload_n (k := 0) (by decide +kernel) rfl
theorem k_91_5 : OkOp mt Ev 91 5 (o_getf 0 [11]) := ok_getf (i := 12) (rf := "BridgeSentences") (nm := "now") (ds := "LBridgeSentences$World;") (by decide +kernel) fc_37 wd_218
theorem k_91_8 : OkOp mt Ev 91 8 (o_cv [(10, 49)] 1) := ok_cv (i := 180) (by decide +kernel) vc_124
theorem k_91_11 : OkOp mt Ev 91 11 (o_aload 0 1) := ok_aload_n (k := 0) (by decide +kernel) rfl
theorem k_91_12 : OkOp mt Ev 91 12 (o_push (.int (1)) 1) := ok_iconst (n := 1) (by decide +kernel) (by decide +kernel)
theorem k_91_13 : OkOp mt Ev 91 13 (o_putf 3 [11] 1) := ok_putf (i := 241) (rf := "BridgeSentences") (nm := "isKept") (ds := "Z") (ty := .boolean) (fin := false) (by decide +kernel) fc_46 wd_221 (tc_11) ff_49 (by decide) (by decide +kernel) ov_bool
theorem k_91_16 : OkOp mt Ev 91 16 (o_aload 0 1) := ok_aload_n (k := 0) (by decide +kernel) rfl
theorem k_91_17 : OkOp mt Ev 91 17 (o_getf 0 [11]) := ok_getf (i := 12) (rf := "BridgeSentences") (nm := "now") (ds := "LBridgeSentences$World;") (by decide +kernel) fc_37 wd_218
theorem k_91_20 : OkOp mt Ev 91 20 (o_getf 2 [10]) := ok_getf (i := 57) (rf := "BridgeSentences$World") (nm := "count") (ds := "I") (by decide +kernel) fc_32 wd_124
theorem k_91_23 : OkOp mt Ev 91 23 (o_ret 0) := ok_reti (ty := .int) (by decide +kernel) rfl (Or.inl ⟨rfl, rfl⟩)
theorem kt_91 : ∀ pc o, cd_X11_image Ev pc = some o → OkOp mt Ev 91 pc o ∧ Gw o := (tN_ok (tN_ok (tN_ok (tL_ok ⟨k_91_0, gw_aload⟩) (tN_ok (tL_ok ⟨k_91_1, gw_getf⟩) (tL_ok ⟨k_91_4, gw_aload⟩))) (tN_ok (tL_ok ⟨k_91_5, gw_getf⟩) (tN_ok (tL_ok ⟨k_91_8, gw_cv⟩) (tL_ok ⟨k_91_11, gw_aload⟩)))) (tN_ok (tN_ok (tL_ok ⟨k_91_12, gw_push⟩) (tN_ok (tL_ok ⟨k_91_13, gw_putf⟩) (tL_ok ⟨k_91_16, gw_aload⟩))) (tN_ok (tL_ok ⟨k_91_17, gw_getf⟩) (tN_ok (tL_ok ⟨k_91_20, gw_getf⟩) (tL_ok ⟨k_91_23, gw_ret⟩)))))
theorem k_92_0 : OkOp mt Ev 92 0 (o_aload 0 1) := ok_aload_n (k := 0) (by decide +kernel) rfl
theorem k_92_1 : OkOp mt Ev 92 1 (o_getf 3 [11]) := ok_getf (i := 241) (rf := "BridgeSentences") (nm := "isKept") (ds := "Z") (by decide +kernel) fc_46 wd_221
theorem k_92_4 : OkOp mt Ev 92 4 (o_if1 (fun x => decide (¬ x = 0)) 10) := ok_if_ne (off := 6) (by decide +kernel) (by decide +kernel)
theorem k_92_7 : OkOp mt Ev 92 7 (o_push (.int (-3)) 2) := ok_bipush (n := -3) (by decide +kernel) (by decide +kernel)
theorem k_92_9 : OkOp mt Ev 92 9 (o_ret 0) := ok_reti (ty := .int) (by decide +kernel) rfl (Or.inl ⟨rfl, rfl⟩)
theorem k_92_10 : OkOp mt Ev 92 10 (o_aload 0 1) := ok_aload_n (k := 0) (by decide +kernel) rfl
theorem k_92_11 : OkOp mt Ev 92 11 (o_getf 0 [11]) := ok_getf (i := 12) (rf := "BridgeSentences") (nm := "now") (ds := "LBridgeSentences$World;") (by decide +kernel) fc_37 wd_218
theorem k_92_14 : OkOp mt Ev 92 14 (o_aload 0 1) := ok_aload_n (k := 0) (by decide +kernel) rfl
theorem k_92_15 : OkOp mt Ev 92 15 (o_getf 2 [11]) := ok_getf (i := 21) (rf := "BridgeSentences") (nm := "kept") (ds := "LBridgeSentences$World;") (by decide +kernel) fc_39 wd_220
theorem k_92_18 : OkOp mt Ev 92 18 (o_cv [(10, 49)] 1) := ok_cv (i := 180) (by decide +kernel) vc_124
theorem k_92_21 : OkOp mt Ev 92 21 (o_aload 0 1) := ok_aload_n (k := 0) (by decide +kernel) rfl
theorem k_92_22 : OkOp mt Ev 92 22 (o_getf 0 [11]) := ok_getf (i := 12) (rf := "BridgeSentences") (nm := "now") (ds := "LBridgeSentences$World;") (by decide +kernel) fc_37 wd_218
theorem k_92_25 : OkOp mt Ev 92 25 (o_getf 2 [10]) := ok_getf (i := 57) (rf := "BridgeSentences$World") (nm := "count") (ds := "I") (by decide +kernel) fc_32 wd_124
theorem k_92_28 : OkOp mt Ev 92 28 (o_ret 0) := ok_reti (ty := .int) (by decide +kernel) rfl (Or.inl ⟨rfl, rfl⟩)
theorem kt_92 : ∀ pc o, cd_X11_undo Ev pc = some o → OkOp mt Ev 92 pc o ∧ Gw o := (tN_ok (tN_ok (tN_ok (tL_ok ⟨k_92_0, gw_aload⟩) (tN_ok (tL_ok ⟨k_92_1, gw_getf⟩) (tL_ok ⟨k_92_4, gw_if1⟩))) (tN_ok (tN_ok (tL_ok ⟨k_92_7, gw_push⟩) (tL_ok ⟨k_92_9, gw_ret⟩)) (tN_ok (tL_ok ⟨k_92_10, gw_aload⟩) (tL_ok ⟨k_92_11, gw_getf⟩)))) (tN_ok (tN_ok (tL_ok ⟨k_92_14, gw_aload⟩) (tN_ok (tL_ok ⟨k_92_15, gw_getf⟩) (tL_ok ⟨k_92_18, gw_cv⟩))) (tN_ok (tN_ok (tL_ok ⟨k_92_21, gw_aload⟩) (tL_ok ⟨k_92_22, gw_getf⟩)) (tN_ok (tL_ok ⟨k_92_25, gw_getf⟩) (tL_ok ⟨k_92_28, gw_ret⟩)))))
theorem k_93_0 : OkOp mt Ev 93 0 (o_aload 0 1) := ok_aload_n (k := 0) (by decide +kernel) rfl
theorem k_93_1 : OkOp mt Ev 93 1 (o_getf 6 [11]) := ok_getf (i := 34) (rf := "BridgeSentences") (nm := "latest") (ds := "LBridgeSentences$Trace;") (by decide +kernel) fc_41 wd_224
theorem k_93_4 : OkOp mt Ev 93 4 (o_push (.int (0)) 1) := ok_iconst (n := 0) (by decide +kernel) (by decide +kernel)
theorem k_93_5 : OkOp mt Ev 93 5 (o_putf 1 [9] 0) := ok_putf (i := 244) (rf := "BridgeSentences$Trace") (nm := "ran") (ds := "I") (ty := .int) (fin := false) (by decide +kernel) fc_25 wd_210 (tc_9) ff_50 (by decide) (by decide +kernel) ov_int
theorem k_93_8 : OkOp mt Ev 93 8 (o_aload 0 1) := ok_aload_n (k := 0) (by decide +kernel) rfl
theorem k_93_9 : OkOp mt Ev 93 9 (o_getf 0 [11]) := ok_getf (i := 12) (rf := "BridgeSentences") (nm := "now") (ds := "LBridgeSentences$World;") (by decide +kernel) fc_37 wd_218
theorem k_93_12 : OkOp mt Ev 93 12 (o_iload 1 1) := ok_iload_n (k := 1) (by decide +kernel) rfl
theorem k_93_13 : OkOp mt Ev 93 13 (o_cv [(10, 51)] 1) := ok_cv (i := 80) (by decide +kernel) vc_112
theorem k_93_16 : OkOp mt Ev 93 16 (o_astore 4 2) := ok_astore (by decide +kernel)
theorem k_93_18 : OkOp mt Ev 93 18 (o_aload 4 2) := ok_aload (by decide +kernel)
theorem k_93_20 : OkOp mt Ev 93 20 (o_ifnonnull 25) := ok_ifnonnull (off := 5) (by decide +kernel) (by decide +kernel)
theorem k_93_23 : OkOp mt Ev 93 23 (o_push (.int (0)) 1) := ok_iconst (n := 0) (by decide +kernel) (by decide +kernel)
theorem k_93_24 : OkOp mt Ev 93 24 (o_ret 0) := ok_reti (ty := .int) (by decide +kernel) rfl (Or.inl ⟨rfl, rfl⟩)
theorem k_93_25 : OkOp mt Ev 93 25 (o_iload 2 1) := ok_iload_n (k := 2) (by decide +kernel) rfl
theorem k_93_26 : OkOp mt Ev 93 26 (o_sw 85 [(0, 52), (1, 63), (2, 74)]) := ok_tsw (dflt := 59) (lo := 0) (hi := 2) (offs := #[26, 37, 48]) (len := 26) (by decide +kernel) (by decide +kernel) (by decide +kernel) (by decide +kernel)
theorem k_93_52 : OkOp mt Ev 93 52 (o_aload 4 2) := ok_aload (by decide +kernel)
theorem k_93_54 : OkOp mt Ev 93 54 (o_aload 0 1) := ok_aload_n (k := 0) (by decide +kernel) rfl
theorem k_93_55 : OkOp mt Ev 93 55 (o_getf 6 [11]) := ok_getf (i := 34) (rf := "BridgeSentences") (nm := "latest") (ds := "LBridgeSentences$Trace;") (by decide +kernel) fc_41 wd_224
theorem k_93_58 : OkOp mt Ev 93 58 (o_iload 3 1) := ok_iload_n (k := 3) (by decide +kernel) rfl
theorem k_93_59 : OkOp mt Ev 93 59 (o_cv [(1, 20), (2, 20), (3, 27), (4, 27), (5, 32), (6, 27), (8, 45)] 2) := ok_cv (i := 247) (by decide +kernel) vc_132
theorem k_93_62 : OkOp mt Ev 93 62 (o_ret 0) := ok_reti (ty := .int) (by decide +kernel) rfl (Or.inl ⟨rfl, rfl⟩)
theorem k_93_63 : OkOp mt Ev 93 63 (o_aload 4 2) := ok_aload (by decide +kernel)
theorem k_93_65 : OkOp mt Ev 93 65 (o_aload 0 1) := ok_aload_n (k := 0) (by decide +kernel) rfl
theorem k_93_66 : OkOp mt Ev 93 66 (o_getf 6 [11]) := ok_getf (i := 34) (rf := "BridgeSentences") (nm := "latest") (ds := "LBridgeSentences$Trace;") (by decide +kernel) fc_41 wd_224
theorem k_93_69 : OkOp mt Ev 93 69 (o_iload 3 1) := ok_iload_n (k := 3) (by decide +kernel) rfl
theorem k_93_70 : OkOp mt Ev 93 70 (o_cv [(1, 28), (2, 28), (3, 28), (4, 28), (5, 33), (6, 36), (8, 44)] 2) := ok_cv (i := 251) (by decide +kernel) vc_133
theorem k_93_73 : OkOp mt Ev 93 73 (o_ret 0) := ok_reti (ty := .int) (by decide +kernel) rfl (Or.inl ⟨rfl, rfl⟩)
theorem k_93_74 : OkOp mt Ev 93 74 (o_aload 4 2) := ok_aload (by decide +kernel)
theorem k_93_76 : OkOp mt Ev 93 76 (o_aload 0 1) := ok_aload_n (k := 0) (by decide +kernel) rfl
theorem k_93_77 : OkOp mt Ev 93 77 (o_getf 6 [11]) := ok_getf (i := 34) (rf := "BridgeSentences") (nm := "latest") (ds := "LBridgeSentences$Trace;") (by decide +kernel) fc_41 wd_224
theorem k_93_80 : OkOp mt Ev 93 80 (o_iload 3 1) := ok_iload_n (k := 3) (by decide +kernel) rfl
theorem k_93_81 : OkOp mt Ev 93 81 (o_cv [(1, 17), (2, 29), (3, 23), (4, 29), (5, 29), (6, 29), (8, 23)] 2) := ok_cv (i := 254) (by decide +kernel) vc_134
theorem k_93_84 : OkOp mt Ev 93 84 (o_ret 0) := ok_reti (ty := .int) (by decide +kernel) rfl (Or.inl ⟨rfl, rfl⟩)
theorem k_93_85 : OkOp mt Ev 93 85 (o_push (.int (0)) 1) := ok_iconst (n := 0) (by decide +kernel) (by decide +kernel)
theorem k_93_86 : OkOp mt Ev 93 86 (o_ret 0) := ok_reti (ty := .int) (by decide +kernel) rfl (Or.inl ⟨rfl, rfl⟩)
theorem kt_93 : ∀ pc o, cd_X11_act Ev pc = some o → OkOp mt Ev 93 pc o ∧ Gw o := (tN_ok (tN_ok (tN_ok (tN_ok (tN_ok (tL_ok ⟨k_93_0, gw_aload⟩) (tL_ok ⟨k_93_1, gw_getf⟩)) (tN_ok (tL_ok ⟨k_93_4, gw_push⟩) (tL_ok ⟨k_93_5, gw_putf⟩))) (tN_ok (tN_ok (tL_ok ⟨k_93_8, gw_aload⟩) (tL_ok ⟨k_93_9, gw_getf⟩)) (tN_ok (tL_ok ⟨k_93_12, gw_iload⟩) (tL_ok ⟨k_93_13, gw_cv⟩)))) (tN_ok (tN_ok (tN_ok (tL_ok ⟨k_93_16, gw_astore⟩) (tL_ok ⟨k_93_18, gw_aload⟩)) (tN_ok (tL_ok ⟨k_93_20, gw_ifnonnull⟩) (tL_ok ⟨k_93_23, gw_push⟩))) (tN_ok (tN_ok (tL_ok ⟨k_93_24, gw_ret⟩) (tL_ok ⟨k_93_25, gw_iload⟩)) (tN_ok (tL_ok ⟨k_93_26, gw_sw⟩) (tN_ok (tL_ok ⟨k_93_52, gw_aload⟩) (tL_ok ⟨k_93_54, gw_aload⟩)))))) (tN_ok (tN_ok (tN_ok (tN_ok (tL_ok ⟨k_93_55, gw_getf⟩) (tL_ok ⟨k_93_58, gw_iload⟩)) (tN_ok (tL_ok ⟨k_93_59, gw_cv⟩) (tL_ok ⟨k_93_62, gw_ret⟩))) (tN_ok (tN_ok (tL_ok ⟨k_93_63, gw_aload⟩) (tL_ok ⟨k_93_65, gw_aload⟩)) (tN_ok (tL_ok ⟨k_93_66, gw_getf⟩) (tN_ok (tL_ok ⟨k_93_69, gw_iload⟩) (tL_ok ⟨k_93_70, gw_cv⟩))))) (tN_ok (tN_ok (tN_ok (tL_ok ⟨k_93_73, gw_ret⟩) (tL_ok ⟨k_93_74, gw_aload⟩)) (tN_ok (tL_ok ⟨k_93_76, gw_aload⟩) (tL_ok ⟨k_93_77, gw_getf⟩))) (tN_ok (tN_ok (tL_ok ⟨k_93_80, gw_iload⟩) (tL_ok ⟨k_93_81, gw_cv⟩)) (tN_ok (tL_ok ⟨k_93_84, gw_ret⟩) (tN_ok (tL_ok ⟨k_93_85, gw_push⟩) (tL_ok ⟨k_93_86, gw_ret⟩)))))))
theorem k_94_0 : OkOp mt Ev 94 0 (o_iload 1 1) := ok_iload_n (k := 1) (by decide +kernel) rfl
theorem k_94_1 : OkOp mt Ev 94 1 (o_if1 (fun x => decide (x < 0)) 27) := ok_if_lt (off := 26) (by decide +kernel) (by decide +kernel)
theorem k_94_4 : OkOp mt Ev 94 4 (o_iload 1 1) := ok_iload_n (k := 1) (by decide +kernel) rfl
theorem k_94_5 : OkOp mt Ev 94 5 (o_aload 0 1) := ok_aload_n (k := 0) (by decide +kernel) rfl
theorem k_94_6 : OkOp mt Ev 94 6 (o_getf 6 [11]) := ok_getf (i := 34) (rf := "BridgeSentences") (nm := "latest") (ds := "LBridgeSentences$Trace;") (by decide +kernel) fc_41 wd_224
theorem k_94_9 : OkOp mt Ev 94 9 (o_getf 1 [9]) := ok_getf (i := 244) (rf := "BridgeSentences$Trace") (nm := "ran") (ds := "I") (by decide +kernel) fc_25 wd_210
theorem k_94_12 : OkOp mt Ev 94 12 (o_if2 (fun x y => decide (y ≤ x)) 27) := ok_icmp_ge (off := 15) (by decide +kernel) (by decide +kernel)
theorem k_94_15 : OkOp mt Ev 94 15 (o_iload 1 1) := ok_iload_n (k := 1) (by decide +kernel) rfl
theorem k_94_16 : OkOp mt Ev 94 16 (o_aload 0 1) := ok_aload_n (k := 0) (by decide +kernel) rfl
theorem k_94_17 : OkOp mt Ev 94 17 (o_getf 6 [11]) := ok_getf (i := 34) (rf := "BridgeSentences") (nm := "latest") (ds := "LBridgeSentences$Trace;") (by decide +kernel) fc_41 wd_224
theorem k_94_20 : OkOp mt Ev 94 20 (o_getf 0 [9]) := ok_getf (i := 257) (rf := "BridgeSentences$Trace") (nm := "bodies") (ds := "[I") (by decide +kernel) fc_24 wd_208
theorem k_94_23 : OkOp mt Ev 94 23 (o_alen) := ok_alen (by decide +kernel)
theorem k_94_24 : OkOp mt Ev 94 24 (o_if2 (fun x y => decide (x < y)) 29) := ok_icmp_lt (off := 5) (by decide +kernel) (by decide +kernel)
theorem k_94_27 : OkOp mt Ev 94 27 (o_push (.int (-1)) 1) := ok_iconst (n := -1) (by decide +kernel) (by decide +kernel)
theorem k_94_28 : OkOp mt Ev 94 28 (o_ret 0) := ok_reti (ty := .int) (by decide +kernel) rfl (Or.inl ⟨rfl, rfl⟩)
theorem k_94_29 : OkOp mt Ev 94 29 (o_aload 0 1) := ok_aload_n (k := 0) (by decide +kernel) rfl
theorem k_94_30 : OkOp mt Ev 94 30 (o_getf 6 [11]) := ok_getf (i := 34) (rf := "BridgeSentences") (nm := "latest") (ds := "LBridgeSentences$Trace;") (by decide +kernel) fc_41 wd_224
theorem k_94_33 : OkOp mt Ev 94 33 (o_getf 0 [9]) := ok_getf (i := 257) (rf := "BridgeSentences$Trace") (nm := "bodies") (ds := "[I") (by decide +kernel) fc_24 wd_208
theorem k_94_36 : OkOp mt Ev 94 36 (o_iload 1 1) := ok_iload_n (k := 1) (by decide +kernel) rfl
theorem k_94_37 : OkOp mt Ev 94 37 (o_iald 2) := ok_iald (by decide +kernel)
theorem k_94_38 : OkOp mt Ev 94 38 (o_ret 0) := ok_reti (ty := .int) (by decide +kernel) rfl (Or.inl ⟨rfl, rfl⟩)
theorem kt_94 : ∀ pc o, cd_X11_trace Ev pc = some o → OkOp mt Ev 94 pc o ∧ Gw o := (tN_ok (tN_ok (tN_ok (tN_ok (tL_ok ⟨k_94_0, gw_iload⟩) (tL_ok ⟨k_94_1, gw_if1⟩)) (tN_ok (tL_ok ⟨k_94_4, gw_iload⟩) (tN_ok (tL_ok ⟨k_94_5, gw_aload⟩) (tL_ok ⟨k_94_6, gw_getf⟩)))) (tN_ok (tN_ok (tL_ok ⟨k_94_9, gw_getf⟩) (tL_ok ⟨k_94_12, gw_if2⟩)) (tN_ok (tL_ok ⟨k_94_15, gw_iload⟩) (tN_ok (tL_ok ⟨k_94_16, gw_aload⟩) (tL_ok ⟨k_94_17, gw_getf⟩))))) (tN_ok (tN_ok (tN_ok (tL_ok ⟨k_94_20, gw_getf⟩) (tL_ok ⟨k_94_23, gw_alen⟩)) (tN_ok (tL_ok ⟨k_94_24, gw_if2⟩) (tN_ok (tL_ok ⟨k_94_27, gw_push⟩) (tL_ok ⟨k_94_28, gw_ret⟩)))) (tN_ok (tN_ok (tL_ok ⟨k_94_29, gw_aload⟩) (tN_ok (tL_ok ⟨k_94_30, gw_getf⟩) (tL_ok ⟨k_94_33, gw_getf⟩))) (tN_ok (tL_ok ⟨k_94_36, gw_iload⟩) (tN_ok (tL_ok ⟨k_94_37, gw_iald⟩) (tL_ok ⟨k_94_38, gw_ret⟩))))))
theorem k_95_0 : OkOp mt Ev 95 0 (o_iload 2 1) := ok_iload_n (k := 2) (by decide +kernel) rfl
theorem k_95_1 : OkOp mt Ev 95 1 (o_if1 (fun x => decide (x < 0)) 12) := ok_if_lt (off := 11) (by decide +kernel) (by decide +kernel)
theorem k_95_4 : OkOp mt Ev 95 4 (o_iload 2 1) := ok_iload_n (k := 2) (by decide +kernel) rfl
theorem k_95_5 : OkOp mt Ev 95 5 (o_push (Ev 0) 3) := ok_stat (i := 50) (K := "BridgeSentences") (n := "ABOVE") (d := "[I") (by decide +kernel) (by simp [stL, RX11, RJ0]) wd_254
theorem k_95_8 : OkOp mt Ev 95 8 (o_alen) := ok_alen (by decide +kernel)
theorem k_95_9 : OkOp mt Ev 95 9 (o_if2 (fun x y => decide (x < y)) 15) := ok_icmp_lt (off := 6) (by decide +kernel) (by decide +kernel)
theorem k_95_12 : OkOp mt Ev 95 12 (o_push (.int (-2)) 2) := ok_bipush (n := -2) (by decide +kernel) (by decide +kernel)
theorem k_95_14 : OkOp mt Ev 95 14 (o_ret 0) := ok_reti (ty := .int) (by decide +kernel) rfl (Or.inl ⟨rfl, rfl⟩)
theorem k_95_15 : OkOp mt Ev 95 15 (o_aload 0 1) := ok_aload_n (k := 0) (by decide +kernel) rfl
theorem k_95_16 : OkOp mt Ev 95 16 (o_getf 0 [11]) := ok_getf (i := 12) (rf := "BridgeSentences") (nm := "now") (ds := "LBridgeSentences$World;") (by decide +kernel) fc_37 wd_218
theorem k_95_19 : OkOp mt Ev 95 19 (o_iload 1 1) := ok_iload_n (k := 1) (by decide +kernel) rfl
theorem k_95_20 : OkOp mt Ev 95 20 (o_cv [(10, 51)] 1) := ok_cv (i := 80) (by decide +kernel) vc_112
theorem k_95_23 : OkOp mt Ev 95 23 (o_astore 3 1) := ok_astore_n (k := 3) (by decide +kernel) rfl
theorem k_95_24 : OkOp mt Ev 95 24 (o_aload 3 1) := ok_aload_n (k := 3) (by decide +kernel) rfl
theorem k_95_25 : OkOp mt Ev 95 25 (o_ifnonnull 31) := ok_ifnonnull (off := 6) (by decide +kernel) (by decide +kernel)
theorem k_95_28 : OkOp mt Ev 95 28 (o_push (.int (-11)) 2) := ok_bipush (n := -11) (by decide +kernel) (by decide +kernel)
theorem k_95_30 : OkOp mt Ev 95 30 (o_ret 0) := ok_reti (ty := .int) (by decide +kernel) rfl (Or.inl ⟨rfl, rfl⟩)
theorem k_95_31 : OkOp mt Ev 95 31 (o_aload 3 1) := ok_aload_n (k := 3) (by decide +kernel) rfl
theorem k_95_32 : OkOp mt Ev 95 32 (o_getf 0 [1, 2, 3, 4, 5, 6, 8]) := ok_getf (i := 84) (rf := "BridgeSentences$One") (nm := "kind") (ds := "I") (by decide +kernel) fc_11 wd_273
theorem k_95_35 : OkOp mt Ev 95 35 (o_iload 2 1) := ok_iload_n (k := 2) (by decide +kernel) rfl
theorem k_95_36 : OkOp mt Ev 95 36 (o_cs 108 2) := ok_cs (i := 260) (by decide +kernel) wd_949 wd_950 wd_56 wd_951 nk_26
theorem k_95_39 : OkOp mt Ev 95 39 (o_if1 (fun x => decide (x = 0)) 49) := ok_if_eq (off := 10) (by decide +kernel) (by decide +kernel)
theorem k_95_42 : OkOp mt Ev 95 42 (o_aload 3 1) := ok_aload_n (k := 3) (by decide +kernel) rfl
theorem k_95_43 : OkOp mt Ev 95 43 (o_getf 0 [1, 2, 3, 4, 5, 6, 8]) := ok_getf (i := 84) (rf := "BridgeSentences$One") (nm := "kind") (ds := "I") (by decide +kernel) fc_11 wd_273
theorem k_95_46 : OkOp mt Ev 95 46 (o_goto 51) := ok_goto (off := 5) (by decide +kernel) (by decide +kernel)
theorem k_95_49 : OkOp mt Ev 95 49 (o_push (.int (-12)) 2) := ok_bipush (n := -12) (by decide +kernel) (by decide +kernel)
theorem k_95_51 : OkOp mt Ev 95 51 (o_ret 0) := ok_reti (ty := .int) (by decide +kernel) rfl (Or.inl ⟨rfl, rfl⟩)
theorem kt_95 : ∀ pc o, cd_X11_taken Ev pc = some o → OkOp mt Ev 95 pc o ∧ Gw o := (tN_ok (tN_ok (tN_ok (tN_ok (tL_ok ⟨k_95_0, gw_iload⟩) (tN_ok (tL_ok ⟨k_95_1, gw_if1⟩) (tL_ok ⟨k_95_4, gw_iload⟩))) (tN_ok (tL_ok ⟨k_95_5, gw_push⟩) (tN_ok (tL_ok ⟨k_95_8, gw_alen⟩) (tL_ok ⟨k_95_9, gw_if2⟩)))) (tN_ok (tN_ok (tL_ok ⟨k_95_12, gw_push⟩) (tN_ok (tL_ok ⟨k_95_14, gw_ret⟩) (tL_ok ⟨k_95_15, gw_aload⟩))) (tN_ok (tN_ok (tL_ok ⟨k_95_16, gw_getf⟩) (tL_ok ⟨k_95_19, gw_iload⟩)) (tN_ok (tL_ok ⟨k_95_20, gw_cv⟩) (tL_ok ⟨k_95_23, gw_astore⟩))))) (tN_ok (tN_ok (tN_ok (tL_ok ⟨k_95_24, gw_aload⟩) (tN_ok (tL_ok ⟨k_95_25, gw_ifnonnull⟩) (tL_ok ⟨k_95_28, gw_push⟩))) (tN_ok (tN_ok (tL_ok ⟨k_95_30, gw_ret⟩) (tL_ok ⟨k_95_31, gw_aload⟩)) (tN_ok (tL_ok ⟨k_95_32, gw_getf⟩) (tL_ok ⟨k_95_35, gw_iload⟩)))) (tN_ok (tN_ok (tL_ok ⟨k_95_36, gw_cs⟩) (tN_ok (tL_ok ⟨k_95_39, gw_if1⟩) (tL_ok ⟨k_95_42, gw_aload⟩))) (tN_ok (tN_ok (tL_ok ⟨k_95_43, gw_getf⟩) (tL_ok ⟨k_95_46, gw_goto⟩)) (tN_ok (tL_ok ⟨k_95_49, gw_push⟩) (tL_ok ⟨k_95_51, gw_ret⟩))))))
theorem k_96_0 : OkOp mt Ev 96 0 (o_iload 1 1) := ok_iload_n (k := 1) (by decide +kernel) rfl
theorem k_96_1 : OkOp mt Ev 96 1 (o_sw 106 [(0, 44), (1, 52), (2, 57), (3, 68), (4, 79), (5, 90), (6, 98)]) := ok_tsw (dflt := 105) (lo := 0) (hi := 6) (offs := #[43, 51, 56, 67, 78, 89, 97]) (len := 43) (by decide +kernel) (by decide +kernel) (by decide +kernel) (by decide +kernel)
theorem k_96_44 : OkOp mt Ev 96 44 (o_aload 0 1) := ok_aload_n (k := 0) (by decide +kernel) rfl
theorem k_96_45 : OkOp mt Ev 96 45 (o_getf 0 [11]) := ok_getf (i := 12) (rf := "BridgeSentences") (nm := "now") (ds := "LBridgeSentences$World;") (by decide +kernel) fc_37 wd_218
theorem k_96_48 : OkOp mt Ev 96 48 (o_getf 2 [10]) := ok_getf (i := 57) (rf := "BridgeSentences$World") (nm := "count") (ds := "I") (by decide +kernel) fc_32 wd_124
theorem k_96_51 : OkOp mt Ev 96 51 (o_ret 0) := ok_reti (ty := .int) (by decide +kernel) rfl (Or.inl ⟨rfl, rfl⟩)
theorem k_96_52 : OkOp mt Ev 96 52 (o_aload 0 1) := ok_aload_n (k := 0) (by decide +kernel) rfl
theorem k_96_53 : OkOp mt Ev 96 53 (o_getf 5 [11]) := ok_getf (i := 142) (rf := "BridgeSentences") (nm := "bridges") (ds := "I") (by decide +kernel) fc_45 wd_223
theorem k_96_56 : OkOp mt Ev 96 56 (o_ret 0) := ok_reti (ty := .int) (by decide +kernel) rfl (Or.inl ⟨rfl, rfl⟩)
theorem k_96_57 : OkOp mt Ev 96 57 (o_aload 0 1) := ok_aload_n (k := 0) (by decide +kernel) rfl
theorem k_96_58 : OkOp mt Ev 96 58 (o_getf 0 [11]) := ok_getf (i := 12) (rf := "BridgeSentences") (nm := "now") (ds := "LBridgeSentences$World;") (by decide +kernel) fc_37 wd_218
theorem k_96_61 : OkOp mt Ev 96 61 (o_getf 6 [10]) := ok_getf (i := 188) (rf := "BridgeSentences$World") (nm := "seen") (ds := "LBridgeSentences$Rows;") (by decide +kernel) fc_28 wd_132
theorem k_96_64 : OkOp mt Ev 96 64 (o_getf 2 [7]) := ok_getf (i := 220) (rf := "BridgeSentences$Rows") (nm := "size") (ds := "I") (by decide +kernel) fc_21 wd_110
theorem k_96_67 : OkOp mt Ev 96 67 (o_ret 0) := ok_reti (ty := .int) (by decide +kernel) rfl (Or.inl ⟨rfl, rfl⟩)
theorem k_96_68 : OkOp mt Ev 96 68 (o_aload 0 1) := ok_aload_n (k := 0) (by decide +kernel) rfl
theorem k_96_69 : OkOp mt Ev 96 69 (o_getf 0 [11]) := ok_getf (i := 12) (rf := "BridgeSentences") (nm := "now") (ds := "LBridgeSentences$World;") (by decide +kernel) fc_37 wd_218
theorem k_96_72 : OkOp mt Ev 96 72 (o_getf 7 [10]) := ok_getf (i := 217) (rf := "BridgeSentences$World") (nm := "planned") (ds := "LBridgeSentences$Rows;") (by decide +kernel) fc_29 wd_134
theorem k_96_75 : OkOp mt Ev 96 75 (o_getf 2 [7]) := ok_getf (i := 220) (rf := "BridgeSentences$Rows") (nm := "size") (ds := "I") (by decide +kernel) fc_21 wd_110
theorem k_96_78 : OkOp mt Ev 96 78 (o_ret 0) := ok_reti (ty := .int) (by decide +kernel) rfl (Or.inl ⟨rfl, rfl⟩)
theorem k_96_79 : OkOp mt Ev 96 79 (o_aload 0 1) := ok_aload_n (k := 0) (by decide +kernel) rfl
theorem k_96_80 : OkOp mt Ev 96 80 (o_getf 0 [11]) := ok_getf (i := 12) (rf := "BridgeSentences") (nm := "now") (ds := "LBridgeSentences$World;") (by decide +kernel) fc_37 wd_218
theorem k_96_83 : OkOp mt Ev 96 83 (o_getf 8 [10]) := ok_getf (i := 235) (rf := "BridgeSentences$World") (nm := "booked") (ds := "LBridgeSentences$Rows;") (by decide +kernel) fc_30 wd_136
theorem k_96_86 : OkOp mt Ev 96 86 (o_getf 2 [7]) := ok_getf (i := 220) (rf := "BridgeSentences$Rows") (nm := "size") (ds := "I") (by decide +kernel) fc_21 wd_110
theorem k_96_89 : OkOp mt Ev 96 89 (o_ret 0) := ok_reti (ty := .int) (by decide +kernel) rfl (Or.inl ⟨rfl, rfl⟩)
theorem k_96_90 : OkOp mt Ev 96 90 (o_aload 0 1) := ok_aload_n (k := 0) (by decide +kernel) rfl
theorem k_96_91 : OkOp mt Ev 96 91 (o_getf 4 [11]) := ok_getf (i := 27) (rf := "BridgeSentences") (nm := "next") (ds := "LBridgeSentences$Bridge;") (by decide +kernel) fc_40 wd_222
theorem k_96_94 : OkOp mt Ev 96 94 (o_getf 1 [0]) := ok_getf (i := 135) (rf := "BridgeSentences$Bridge") (nm := "length") (ds := "I") (by decide +kernel) fc_4 wd_172
theorem k_96_97 : OkOp mt Ev 96 97 (o_ret 0) := ok_reti (ty := .int) (by decide +kernel) rfl (Or.inl ⟨rfl, rfl⟩)
theorem k_96_98 : OkOp mt Ev 96 98 (o_aload 0 1) := ok_aload_n (k := 0) (by decide +kernel) rfl
theorem k_96_99 : OkOp mt Ev 96 99 (o_getf 6 [11]) := ok_getf (i := 34) (rf := "BridgeSentences") (nm := "latest") (ds := "LBridgeSentences$Trace;") (by decide +kernel) fc_41 wd_224
theorem k_96_102 : OkOp mt Ev 96 102 (o_getf 1 [9]) := ok_getf (i := 244) (rf := "BridgeSentences$Trace") (nm := "ran") (ds := "I") (by decide +kernel) fc_25 wd_210
theorem k_96_105 : OkOp mt Ev 96 105 (o_ret 0) := ok_reti (ty := .int) (by decide +kernel) rfl (Or.inl ⟨rfl, rfl⟩)
theorem k_96_106 : OkOp mt Ev 96 106 (o_push (.int (-2)) 2) := ok_bipush (n := -2) (by decide +kernel) (by decide +kernel)
theorem k_96_108 : OkOp mt Ev 96 108 (o_ret 0) := ok_reti (ty := .int) (by decide +kernel) rfl (Or.inl ⟨rfl, rfl⟩)
theorem kt_96 : ∀ pc o, cd_X11_count Ev pc = some o → OkOp mt Ev 96 pc o ∧ Gw o := (tN_ok (tN_ok (tN_ok (tN_ok (tN_ok (tL_ok ⟨k_96_0, gw_iload⟩) (tL_ok ⟨k_96_1, gw_sw⟩)) (tN_ok (tL_ok ⟨k_96_44, gw_aload⟩) (tL_ok ⟨k_96_45, gw_getf⟩))) (tN_ok (tN_ok (tL_ok ⟨k_96_48, gw_getf⟩) (tL_ok ⟨k_96_51, gw_ret⟩)) (tN_ok (tL_ok ⟨k_96_52, gw_aload⟩) (tL_ok ⟨k_96_53, gw_getf⟩)))) (tN_ok (tN_ok (tN_ok (tL_ok ⟨k_96_56, gw_ret⟩) (tL_ok ⟨k_96_57, gw_aload⟩)) (tN_ok (tL_ok ⟨k_96_58, gw_getf⟩) (tL_ok ⟨k_96_61, gw_getf⟩))) (tN_ok (tN_ok (tL_ok ⟨k_96_64, gw_getf⟩) (tL_ok ⟨k_96_67, gw_ret⟩)) (tN_ok (tL_ok ⟨k_96_68, gw_aload⟩) (tN_ok (tL_ok ⟨k_96_69, gw_getf⟩) (tL_ok ⟨k_96_72, gw_getf⟩)))))) (tN_ok (tN_ok (tN_ok (tN_ok (tL_ok ⟨k_96_75, gw_getf⟩) (tL_ok ⟨k_96_78, gw_ret⟩)) (tN_ok (tL_ok ⟨k_96_79, gw_aload⟩) (tL_ok ⟨k_96_80, gw_getf⟩))) (tN_ok (tN_ok (tL_ok ⟨k_96_83, gw_getf⟩) (tL_ok ⟨k_96_86, gw_getf⟩)) (tN_ok (tL_ok ⟨k_96_89, gw_ret⟩) (tL_ok ⟨k_96_90, gw_aload⟩)))) (tN_ok (tN_ok (tN_ok (tL_ok ⟨k_96_91, gw_getf⟩) (tL_ok ⟨k_96_94, gw_getf⟩)) (tN_ok (tL_ok ⟨k_96_97, gw_ret⟩) (tL_ok ⟨k_96_98, gw_aload⟩))) (tN_ok (tN_ok (tL_ok ⟨k_96_99, gw_getf⟩) (tL_ok ⟨k_96_102, gw_getf⟩)) (tN_ok (tL_ok ⟨k_96_105, gw_ret⟩) (tN_ok (tL_ok ⟨k_96_106, gw_push⟩) (tL_ok ⟨k_96_108, gw_ret⟩)))))))
theorem k_97_0 : OkOp mt Ev 97 0 (o_iload 1 1) := ok_iload_n (k := 1) (by decide +kernel) rfl
theorem k_97_1 : OkOp mt Ev 97 1 (o_cs 106 1) := ok_cs (i := 238) (by decide +kernel) wd_847 wd_848 wd_56 wd_849 nk_25
theorem k_97_4 : OkOp mt Ev 97 4 (o_if1 (fun x => decide (¬ x = 0)) 9) := ok_if_ne (off := 5) (by decide +kernel) (by decide +kernel)
theorem k_97_7 : OkOp mt Ev 97 7 (o_push (.int (-1)) 1) := ok_iconst (n := -1) (by decide +kernel) (by decide +kernel)
theorem k_97_8 : OkOp mt Ev 97 8 (o_ret 0) := ok_reti (ty := .int) (by decide +kernel) rfl (Or.inl ⟨rfl, rfl⟩)
theorem k_97_9 : OkOp mt Ev 97 9 (o_iload 2 1) := ok_iload_n (k := 2) (by decide +kernel) rfl
theorem k_97_10 : OkOp mt Ev 97 10 (o_push (.int (-1)) 1) := ok_iconst (n := -1) (by decide +kernel) (by decide +kernel)
theorem k_97_11 : OkOp mt Ev 97 11 (o_if2 (fun x y => decide (x < y)) 19) := ok_icmp_lt (off := 8) (by decide +kernel) (by decide +kernel)
theorem k_97_14 : OkOp mt Ev 97 14 (o_iload 2 1) := ok_iload_n (k := 2) (by decide +kernel) rfl
theorem k_97_15 : OkOp mt Ev 97 15 (o_push (.int (4)) 1) := ok_iconst (n := 4) (by decide +kernel) (by decide +kernel)
theorem k_97_16 : OkOp mt Ev 97 16 (o_if2 (fun x y => decide (x ≤ y)) 22) := ok_icmp_le (off := 6) (by decide +kernel) (by decide +kernel)
theorem k_97_19 : OkOp mt Ev 97 19 (o_push (.int (-2)) 2) := ok_bipush (n := -2) (by decide +kernel) (by decide +kernel)
theorem k_97_21 : OkOp mt Ev 97 21 (o_ret 0) := ok_reti (ty := .int) (by decide +kernel) rfl (Or.inl ⟨rfl, rfl⟩)
theorem k_97_22 : OkOp mt Ev 97 22 (o_iload 2 1) := ok_iload_n (k := 2) (by decide +kernel) rfl
theorem k_97_23 : OkOp mt Ev 97 23 (o_if1 (fun x => decide (x < 0)) 35) := ok_if_lt (off := 12) (by decide +kernel) (by decide +kernel)
theorem k_97_26 : OkOp mt Ev 97 26 (o_iload 3 1) := ok_iload_n (k := 3) (by decide +kernel) rfl
theorem k_97_27 : OkOp mt Ev 97 27 (o_push (.int (60)) 2) := ok_bipush (n := 60) (by decide +kernel) (by decide +kernel)
theorem k_97_29 : OkOp mt Ev 97 29 (o_if2 (fun x y => decide (x ≤ y)) 35) := ok_icmp_le (off := 6) (by decide +kernel) (by decide +kernel)
theorem k_97_32 : OkOp mt Ev 97 32 (o_push (.int (-2)) 2) := ok_bipush (n := -2) (by decide +kernel) (by decide +kernel)
theorem k_97_34 : OkOp mt Ev 97 34 (o_ret 0) := ok_reti (ty := .int) (by decide +kernel) rfl (Or.inl ⟨rfl, rfl⟩)
theorem k_97_35 : OkOp mt Ev 97 35 (o_iload 2 1) := ok_iload_n (k := 2) (by decide +kernel) rfl
theorem k_97_36 : OkOp mt Ev 97 36 (o_if1 (fun x => decide (x < 0)) 46) := ok_if_lt (off := 10) (by decide +kernel) (by decide +kernel)
theorem k_97_39 : OkOp mt Ev 97 39 (o_iload 3 1) := ok_iload_n (k := 3) (by decide +kernel) rfl
theorem k_97_40 : OkOp mt Ev 97 40 (o_if1 (fun x => decide (0 ≤ x)) 46) := ok_if_ge (off := 6) (by decide +kernel) (by decide +kernel)
theorem k_97_43 : OkOp mt Ev 97 43 (o_push (.int (-14)) 2) := ok_bipush (n := -14) (by decide +kernel) (by decide +kernel)
theorem k_97_45 : OkOp mt Ev 97 45 (o_ret 0) := ok_reti (ty := .int) (by decide +kernel) rfl (Or.inl ⟨rfl, rfl⟩)
theorem k_97_46 : OkOp mt Ev 97 46 (o_aload 0 1) := ok_aload_n (k := 0) (by decide +kernel) rfl
theorem k_97_47 : OkOp mt Ev 97 47 (o_getf 7 [11]) := ok_getf (i := 38) (rf := "BridgeSentences") (nm := "tapeSort") (ds := "[I") (by decide +kernel) fc_42 wd_225
theorem k_97_50 : OkOp mt Ev 97 50 (o_iload 1 1) := ok_iload_n (k := 1) (by decide +kernel) rfl
theorem k_97_51 : OkOp mt Ev 97 51 (o_iload 2 1) := ok_iload_n (k := 2) (by decide +kernel) rfl
theorem k_97_52 : OkOp mt Ev 97 52 (o_iast 2 (fun x => x)) := ok_iast (by decide +kernel)
theorem k_97_53 : OkOp mt Ev 97 53 (o_aload 0 1) := ok_aload_n (k := 0) (by decide +kernel) rfl
theorem k_97_54 : OkOp mt Ev 97 54 (o_getf 8 [11]) := ok_getf (i := 42) (rf := "BridgeSentences") (nm := "tapeSize") (ds := "[I") (by decide +kernel) fc_43 wd_226
theorem k_97_57 : OkOp mt Ev 97 57 (o_iload 1 1) := ok_iload_n (k := 1) (by decide +kernel) rfl
theorem k_97_58 : OkOp mt Ev 97 58 (o_iload 2 1) := ok_iload_n (k := 2) (by decide +kernel) rfl
theorem k_97_59 : OkOp mt Ev 97 59 (o_if1 (fun x => decide (x < 0)) 66) := ok_if_lt (off := 7) (by decide +kernel) (by decide +kernel)
theorem k_97_62 : OkOp mt Ev 97 62 (o_iload 3 1) := ok_iload_n (k := 3) (by decide +kernel) rfl
theorem k_97_63 : OkOp mt Ev 97 63 (o_goto 67) := ok_goto (off := 4) (by decide +kernel) (by decide +kernel)
theorem k_97_66 : OkOp mt Ev 97 66 (o_push (.int (0)) 1) := ok_iconst (n := 0) (by decide +kernel) (by decide +kernel)
theorem k_97_67 : OkOp mt Ev 97 67 (o_iast 2 (fun x => x)) := ok_iast (by decide +kernel)
theorem k_97_68 : OkOp mt Ev 97 68 (o_push (.int (0)) 1) := ok_iconst (n := 0) (by decide +kernel) (by decide +kernel)
theorem k_97_69 : OkOp mt Ev 97 69 (o_istore 4 2) := ok_istore (by decide +kernel)
theorem k_97_71 : OkOp mt Ev 97 71 (o_iload 4 2) := ok_iload (by decide +kernel)
theorem k_97_73 : OkOp mt Ev 97 73 (o_aload 0 1) := ok_aload_n (k := 0) (by decide +kernel) rfl
theorem k_97_74 : OkOp mt Ev 97 74 (o_getf 8 [11]) := ok_getf (i := 42) (rf := "BridgeSentences") (nm := "tapeSize") (ds := "[I") (by decide +kernel) fc_43 wd_226
theorem k_97_77 : OkOp mt Ev 97 77 (o_iload 1 1) := ok_iload_n (k := 1) (by decide +kernel) rfl
theorem k_97_78 : OkOp mt Ev 97 78 (o_iald 2) := ok_iald (by decide +kernel)
theorem k_97_79 : OkOp mt Ev 97 79 (o_if2 (fun x y => decide (y ≤ x)) 98) := ok_icmp_ge (off := 19) (by decide +kernel) (by decide +kernel)
theorem k_97_82 : OkOp mt Ev 97 82 (o_aload 0 1) := ok_aload_n (k := 0) (by decide +kernel) rfl
theorem k_97_83 : OkOp mt Ev 97 83 (o_getf 9 [11]) := ok_getf (i := 47) (rf := "BridgeSentences") (nm := "tapeItems") (ds := "[[J") (by decide +kernel) fc_44 wd_227
theorem k_97_86 : OkOp mt Ev 97 86 (o_iload 1 1) := ok_iload_n (k := 1) (by decide +kernel) rfl
theorem k_97_87 : OkOp mt Ev 97 87 (o_aald) := ok_aald (by decide +kernel)
theorem k_97_88 : OkOp mt Ev 97 88 (o_iload 4 2) := ok_iload (by decide +kernel)
theorem k_97_90 : OkOp mt Ev 97 90 (o_push (.long (0)) 1) := ok_lconst (n := 0) (by decide +kernel) (by decide +kernel)
theorem k_97_91 : OkOp mt Ev 97 91 (o_last) := ok_last (by decide +kernel)
theorem k_97_92 : OkOp mt Ev 97 92 (o_iinc 4 (1)) := ok_iinc (n := 1) (by decide +kernel) (by decide +kernel)
theorem k_97_95 : OkOp mt Ev 97 95 (o_goto 71) := ok_goto (off := -24) (by decide +kernel) (by decide +kernel)
theorem k_97_98 : OkOp mt Ev 97 98 (o_push (.int (1)) 1) := ok_iconst (n := 1) (by decide +kernel) (by decide +kernel)
theorem k_97_99 : OkOp mt Ev 97 99 (o_ret 0) := ok_reti (ty := .int) (by decide +kernel) rfl (Or.inl ⟨rfl, rfl⟩)
theorem kt_97 : ∀ pc o, cd_X11_tape Ev pc = some o → OkOp mt Ev 97 pc o ∧ Gw o := (tN_ok (tN_ok (tN_ok (tN_ok (tN_ok (tL_ok ⟨k_97_0, gw_iload⟩) (tN_ok (tL_ok ⟨k_97_1, gw_cs⟩) (tL_ok ⟨k_97_4, gw_if1⟩))) (tN_ok (tN_ok (tL_ok ⟨k_97_7, gw_push⟩) (tL_ok ⟨k_97_8, gw_ret⟩)) (tN_ok (tL_ok ⟨k_97_9, gw_iload⟩) (tL_ok ⟨k_97_10, gw_push⟩)))) (tN_ok (tN_ok (tL_ok ⟨k_97_11, gw_if2⟩) (tN_ok (tL_ok ⟨k_97_14, gw_iload⟩) (tL_ok ⟨k_97_15, gw_push⟩))) (tN_ok (tN_ok (tL_ok ⟨k_97_16, gw_if2⟩) (tL_ok ⟨k_97_19, gw_push⟩)) (tN_ok (tL_ok ⟨k_97_21, gw_ret⟩) (tL_ok ⟨k_97_22, gw_iload⟩))))) (tN_ok (tN_ok (tN_ok (tL_ok ⟨k_97_23, gw_if1⟩) (tN_ok (tL_ok ⟨k_97_26, gw_iload⟩) (tL_ok ⟨k_97_27, gw_push⟩))) (tN_ok (tN_ok (tL_ok ⟨k_97_29, gw_if2⟩) (tL_ok ⟨k_97_32, gw_push⟩)) (tN_ok (tL_ok ⟨k_97_34, gw_ret⟩) (tL_ok ⟨k_97_35, gw_iload⟩)))) (tN_ok (tN_ok (tN_ok (tL_ok ⟨k_97_36, gw_if1⟩) (tL_ok ⟨k_97_39, gw_iload⟩)) (tN_ok (tL_ok ⟨k_97_40, gw_if1⟩) (tL_ok ⟨k_97_43, gw_push⟩))) (tN_ok (tN_ok (tL_ok ⟨k_97_45, gw_ret⟩) (tL_ok ⟨k_97_46, gw_aload⟩)) (tN_ok (tL_ok ⟨k_97_47, gw_getf⟩) (tL_ok ⟨k_97_50, gw_iload⟩)))))) (tN_ok (tN_ok (tN_ok (tN_ok (tL_ok ⟨k_97_51, gw_iload⟩) (tN_ok (tL_ok ⟨k_97_52, gw_iast⟩) (tL_ok ⟨k_97_53, gw_aload⟩))) (tN_ok (tN_ok (tL_ok ⟨k_97_54, gw_getf⟩) (tL_ok ⟨k_97_57, gw_iload⟩)) (tN_ok (tL_ok ⟨k_97_58, gw_iload⟩) (tL_ok ⟨k_97_59, gw_if1⟩)))) (tN_ok (tN_ok (tN_ok (tL_ok ⟨k_97_62, gw_iload⟩) (tL_ok ⟨k_97_63, gw_goto⟩)) (tN_ok (tL_ok ⟨k_97_66, gw_push⟩) (tL_ok ⟨k_97_67, gw_iast⟩))) (tN_ok (tN_ok (tL_ok ⟨k_97_68, gw_push⟩) (tL_ok ⟨k_97_69, gw_istore⟩)) (tN_ok (tL_ok ⟨k_97_71, gw_iload⟩) (tL_ok ⟨k_97_73, gw_aload⟩))))) (tN_ok (tN_ok (tN_ok (tL_ok ⟨k_97_74, gw_getf⟩) (tN_ok (tL_ok ⟨k_97_77, gw_iload⟩) (tL_ok ⟨k_97_78, gw_iald⟩))) (tN_ok (tN_ok (tL_ok ⟨k_97_79, gw_if2⟩) (tL_ok ⟨k_97_82, gw_aload⟩)) (tN_ok (tL_ok ⟨k_97_83, gw_getf⟩) (tL_ok ⟨k_97_86, gw_iload⟩)))) (tN_ok (tN_ok (tN_ok (tL_ok ⟨k_97_87, gw_aald⟩) (tL_ok ⟨k_97_88, gw_iload⟩)) (tN_ok (tL_ok ⟨k_97_90, gw_push⟩) (tL_ok ⟨k_97_91, gw_last⟩))) (tN_ok (tN_ok (tL_ok ⟨k_97_92, gw_iinc⟩) (tL_ok ⟨k_97_95, gw_goto⟩)) (tN_ok (tL_ok ⟨k_97_98, gw_push⟩) (tL_ok ⟨k_97_99, gw_ret⟩)))))))
theorem k_98_0 : OkOp mt Ev 98 0 (o_iload 1 1) := ok_iload_n (k := 1) (by decide +kernel) rfl
theorem k_98_1 : OkOp mt Ev 98 1 (o_cs 106 1) := ok_cs (i := 238) (by decide +kernel) wd_847 wd_848 wd_56 wd_849 nk_25
theorem k_98_4 : OkOp mt Ev 98 4 (o_if1 (fun x => decide (¬ x = 0)) 9) := ok_if_ne (off := 5) (by decide +kernel) (by decide +kernel)
theorem k_98_7 : OkOp mt Ev 98 7 (o_push (.int (-1)) 1) := ok_iconst (n := -1) (by decide +kernel) (by decide +kernel)
theorem k_98_8 : OkOp mt Ev 98 8 (o_ret 0) := ok_reti (ty := .int) (by decide +kernel) rfl (Or.inl ⟨rfl, rfl⟩)
theorem k_98_9 : OkOp mt Ev 98 9 (o_aload 0 1) := ok_aload_n (k := 0) (by decide +kernel) rfl
theorem k_98_10 : OkOp mt Ev 98 10 (o_getf 7 [11]) := ok_getf (i := 38) (rf := "BridgeSentences") (nm := "tapeSort") (ds := "[I") (by decide +kernel) fc_42 wd_225
theorem k_98_13 : OkOp mt Ev 98 13 (o_iload 1 1) := ok_iload_n (k := 1) (by decide +kernel) rfl
theorem k_98_14 : OkOp mt Ev 98 14 (o_iald 2) := ok_iald (by decide +kernel)
theorem k_98_15 : OkOp mt Ev 98 15 (o_push (.int (-1)) 1) := ok_iconst (n := -1) (by decide +kernel) (by decide +kernel)
theorem k_98_16 : OkOp mt Ev 98 16 (o_if2 (fun x y => decide (¬ x = y)) 22) := ok_icmp_ne (off := 6) (by decide +kernel) (by decide +kernel)
theorem k_98_19 : OkOp mt Ev 98 19 (o_push (.int (-11)) 2) := ok_bipush (n := -11) (by decide +kernel) (by decide +kernel)
theorem k_98_21 : OkOp mt Ev 98 21 (o_ret 0) := ok_reti (ty := .int) (by decide +kernel) rfl (Or.inl ⟨rfl, rfl⟩)
theorem k_98_22 : OkOp mt Ev 98 22 (o_iload 2 1) := ok_iload_n (k := 2) (by decide +kernel) rfl
theorem k_98_23 : OkOp mt Ev 98 23 (o_if1 (fun x => decide (x < 0)) 36) := ok_if_lt (off := 13) (by decide +kernel) (by decide +kernel)
theorem k_98_26 : OkOp mt Ev 98 26 (o_iload 2 1) := ok_iload_n (k := 2) (by decide +kernel) rfl
theorem k_98_27 : OkOp mt Ev 98 27 (o_aload 0 1) := ok_aload_n (k := 0) (by decide +kernel) rfl
theorem k_98_28 : OkOp mt Ev 98 28 (o_getf 8 [11]) := ok_getf (i := 42) (rf := "BridgeSentences") (nm := "tapeSize") (ds := "[I") (by decide +kernel) fc_43 wd_226
theorem k_98_31 : OkOp mt Ev 98 31 (o_iload 1 1) := ok_iload_n (k := 1) (by decide +kernel) rfl
theorem k_98_32 : OkOp mt Ev 98 32 (o_iald 2) := ok_iald (by decide +kernel)
theorem k_98_33 : OkOp mt Ev 98 33 (o_if2 (fun x y => decide (x < y)) 39) := ok_icmp_lt (off := 6) (by decide +kernel) (by decide +kernel)
theorem k_98_36 : OkOp mt Ev 98 36 (o_push (.int (-13)) 2) := ok_bipush (n := -13) (by decide +kernel) (by decide +kernel)
theorem k_98_38 : OkOp mt Ev 98 38 (o_ret 0) := ok_reti (ty := .int) (by decide +kernel) rfl (Or.inl ⟨rfl, rfl⟩)
theorem k_98_39 : OkOp mt Ev 98 39 (o_aload 0 1) := ok_aload_n (k := 0) (by decide +kernel) rfl
theorem k_98_40 : OkOp mt Ev 98 40 (o_getf 9 [11]) := ok_getf (i := 47) (rf := "BridgeSentences") (nm := "tapeItems") (ds := "[[J") (by decide +kernel) fc_44 wd_227
theorem k_98_43 : OkOp mt Ev 98 43 (o_iload 1 1) := ok_iload_n (k := 1) (by decide +kernel) rfl
theorem k_98_44 : OkOp mt Ev 98 44 (o_aald) := ok_aald (by decide +kernel)
theorem k_98_45 : OkOp mt Ev 98 45 (o_iload 2 1) := ok_iload_n (k := 2) (by decide +kernel) rfl
theorem k_98_46 : OkOp mt Ev 98 46 (o_aload 0 1) := ok_aload_n (k := 0) (by decide +kernel) rfl
theorem k_98_47 : OkOp mt Ev 98 47 (o_getf 7 [11]) := ok_getf (i := 38) (rf := "BridgeSentences") (nm := "tapeSort") (ds := "[I") (by decide +kernel) fc_42 wd_225
theorem k_98_50 : OkOp mt Ev 98 50 (o_iload 1 1) := ok_iload_n (k := 1) (by decide +kernel) rfl
theorem k_98_51 : OkOp mt Ev 98 51 (o_iald 2) := ok_iald (by decide +kernel)
theorem k_98_52 : OkOp mt Ev 98 52 (o_lload 3 1) := ok_lload_n (k := 3) (by decide +kernel) rfl
theorem k_98_53 : OkOp mt Ev 98 53 (o_cs 109 2) := ok_cs (i := 263) (by decide +kernel) wd_964 wd_965 wd_56 wd_966 nk_27
theorem k_98_56 : OkOp mt Ev 98 56 (o_last) := ok_last (by decide +kernel)
theorem k_98_57 : OkOp mt Ev 98 57 (o_push (.int (1)) 1) := ok_iconst (n := 1) (by decide +kernel) (by decide +kernel)
theorem k_98_58 : OkOp mt Ev 98 58 (o_ret 0) := ok_reti (ty := .int) (by decide +kernel) rfl (Or.inl ⟨rfl, rfl⟩)
theorem kt_98 : ∀ pc o, cd_X11_item Ev pc = some o → OkOp mt Ev 98 pc o ∧ Gw o := (tN_ok (tN_ok (tN_ok (tN_ok (tN_ok (tL_ok ⟨k_98_0, gw_iload⟩) (tL_ok ⟨k_98_1, gw_cs⟩)) (tN_ok (tL_ok ⟨k_98_4, gw_if1⟩) (tL_ok ⟨k_98_7, gw_push⟩))) (tN_ok (tN_ok (tL_ok ⟨k_98_8, gw_ret⟩) (tL_ok ⟨k_98_9, gw_aload⟩)) (tN_ok (tL_ok ⟨k_98_10, gw_getf⟩) (tN_ok (tL_ok ⟨k_98_13, gw_iload⟩) (tL_ok ⟨k_98_14, gw_iald⟩))))) (tN_ok (tN_ok (tN_ok (tL_ok ⟨k_98_15, gw_push⟩) (tL_ok ⟨k_98_16, gw_if2⟩)) (tN_ok (tL_ok ⟨k_98_19, gw_push⟩) (tL_ok ⟨k_98_21, gw_ret⟩))) (tN_ok (tN_ok (tL_ok ⟨k_98_22, gw_iload⟩) (tL_ok ⟨k_98_23, gw_if1⟩)) (tN_ok (tL_ok ⟨k_98_26, gw_iload⟩) (tN_ok (tL_ok ⟨k_98_27, gw_aload⟩) (tL_ok ⟨k_98_28, gw_getf⟩)))))) (tN_ok (tN_ok (tN_ok (tN_ok (tL_ok ⟨k_98_31, gw_iload⟩) (tL_ok ⟨k_98_32, gw_iald⟩)) (tN_ok (tL_ok ⟨k_98_33, gw_if2⟩) (tL_ok ⟨k_98_36, gw_push⟩))) (tN_ok (tN_ok (tL_ok ⟨k_98_38, gw_ret⟩) (tL_ok ⟨k_98_39, gw_aload⟩)) (tN_ok (tL_ok ⟨k_98_40, gw_getf⟩) (tN_ok (tL_ok ⟨k_98_43, gw_iload⟩) (tL_ok ⟨k_98_44, gw_aald⟩))))) (tN_ok (tN_ok (tN_ok (tL_ok ⟨k_98_45, gw_iload⟩) (tL_ok ⟨k_98_46, gw_aload⟩)) (tN_ok (tL_ok ⟨k_98_47, gw_getf⟩) (tN_ok (tL_ok ⟨k_98_50, gw_iload⟩) (tL_ok ⟨k_98_51, gw_iald⟩)))) (tN_ok (tN_ok (tL_ok ⟨k_98_52, gw_lload⟩) (tL_ok ⟨k_98_53, gw_cs⟩)) (tN_ok (tL_ok ⟨k_98_56, gw_last⟩) (tN_ok (tL_ok ⟨k_98_57, gw_push⟩) (tL_ok ⟨k_98_58, gw_ret⟩)))))))
theorem k_99_0 : OkOp mt Ev 99 0 (o_iload 1 1) := ok_iload_n (k := 1) (by decide +kernel) rfl
theorem k_99_1 : OkOp mt Ev 99 1 (o_cs 106 1) := ok_cs (i := 238) (by decide +kernel) wd_847 wd_848 wd_56 wd_849 nk_25
theorem k_99_4 : OkOp mt Ev 99 4 (o_if1 (fun x => decide (x = 0)) 21) := ok_if_eq (off := 17) (by decide +kernel) (by decide +kernel)
theorem k_99_7 : OkOp mt Ev 99 7 (o_iload 2 1) := ok_iload_n (k := 2) (by decide +kernel) rfl
theorem k_99_8 : OkOp mt Ev 99 8 (o_if1 (fun x => decide (x < 0)) 21) := ok_if_lt (off := 13) (by decide +kernel) (by decide +kernel)
theorem k_99_11 : OkOp mt Ev 99 11 (o_iload 2 1) := ok_iload_n (k := 2) (by decide +kernel) rfl
theorem k_99_12 : OkOp mt Ev 99 12 (o_aload 0 1) := ok_aload_n (k := 0) (by decide +kernel) rfl
theorem k_99_13 : OkOp mt Ev 99 13 (o_getf 8 [11]) := ok_getf (i := 42) (rf := "BridgeSentences") (nm := "tapeSize") (ds := "[I") (by decide +kernel) fc_43 wd_226
theorem k_99_16 : OkOp mt Ev 99 16 (o_iload 1 1) := ok_iload_n (k := 1) (by decide +kernel) rfl
theorem k_99_17 : OkOp mt Ev 99 17 (o_iald 2) := ok_iald (by decide +kernel)
theorem k_99_18 : OkOp mt Ev 99 18 (o_if2 (fun x y => decide (x < y)) 25) := ok_icmp_lt (off := 7) (by decide +kernel) (by decide +kernel)
theorem k_99_21 : OkOp mt Ev 99 21 (o_push (.long (-9223372036854775808)) 3) := ok_ldc2 (i := 208) (by decide +kernel) wd_806
theorem k_99_24 : OkOp mt Ev 99 24 (o_ret 2) := ok_retl (by decide +kernel) rfl
theorem k_99_25 : OkOp mt Ev 99 25 (o_aload 0 1) := ok_aload_n (k := 0) (by decide +kernel) rfl
theorem k_99_26 : OkOp mt Ev 99 26 (o_getf 9 [11]) := ok_getf (i := 47) (rf := "BridgeSentences") (nm := "tapeItems") (ds := "[[J") (by decide +kernel) fc_44 wd_227
theorem k_99_29 : OkOp mt Ev 99 29 (o_iload 1 1) := ok_iload_n (k := 1) (by decide +kernel) rfl
theorem k_99_30 : OkOp mt Ev 99 30 (o_aald) := ok_aald (by decide +kernel)
theorem k_99_31 : OkOp mt Ev 99 31 (o_iload 2 1) := ok_iload_n (k := 2) (by decide +kernel) rfl
theorem k_99_32 : OkOp mt Ev 99 32 (o_lald) := ok_lald (by decide +kernel)
theorem k_99_33 : OkOp mt Ev 99 33 (o_ret 2) := ok_retl (by decide +kernel) rfl
theorem kt_99 : ∀ pc o, cd_X11_read Ev pc = some o → OkOp mt Ev 99 pc o ∧ Gw o := (tN_ok (tN_ok (tN_ok (tN_ok (tL_ok ⟨k_99_0, gw_iload⟩) (tL_ok ⟨k_99_1, gw_cs⟩)) (tN_ok (tL_ok ⟨k_99_4, gw_if1⟩) (tN_ok (tL_ok ⟨k_99_7, gw_iload⟩) (tL_ok ⟨k_99_8, gw_if1⟩)))) (tN_ok (tN_ok (tL_ok ⟨k_99_11, gw_iload⟩) (tL_ok ⟨k_99_12, gw_aload⟩)) (tN_ok (tL_ok ⟨k_99_13, gw_getf⟩) (tN_ok (tL_ok ⟨k_99_16, gw_iload⟩) (tL_ok ⟨k_99_17, gw_iald⟩))))) (tN_ok (tN_ok (tN_ok (tL_ok ⟨k_99_18, gw_if2⟩) (tL_ok ⟨k_99_21, gw_push⟩)) (tN_ok (tL_ok ⟨k_99_24, gw_ret⟩) (tN_ok (tL_ok ⟨k_99_25, gw_aload⟩) (tL_ok ⟨k_99_26, gw_getf⟩)))) (tN_ok (tN_ok (tL_ok ⟨k_99_29, gw_iload⟩) (tL_ok ⟨k_99_30, gw_aald⟩)) (tN_ok (tL_ok ⟨k_99_31, gw_iload⟩) (tN_ok (tL_ok ⟨k_99_32, gw_lald⟩) (tL_ok ⟨k_99_33, gw_ret⟩))))))
theorem k_100_0 : OkOp mt Ev 100 0 (o_iload 1 1) := ok_iload_n (k := 1) (by decide +kernel) rfl
theorem k_100_1 : OkOp mt Ev 100 1 (o_cs 106 1) := ok_cs (i := 238) (by decide +kernel) wd_847 wd_848 wd_56 wd_849 nk_25
theorem k_100_4 : OkOp mt Ev 100 4 (o_if1 (fun x => decide (x = 0)) 14) := ok_if_eq (off := 10) (by decide +kernel) (by decide +kernel)
theorem k_100_7 : OkOp mt Ev 100 7 (o_iload 3 1) := ok_iload_n (k := 3) (by decide +kernel) rfl
theorem k_100_8 : OkOp mt Ev 100 8 (o_cs 106 1) := ok_cs (i := 238) (by decide +kernel) wd_847 wd_848 wd_56 wd_849 nk_25
theorem k_100_11 : OkOp mt Ev 100 11 (o_if1 (fun x => decide (¬ x = 0)) 16) := ok_if_ne (off := 5) (by decide +kernel) (by decide +kernel)
theorem k_100_14 : OkOp mt Ev 100 14 (o_push (.int (-1)) 1) := ok_iconst (n := -1) (by decide +kernel) (by decide +kernel)
theorem k_100_15 : OkOp mt Ev 100 15 (o_ret 0) := ok_reti (ty := .int) (by decide +kernel) rfl (Or.inl ⟨rfl, rfl⟩)
theorem k_100_16 : OkOp mt Ev 100 16 (o_aload 0 1) := ok_aload_n (k := 0) (by decide +kernel) rfl
theorem k_100_17 : OkOp mt Ev 100 17 (o_getf 7 [11]) := ok_getf (i := 38) (rf := "BridgeSentences") (nm := "tapeSort") (ds := "[I") (by decide +kernel) fc_42 wd_225
theorem k_100_20 : OkOp mt Ev 100 20 (o_iload 1 1) := ok_iload_n (k := 1) (by decide +kernel) rfl
theorem k_100_21 : OkOp mt Ev 100 21 (o_iald 2) := ok_iald (by decide +kernel)
theorem k_100_22 : OkOp mt Ev 100 22 (o_push (.int (-1)) 1) := ok_iconst (n := -1) (by decide +kernel) (by decide +kernel)
theorem k_100_23 : OkOp mt Ev 100 23 (o_if2 (fun x y => decide (x = y)) 36) := ok_icmp_eq (off := 13) (by decide +kernel) (by decide +kernel)
theorem k_100_26 : OkOp mt Ev 100 26 (o_aload 0 1) := ok_aload_n (k := 0) (by decide +kernel) rfl
theorem k_100_27 : OkOp mt Ev 100 27 (o_getf 7 [11]) := ok_getf (i := 38) (rf := "BridgeSentences") (nm := "tapeSort") (ds := "[I") (by decide +kernel) fc_42 wd_225
theorem k_100_30 : OkOp mt Ev 100 30 (o_iload 3 1) := ok_iload_n (k := 3) (by decide +kernel) rfl
theorem k_100_31 : OkOp mt Ev 100 31 (o_iald 2) := ok_iald (by decide +kernel)
theorem k_100_32 : OkOp mt Ev 100 32 (o_push (.int (-1)) 1) := ok_iconst (n := -1) (by decide +kernel) (by decide +kernel)
theorem k_100_33 : OkOp mt Ev 100 33 (o_if2 (fun x y => decide (¬ x = y)) 39) := ok_icmp_ne (off := 6) (by decide +kernel) (by decide +kernel)
theorem k_100_36 : OkOp mt Ev 100 36 (o_push (.int (-11)) 2) := ok_bipush (n := -11) (by decide +kernel) (by decide +kernel)
theorem k_100_38 : OkOp mt Ev 100 38 (o_ret 0) := ok_reti (ty := .int) (by decide +kernel) rfl (Or.inl ⟨rfl, rfl⟩)
theorem k_100_39 : OkOp mt Ev 100 39 (o_aload 0 1) := ok_aload_n (k := 0) (by decide +kernel) rfl
theorem k_100_40 : OkOp mt Ev 100 40 (o_getf 7 [11]) := ok_getf (i := 38) (rf := "BridgeSentences") (nm := "tapeSort") (ds := "[I") (by decide +kernel) fc_42 wd_225
theorem k_100_43 : OkOp mt Ev 100 43 (o_iload 1 1) := ok_iload_n (k := 1) (by decide +kernel) rfl
theorem k_100_44 : OkOp mt Ev 100 44 (o_iald 2) := ok_iald (by decide +kernel)
theorem k_100_45 : OkOp mt Ev 100 45 (o_aload 0 1) := ok_aload_n (k := 0) (by decide +kernel) rfl
theorem k_100_46 : OkOp mt Ev 100 46 (o_getf 7 [11]) := ok_getf (i := 38) (rf := "BridgeSentences") (nm := "tapeSort") (ds := "[I") (by decide +kernel) fc_42 wd_225
theorem k_100_49 : OkOp mt Ev 100 49 (o_iload 3 1) := ok_iload_n (k := 3) (by decide +kernel) rfl
theorem k_100_50 : OkOp mt Ev 100 50 (o_iald 2) := ok_iald (by decide +kernel)
theorem k_100_51 : OkOp mt Ev 100 51 (o_if2 (fun x y => decide (x = y)) 57) := ok_icmp_eq (off := 6) (by decide +kernel) (by decide +kernel)
theorem k_100_54 : OkOp mt Ev 100 54 (o_push (.int (-12)) 2) := ok_bipush (n := -12) (by decide +kernel) (by decide +kernel)
theorem k_100_56 : OkOp mt Ev 100 56 (o_ret 0) := ok_reti (ty := .int) (by decide +kernel) rfl (Or.inl ⟨rfl, rfl⟩)
theorem k_100_57 : OkOp mt Ev 100 57 (o_iload 5 2) := ok_iload (by decide +kernel)
theorem k_100_59 : OkOp mt Ev 100 59 (o_if1 (fun x => decide (x < 0)) 98) := ok_if_lt (off := 39) (by decide +kernel) (by decide +kernel)
theorem k_100_62 : OkOp mt Ev 100 62 (o_iload 2 1) := ok_iload_n (k := 2) (by decide +kernel) rfl
theorem k_100_63 : OkOp mt Ev 100 63 (o_if1 (fun x => decide (x < 0)) 98) := ok_if_lt (off := 35) (by decide +kernel) (by decide +kernel)
theorem k_100_66 : OkOp mt Ev 100 66 (o_iload 4 2) := ok_iload (by decide +kernel)
theorem k_100_68 : OkOp mt Ev 100 68 (o_if1 (fun x => decide (x < 0)) 98) := ok_if_lt (off := 30) (by decide +kernel) (by decide +kernel)
theorem k_100_71 : OkOp mt Ev 100 71 (o_iload 5 2) := ok_iload (by decide +kernel)
theorem k_100_73 : OkOp mt Ev 100 73 (o_aload 0 1) := ok_aload_n (k := 0) (by decide +kernel) rfl
theorem k_100_74 : OkOp mt Ev 100 74 (o_getf 8 [11]) := ok_getf (i := 42) (rf := "BridgeSentences") (nm := "tapeSize") (ds := "[I") (by decide +kernel) fc_43 wd_226
theorem k_100_77 : OkOp mt Ev 100 77 (o_iload 1 1) := ok_iload_n (k := 1) (by decide +kernel) rfl
theorem k_100_78 : OkOp mt Ev 100 78 (o_iald 2) := ok_iald (by decide +kernel)
theorem k_100_79 : OkOp mt Ev 100 79 (o_iload 2 1) := ok_iload_n (k := 2) (by decide +kernel) rfl
theorem k_100_80 : OkOp mt Ev 100 80 (o_ib (fun x y => x - y)) := ok_isub (by decide +kernel)
theorem k_100_81 : OkOp mt Ev 100 81 (o_if2 (fun x y => decide (y < x)) 98) := ok_icmp_gt (off := 17) (by decide +kernel) (by decide +kernel)
theorem k_100_84 : OkOp mt Ev 100 84 (o_iload 5 2) := ok_iload (by decide +kernel)
theorem k_100_86 : OkOp mt Ev 100 86 (o_aload 0 1) := ok_aload_n (k := 0) (by decide +kernel) rfl
theorem k_100_87 : OkOp mt Ev 100 87 (o_getf 8 [11]) := ok_getf (i := 42) (rf := "BridgeSentences") (nm := "tapeSize") (ds := "[I") (by decide +kernel) fc_43 wd_226
theorem k_100_90 : OkOp mt Ev 100 90 (o_iload 3 1) := ok_iload_n (k := 3) (by decide +kernel) rfl
theorem k_100_91 : OkOp mt Ev 100 91 (o_iald 2) := ok_iald (by decide +kernel)
theorem k_100_92 : OkOp mt Ev 100 92 (o_iload 4 2) := ok_iload (by decide +kernel)
theorem k_100_94 : OkOp mt Ev 100 94 (o_ib (fun x y => x - y)) := ok_isub (by decide +kernel)
theorem k_100_95 : OkOp mt Ev 100 95 (o_if2 (fun x y => decide (x ≤ y)) 101) := ok_icmp_le (off := 6) (by decide +kernel) (by decide +kernel)
theorem k_100_98 : OkOp mt Ev 100 98 (o_push (.int (-13)) 2) := ok_bipush (n := -13) (by decide +kernel) (by decide +kernel)
theorem k_100_100 : OkOp mt Ev 100 100 (o_ret 0) := ok_reti (ty := .int) (by decide +kernel) rfl (Or.inl ⟨rfl, rfl⟩)
theorem k_100_101 : OkOp mt Ev 100 101 (o_aload 0 1) := ok_aload_n (k := 0) (by decide +kernel) rfl
theorem k_100_102 : OkOp mt Ev 100 102 (o_getf 9 [11]) := ok_getf (i := 47) (rf := "BridgeSentences") (nm := "tapeItems") (ds := "[[J") (by decide +kernel) fc_44 wd_227
theorem k_100_105 : OkOp mt Ev 100 105 (o_iload 1 1) := ok_iload_n (k := 1) (by decide +kernel) rfl
theorem k_100_106 : OkOp mt Ev 100 106 (o_aald) := ok_aald (by decide +kernel)
theorem k_100_107 : OkOp mt Ev 100 107 (o_iload 2 1) := ok_iload_n (k := 2) (by decide +kernel) rfl
theorem k_100_108 : OkOp mt Ev 100 108 (o_aload 0 1) := ok_aload_n (k := 0) (by decide +kernel) rfl
theorem k_100_109 : OkOp mt Ev 100 109 (o_getf 9 [11]) := ok_getf (i := 47) (rf := "BridgeSentences") (nm := "tapeItems") (ds := "[[J") (by decide +kernel) fc_44 wd_227
theorem k_100_112 : OkOp mt Ev 100 112 (o_iload 3 1) := ok_iload_n (k := 3) (by decide +kernel) rfl
theorem k_100_113 : OkOp mt Ev 100 113 (o_aald) := ok_aald (by decide +kernel)
theorem k_100_114 : OkOp mt Ev 100 114 (o_iload 4 2) := ok_iload (by decide +kernel)
theorem k_100_116 : OkOp mt Ev 100 116 (o_iload 5 2) := ok_iload (by decide +kernel)
theorem k_100_118 : OkOp mt Ev 100 118 (o_cpyl) := ok_cpyl (i := 267) (by decide +kernel) wd_975 wd_463 wd_462 wd_71
theorem k_100_121 : OkOp mt Ev 100 121 (o_iload 5 2) := ok_iload (by decide +kernel)
theorem k_100_123 : OkOp mt Ev 100 123 (o_ret 0) := ok_reti (ty := .int) (by decide +kernel) rfl (Or.inl ⟨rfl, rfl⟩)
theorem kt_100 : ∀ pc o, cd_X11_shift Ev pc = some o → OkOp mt Ev 100 pc o ∧ Gw o := (tN_ok (tN_ok (tN_ok (tN_ok (tN_ok (tN_ok (tL_ok ⟨k_100_0, gw_iload⟩) (tL_ok ⟨k_100_1, gw_cs⟩)) (tN_ok (tL_ok ⟨k_100_4, gw_if1⟩) (tL_ok ⟨k_100_7, gw_iload⟩))) (tN_ok (tN_ok (tL_ok ⟨k_100_8, gw_cs⟩) (tL_ok ⟨k_100_11, gw_if1⟩)) (tN_ok (tL_ok ⟨k_100_14, gw_push⟩) (tL_ok ⟨k_100_15, gw_ret⟩)))) (tN_ok (tN_ok (tN_ok (tL_ok ⟨k_100_16, gw_aload⟩) (tL_ok ⟨k_100_17, gw_getf⟩)) (tN_ok (tL_ok ⟨k_100_20, gw_iload⟩) (tL_ok ⟨k_100_21, gw_iald⟩))) (tN_ok (tN_ok (tL_ok ⟨k_100_22, gw_push⟩) (tL_ok ⟨k_100_23, gw_if2⟩)) (tN_ok (tL_ok ⟨k_100_26, gw_aload⟩) (tN_ok (tL_ok ⟨k_100_27, gw_getf⟩) (tL_ok ⟨k_100_30, gw_iload⟩)))))) (tN_ok (tN_ok (tN_ok (tN_ok (tL_ok ⟨k_100_31, gw_iald⟩) (tL_ok ⟨k_100_32, gw_push⟩)) (tN_ok (tL_ok ⟨k_100_33, gw_if2⟩) (tL_ok ⟨k_100_36, gw_push⟩))) (tN_ok (tN_ok (tL_ok ⟨k_100_38, gw_ret⟩) (tL_ok ⟨k_100_39, gw_aload⟩)) (tN_ok (tL_ok ⟨k_100_40, gw_getf⟩) (tN_ok (tL_ok ⟨k_100_43, gw_iload⟩) (tL_ok ⟨k_100_44, gw_iald⟩))))) (tN_ok (tN_ok (tN_ok (tL_ok ⟨k_100_45, gw_aload⟩) (tL_ok ⟨k_100_46, gw_getf⟩)) (tN_ok (tL_ok ⟨k_100_49, gw_iload⟩) (tL_ok ⟨k_100_50, gw_iald⟩))) (tN_ok (tN_ok (tL_ok ⟨k_100_51, gw_if2⟩) (tL_ok ⟨k_100_54, gw_push⟩)) (tN_ok (tL_ok ⟨k_100_56, gw_ret⟩) (tN_ok (tL_ok ⟨k_100_57, gw_iload⟩) (tL_ok ⟨k_100_59, gw_if1⟩))))))) (tN_ok (tN_ok (tN_ok (tN_ok (tN_ok (tL_ok ⟨k_100_62, gw_iload⟩) (tL_ok ⟨k_100_63, gw_if1⟩)) (tN_ok (tL_ok ⟨k_100_66, gw_iload⟩) (tL_ok ⟨k_100_68, gw_if1⟩))) (tN_ok (tN_ok (tL_ok ⟨k_100_71, gw_iload⟩) (tL_ok ⟨k_100_73, gw_aload⟩)) (tN_ok (tL_ok ⟨k_100_74, gw_getf⟩) (tN_ok (tL_ok ⟨k_100_77, gw_iload⟩) (tL_ok ⟨k_100_78, gw_iald⟩))))) (tN_ok (tN_ok (tN_ok (tL_ok ⟨k_100_79, gw_iload⟩) (tL_ok ⟨k_100_80, gw_ib⟩)) (tN_ok (tL_ok ⟨k_100_81, gw_if2⟩) (tL_ok ⟨k_100_84, gw_iload⟩))) (tN_ok (tN_ok (tL_ok ⟨k_100_86, gw_aload⟩) (tL_ok ⟨k_100_87, gw_getf⟩)) (tN_ok (tL_ok ⟨k_100_90, gw_iload⟩) (tN_ok (tL_ok ⟨k_100_91, gw_iald⟩) (tL_ok ⟨k_100_92, gw_iload⟩)))))) (tN_ok (tN_ok (tN_ok (tN_ok (tL_ok ⟨k_100_94, gw_ib⟩) (tL_ok ⟨k_100_95, gw_if2⟩)) (tN_ok (tL_ok ⟨k_100_98, gw_push⟩) (tL_ok ⟨k_100_100, gw_ret⟩))) (tN_ok (tN_ok (tL_ok ⟨k_100_101, gw_aload⟩) (tL_ok ⟨k_100_102, gw_getf⟩)) (tN_ok (tL_ok ⟨k_100_105, gw_iload⟩) (tN_ok (tL_ok ⟨k_100_106, gw_aald⟩) (tL_ok ⟨k_100_107, gw_iload⟩))))) (tN_ok (tN_ok (tN_ok (tL_ok ⟨k_100_108, gw_aload⟩) (tL_ok ⟨k_100_109, gw_getf⟩)) (tN_ok (tL_ok ⟨k_100_112, gw_iload⟩) (tL_ok ⟨k_100_113, gw_aald⟩))) (tN_ok (tN_ok (tL_ok ⟨k_100_114, gw_iload⟩) (tL_ok ⟨k_100_116, gw_iload⟩)) (tN_ok (tL_ok ⟨k_100_118, gw_cpyl⟩) (tN_ok (tL_ok ⟨k_100_121, gw_iload⟩) (tL_ok ⟨k_100_123, gw_ret⟩))))))))
theorem k_101_0 : OkOp mt Ev 101 0 (o_iload 0 1) := ok_iload_n (k := 0) (by decide +kernel) rfl
theorem k_101_1 : OkOp mt Ev 101 1 (o_if1 (fun x => decide (x < 0)) 14) := ok_if_lt (off := 13) (by decide +kernel) (by decide +kernel)
theorem k_101_4 : OkOp mt Ev 101 4 (o_iload 0 1) := ok_iload_n (k := 0) (by decide +kernel) rfl
theorem k_101_5 : OkOp mt Ev 101 5 (o_push (.int (12)) 2) := ok_bipush (n := 12) (by decide +kernel) (by decide +kernel)
theorem k_101_7 : OkOp mt Ev 101 7 (o_if2 (fun x y => decide (y ≤ x)) 14) := ok_icmp_ge (off := 7) (by decide +kernel) (by decide +kernel)
theorem k_101_10 : OkOp mt Ev 101 10 (o_push (.int (1)) 1) := ok_iconst (n := 1) (by decide +kernel) (by decide +kernel)
theorem k_101_11 : OkOp mt Ev 101 11 (o_goto 15) := ok_goto (off := 4) (by decide +kernel) (by decide +kernel)
theorem k_101_14 : OkOp mt Ev 101 14 (o_push (.int (0)) 1) := ok_iconst (n := 0) (by decide +kernel) (by decide +kernel)
theorem k_101_15 : OkOp mt Ev 101 15 (o_ret 1) := ok_reti (ty := .boolean) (by decide +kernel) rfl (Or.inr (Or.inl ⟨rfl, rfl⟩))
theorem kt_101 : ∀ pc o, cd_X11_isSentence Ev pc = some o → OkOp mt Ev 101 pc o ∧ Gw o := (tN_ok (tN_ok (tN_ok (tL_ok ⟨k_101_0, gw_iload⟩) (tL_ok ⟨k_101_1, gw_if1⟩)) (tN_ok (tL_ok ⟨k_101_4, gw_iload⟩) (tL_ok ⟨k_101_5, gw_push⟩))) (tN_ok (tN_ok (tL_ok ⟨k_101_7, gw_if2⟩) (tL_ok ⟨k_101_10, gw_push⟩)) (tN_ok (tL_ok ⟨k_101_11, gw_goto⟩) (tN_ok (tL_ok ⟨k_101_14, gw_push⟩) (tL_ok ⟨k_101_15, gw_ret⟩)))))
theorem k_102_0 : OkOp mt Ev 102 0 (o_iload 0 1) := ok_iload_n (k := 0) (by decide +kernel) rfl
theorem k_102_1 : OkOp mt Ev 102 1 (o_if1 (fun x => decide (x < 0)) 15) := ok_if_lt (off := 14) (by decide +kernel) (by decide +kernel)
theorem k_102_4 : OkOp mt Ev 102 4 (o_iload 0 1) := ok_iload_n (k := 0) (by decide +kernel) rfl
theorem k_102_5 : OkOp mt Ev 102 5 (o_push (.int (4096)) 3) := ok_sipush (n := 4096) (by decide +kernel) (by decide +kernel)
theorem k_102_8 : OkOp mt Ev 102 8 (o_if2 (fun x y => decide (y ≤ x)) 15) := ok_icmp_ge (off := 7) (by decide +kernel) (by decide +kernel)
theorem k_102_11 : OkOp mt Ev 102 11 (o_push (.int (1)) 1) := ok_iconst (n := 1) (by decide +kernel) (by decide +kernel)
theorem k_102_12 : OkOp mt Ev 102 12 (o_goto 16) := ok_goto (off := 4) (by decide +kernel) (by decide +kernel)
theorem k_102_15 : OkOp mt Ev 102 15 (o_push (.int (0)) 1) := ok_iconst (n := 0) (by decide +kernel) (by decide +kernel)
theorem k_102_16 : OkOp mt Ev 102 16 (o_ret 1) := ok_reti (ty := .boolean) (by decide +kernel) rfl (Or.inr (Or.inl ⟨rfl, rfl⟩))
theorem kt_102 : ∀ pc o, cd_X11_isSet Ev pc = some o → OkOp mt Ev 102 pc o ∧ Gw o := (tN_ok (tN_ok (tN_ok (tL_ok ⟨k_102_0, gw_iload⟩) (tL_ok ⟨k_102_1, gw_if1⟩)) (tN_ok (tL_ok ⟨k_102_4, gw_iload⟩) (tL_ok ⟨k_102_5, gw_push⟩))) (tN_ok (tN_ok (tL_ok ⟨k_102_8, gw_if2⟩) (tL_ok ⟨k_102_11, gw_push⟩)) (tN_ok (tL_ok ⟨k_102_12, gw_goto⟩) (tN_ok (tL_ok ⟨k_102_15, gw_push⟩) (tL_ok ⟨k_102_16, gw_ret⟩)))))
theorem k_103_0 : OkOp mt Ev 103 0 (o_iload 0 1) := ok_iload_n (k := 0) (by decide +kernel) rfl
theorem k_103_1 : OkOp mt Ev 103 1 (o_if1 (fun x => decide (x < 0)) 14) := ok_if_lt (off := 13) (by decide +kernel) (by decide +kernel)
theorem k_103_4 : OkOp mt Ev 103 4 (o_iload 0 1) := ok_iload_n (k := 0) (by decide +kernel) rfl
theorem k_103_5 : OkOp mt Ev 103 5 (o_push (.int (20)) 2) := ok_bipush (n := 20) (by decide +kernel) (by decide +kernel)
theorem k_103_7 : OkOp mt Ev 103 7 (o_if2 (fun x y => decide (y < x)) 14) := ok_icmp_gt (off := 7) (by decide +kernel) (by decide +kernel)
theorem k_103_10 : OkOp mt Ev 103 10 (o_push (.int (1)) 1) := ok_iconst (n := 1) (by decide +kernel) (by decide +kernel)
theorem k_103_11 : OkOp mt Ev 103 11 (o_goto 15) := ok_goto (off := 4) (by decide +kernel) (by decide +kernel)
theorem k_103_14 : OkOp mt Ev 103 14 (o_push (.int (0)) 1) := ok_iconst (n := 0) (by decide +kernel) (by decide +kernel)
theorem k_103_15 : OkOp mt Ev 103 15 (o_ret 1) := ok_reti (ty := .boolean) (by decide +kernel) rfl (Or.inr (Or.inl ⟨rfl, rfl⟩))
theorem kt_103 : ∀ pc o, cd_X11_isWorth Ev pc = some o → OkOp mt Ev 103 pc o ∧ Gw o := (tN_ok (tN_ok (tN_ok (tL_ok ⟨k_103_0, gw_iload⟩) (tL_ok ⟨k_103_1, gw_if1⟩)) (tN_ok (tL_ok ⟨k_103_4, gw_iload⟩) (tL_ok ⟨k_103_5, gw_push⟩))) (tN_ok (tN_ok (tL_ok ⟨k_103_7, gw_if2⟩) (tL_ok ⟨k_103_10, gw_push⟩)) (tN_ok (tL_ok ⟨k_103_11, gw_goto⟩) (tN_ok (tL_ok ⟨k_103_14, gw_push⟩) (tL_ok ⟨k_103_15, gw_ret⟩)))))
theorem k_104_0 : OkOp mt Ev 104 0 (o_iload 0 1) := ok_iload_n (k := 0) (by decide +kernel) rfl
theorem k_104_1 : OkOp mt Ev 104 1 (o_if1 (fun x => decide (x < 0)) 14) := ok_if_lt (off := 13) (by decide +kernel) (by decide +kernel)
theorem k_104_4 : OkOp mt Ev 104 4 (o_iload 0 1) := ok_iload_n (k := 0) (by decide +kernel) rfl
theorem k_104_5 : OkOp mt Ev 104 5 (o_push (.int (60)) 2) := ok_bipush (n := 60) (by decide +kernel) (by decide +kernel)
theorem k_104_7 : OkOp mt Ev 104 7 (o_if2 (fun x y => decide (y < x)) 14) := ok_icmp_gt (off := 7) (by decide +kernel) (by decide +kernel)
theorem k_104_10 : OkOp mt Ev 104 10 (o_push (.int (1)) 1) := ok_iconst (n := 1) (by decide +kernel) (by decide +kernel)
theorem k_104_11 : OkOp mt Ev 104 11 (o_goto 15) := ok_goto (off := 4) (by decide +kernel) (by decide +kernel)
theorem k_104_14 : OkOp mt Ev 104 14 (o_push (.int (0)) 1) := ok_iconst (n := 0) (by decide +kernel) (by decide +kernel)
theorem k_104_15 : OkOp mt Ev 104 15 (o_ret 1) := ok_reti (ty := .boolean) (by decide +kernel) rfl (Or.inr (Or.inl ⟨rfl, rfl⟩))
theorem kt_104 : ∀ pc o, cd_X11_areDays Ev pc = some o → OkOp mt Ev 104 pc o ∧ Gw o := (tN_ok (tN_ok (tN_ok (tL_ok ⟨k_104_0, gw_iload⟩) (tL_ok ⟨k_104_1, gw_if1⟩)) (tN_ok (tL_ok ⟨k_104_4, gw_iload⟩) (tL_ok ⟨k_104_5, gw_push⟩))) (tN_ok (tN_ok (tL_ok ⟨k_104_7, gw_if2⟩) (tL_ok ⟨k_104_10, gw_push⟩)) (tN_ok (tL_ok ⟨k_104_11, gw_goto⟩) (tN_ok (tL_ok ⟨k_104_14, gw_push⟩) (tL_ok ⟨k_104_15, gw_ret⟩)))))
theorem k_105_0 : OkOp mt Ev 105 0 (o_iload 0 1) := ok_iload_n (k := 0) (by decide +kernel) rfl
theorem k_105_1 : OkOp mt Ev 105 1 (o_if1 (fun x => decide (x = 0)) 9) := ok_if_eq (off := 8) (by decide +kernel) (by decide +kernel)
theorem k_105_4 : OkOp mt Ev 105 4 (o_iload 0 1) := ok_iload_n (k := 0) (by decide +kernel) rfl
theorem k_105_5 : OkOp mt Ev 105 5 (o_push (.int (1)) 1) := ok_iconst (n := 1) (by decide +kernel) (by decide +kernel)
theorem k_105_6 : OkOp mt Ev 105 6 (o_if2 (fun x y => decide (¬ x = y)) 13) := ok_icmp_ne (off := 7) (by decide +kernel) (by decide +kernel)
theorem k_105_9 : OkOp mt Ev 105 9 (o_push (.int (1)) 1) := ok_iconst (n := 1) (by decide +kernel) (by decide +kernel)
theorem k_105_10 : OkOp mt Ev 105 10 (o_goto 14) := ok_goto (off := 4) (by decide +kernel) (by decide +kernel)
theorem k_105_13 : OkOp mt Ev 105 13 (o_push (.int (0)) 1) := ok_iconst (n := 0) (by decide +kernel) (by decide +kernel)
theorem k_105_14 : OkOp mt Ev 105 14 (o_ret 1) := ok_reti (ty := .boolean) (by decide +kernel) rfl (Or.inr (Or.inl ⟨rfl, rfl⟩))
theorem kt_105 : ∀ pc o, cd_X11_isPart Ev pc = some o → OkOp mt Ev 105 pc o ∧ Gw o := (tN_ok (tN_ok (tN_ok (tL_ok ⟨k_105_0, gw_iload⟩) (tL_ok ⟨k_105_1, gw_if1⟩)) (tN_ok (tL_ok ⟨k_105_4, gw_iload⟩) (tL_ok ⟨k_105_5, gw_push⟩))) (tN_ok (tN_ok (tL_ok ⟨k_105_6, gw_if2⟩) (tL_ok ⟨k_105_9, gw_push⟩)) (tN_ok (tL_ok ⟨k_105_10, gw_goto⟩) (tN_ok (tL_ok ⟨k_105_13, gw_push⟩) (tL_ok ⟨k_105_14, gw_ret⟩)))))
theorem k_106_0 : OkOp mt Ev 106 0 (o_iload 0 1) := ok_iload_n (k := 0) (by decide +kernel) rfl
theorem k_106_1 : OkOp mt Ev 106 1 (o_if1 (fun x => decide (x < 0)) 14) := ok_if_lt (off := 13) (by decide +kernel) (by decide +kernel)
theorem k_106_4 : OkOp mt Ev 106 4 (o_iload 0 1) := ok_iload_n (k := 0) (by decide +kernel) rfl
theorem k_106_5 : OkOp mt Ev 106 5 (o_push (.int (6)) 2) := ok_bipush (n := 6) (by decide +kernel) (by decide +kernel)
theorem k_106_7 : OkOp mt Ev 106 7 (o_if2 (fun x y => decide (y ≤ x)) 14) := ok_icmp_ge (off := 7) (by decide +kernel) (by decide +kernel)
theorem k_106_10 : OkOp mt Ev 106 10 (o_push (.int (1)) 1) := ok_iconst (n := 1) (by decide +kernel) (by decide +kernel)
theorem k_106_11 : OkOp mt Ev 106 11 (o_goto 15) := ok_goto (off := 4) (by decide +kernel) (by decide +kernel)
theorem k_106_14 : OkOp mt Ev 106 14 (o_push (.int (0)) 1) := ok_iconst (n := 0) (by decide +kernel) (by decide +kernel)
theorem k_106_15 : OkOp mt Ev 106 15 (o_ret 1) := ok_reti (ty := .boolean) (by decide +kernel) rfl (Or.inr (Or.inl ⟨rfl, rfl⟩))
theorem kt_106 : ∀ pc o, cd_X11_isTape Ev pc = some o → OkOp mt Ev 106 pc o ∧ Gw o := (tN_ok (tN_ok (tN_ok (tL_ok ⟨k_106_0, gw_iload⟩) (tL_ok ⟨k_106_1, gw_if1⟩)) (tN_ok (tL_ok ⟨k_106_4, gw_iload⟩) (tL_ok ⟨k_106_5, gw_push⟩))) (tN_ok (tN_ok (tL_ok ⟨k_106_7, gw_if2⟩) (tL_ok ⟨k_106_10, gw_push⟩)) (tN_ok (tL_ok ⟨k_106_11, gw_goto⟩) (tN_ok (tL_ok ⟨k_106_14, gw_push⟩) (tL_ok ⟨k_106_15, gw_ret⟩)))))
theorem k_107_0 : OkOp mt Ev 107 0 (o_iload 0 1) := ok_iload_n (k := 0) (by decide +kernel) rfl
theorem k_107_1 : OkOp mt Ev 107 1 (o_if1 (fun x => decide (0 ≤ x)) 9) := ok_if_ge (off := 8) (by decide +kernel) (by decide +kernel)
theorem k_107_4 : OkOp mt Ev 107 4 (o_push (.int (-5)) 2) := ok_bipush (n := -5) (by decide +kernel) (by decide +kernel)
theorem k_107_6 : OkOp mt Ev 107 6 (o_goto 10) := ok_goto (off := 4) (by decide +kernel) (by decide +kernel)
theorem k_107_9 : OkOp mt Ev 107 9 (o_iload 0 1) := ok_iload_n (k := 0) (by decide +kernel) rfl
theorem k_107_10 : OkOp mt Ev 107 10 (o_ret 0) := ok_reti (ty := .int) (by decide +kernel) rfl (Or.inl ⟨rfl, rfl⟩)
theorem kt_107 : ∀ pc o, cd_X11_orNotAny Ev pc = some o → OkOp mt Ev 107 pc o ∧ Gw o := (tN_ok (tN_ok (tL_ok ⟨k_107_0, gw_iload⟩) (tN_ok (tL_ok ⟨k_107_1, gw_if1⟩) (tL_ok ⟨k_107_4, gw_push⟩))) (tN_ok (tL_ok ⟨k_107_6, gw_goto⟩) (tN_ok (tL_ok ⟨k_107_9, gw_iload⟩) (tL_ok ⟨k_107_10, gw_ret⟩))))
theorem k_108_0 : OkOp mt Ev 108 0 (o_iload 0 1) := ok_iload_n (k := 0) (by decide +kernel) rfl
theorem k_108_1 : OkOp mt Ev 108 1 (o_istore 2 1) := ok_istore_n (k := 2) (by decide +kernel) rfl
theorem k_108_2 : OkOp mt Ev 108 2 (o_push (.int (0)) 1) := ok_iconst (n := 0) (by decide +kernel) (by decide +kernel)
theorem k_108_3 : OkOp mt Ev 108 3 (o_istore 3 1) := ok_istore_n (k := 3) (by decide +kernel) rfl
theorem k_108_4 : OkOp mt Ev 108 4 (o_iload 3 1) := ok_iload_n (k := 3) (by decide +kernel) rfl
theorem k_108_5 : OkOp mt Ev 108 5 (o_push (Ev 0) 3) := ok_stat (i := 50) (K := "BridgeSentences") (n := "ABOVE") (d := "[I") (by decide +kernel) (by simp [stL, RX11, RJ0]) wd_254
theorem k_108_8 : OkOp mt Ev 108 8 (o_alen) := ok_alen (by decide +kernel)
theorem k_108_9 : OkOp mt Ev 108 9 (o_if2 (fun x y => decide (y ≤ x)) 35) := ok_icmp_ge (off := 26) (by decide +kernel) (by decide +kernel)
theorem k_108_12 : OkOp mt Ev 108 12 (o_iload 2 1) := ok_iload_n (k := 2) (by decide +kernel) rfl
theorem k_108_13 : OkOp mt Ev 108 13 (o_if1 (fun x => decide (x < 0)) 35) := ok_if_lt (off := 22) (by decide +kernel) (by decide +kernel)
theorem k_108_16 : OkOp mt Ev 108 16 (o_iload 2 1) := ok_iload_n (k := 2) (by decide +kernel) rfl
theorem k_108_17 : OkOp mt Ev 108 17 (o_iload 1 1) := ok_iload_n (k := 1) (by decide +kernel) rfl
theorem k_108_18 : OkOp mt Ev 108 18 (o_if2 (fun x y => decide (¬ x = y)) 23) := ok_icmp_ne (off := 5) (by decide +kernel) (by decide +kernel)
theorem k_108_21 : OkOp mt Ev 108 21 (o_push (.int (1)) 1) := ok_iconst (n := 1) (by decide +kernel) (by decide +kernel)
theorem k_108_22 : OkOp mt Ev 108 22 (o_ret 1) := ok_reti (ty := .boolean) (by decide +kernel) rfl (Or.inr (Or.inl ⟨rfl, rfl⟩))
theorem k_108_23 : OkOp mt Ev 108 23 (o_push (Ev 0) 3) := ok_stat (i := 50) (K := "BridgeSentences") (n := "ABOVE") (d := "[I") (by decide +kernel) (by simp [stL, RX11, RJ0]) wd_254
theorem k_108_26 : OkOp mt Ev 108 26 (o_iload 2 1) := ok_iload_n (k := 2) (by decide +kernel) rfl
theorem k_108_27 : OkOp mt Ev 108 27 (o_iald 2) := ok_iald (by decide +kernel)
theorem k_108_28 : OkOp mt Ev 108 28 (o_istore 2 1) := ok_istore_n (k := 2) (by decide +kernel) rfl
theorem k_108_29 : OkOp mt Ev 108 29 (o_iinc 3 (1)) := ok_iinc (n := 1) (by decide +kernel) (by decide +kernel)
theorem k_108_32 : OkOp mt Ev 108 32 (o_goto 4) := ok_goto (off := -28) (by decide +kernel) (by decide +kernel)
theorem k_108_35 : OkOp mt Ev 108 35 (o_push (.int (0)) 1) := ok_iconst (n := 0) (by decide +kernel) (by decide +kernel)
theorem k_108_36 : OkOp mt Ev 108 36 (o_ret 1) := ok_reti (ty := .boolean) (by decide +kernel) rfl (Or.inr (Or.inl ⟨rfl, rfl⟩))
theorem kt_108 : ∀ pc o, cd_X11_isUnder Ev pc = some o → OkOp mt Ev 108 pc o ∧ Gw o := (tN_ok (tN_ok (tN_ok (tN_ok (tL_ok ⟨k_108_0, gw_iload⟩) (tL_ok ⟨k_108_1, gw_istore⟩)) (tN_ok (tL_ok ⟨k_108_2, gw_push⟩) (tN_ok (tL_ok ⟨k_108_3, gw_istore⟩) (tL_ok ⟨k_108_4, gw_iload⟩)))) (tN_ok (tN_ok (tL_ok ⟨k_108_5, gw_push⟩) (tN_ok (tL_ok ⟨k_108_8, gw_alen⟩) (tL_ok ⟨k_108_9, gw_if2⟩))) (tN_ok (tL_ok ⟨k_108_12, gw_iload⟩) (tN_ok (tL_ok ⟨k_108_13, gw_if1⟩) (tL_ok ⟨k_108_16, gw_iload⟩))))) (tN_ok (tN_ok (tN_ok (tL_ok ⟨k_108_17, gw_iload⟩) (tN_ok (tL_ok ⟨k_108_18, gw_if2⟩) (tL_ok ⟨k_108_21, gw_push⟩))) (tN_ok (tL_ok ⟨k_108_22, gw_ret⟩) (tN_ok (tL_ok ⟨k_108_23, gw_push⟩) (tL_ok ⟨k_108_26, gw_iload⟩)))) (tN_ok (tN_ok (tL_ok ⟨k_108_27, gw_iald⟩) (tN_ok (tL_ok ⟨k_108_28, gw_istore⟩) (tL_ok ⟨k_108_29, gw_iinc⟩))) (tN_ok (tL_ok ⟨k_108_32, gw_goto⟩) (tN_ok (tL_ok ⟨k_108_35, gw_push⟩) (tL_ok ⟨k_108_36, gw_ret⟩))))))
theorem k_109_0 : OkOp mt Ev 109 0 (o_iload 0 1) := ok_iload_n (k := 0) (by decide +kernel) rfl
theorem k_109_1 : OkOp mt Ev 109 1 (o_sw 62 [(0, 36), (1, 41), (2, 46), (3, 62), (4, 50)]) := ok_tsw (dflt := 61) (lo := 0) (hi := 4) (offs := #[35, 40, 45, 61, 49]) (len := 35) (by decide +kernel) (by decide +kernel) (by decide +kernel) (by decide +kernel)
theorem k_109_36 : OkOp mt Ev 109 36 (o_lload 1 1) := ok_lload_n (k := 1) (by decide +kernel) rfl
theorem k_109_37 : OkOp mt Ev 109 37 (o_l2i) := ok_l2i (by decide +kernel)
theorem k_109_38 : OkOp mt Ev 109 38 (o_iu (fun x => x.toInt8.toInt32)) := ok_i2b (by decide +kernel)
theorem k_109_39 : OkOp mt Ev 109 39 (o_i2l) := ok_i2l (by decide +kernel)
theorem k_109_40 : OkOp mt Ev 109 40 (o_ret 2) := ok_retl (by decide +kernel) rfl
theorem k_109_41 : OkOp mt Ev 109 41 (o_lload 1 1) := ok_lload_n (k := 1) (by decide +kernel) rfl
theorem k_109_42 : OkOp mt Ev 109 42 (o_l2i) := ok_l2i (by decide +kernel)
theorem k_109_43 : OkOp mt Ev 109 43 (o_iu (fun x => x.toInt16.toInt32)) := ok_i2s (by decide +kernel)
theorem k_109_44 : OkOp mt Ev 109 44 (o_i2l) := ok_i2l (by decide +kernel)
theorem k_109_45 : OkOp mt Ev 109 45 (o_ret 2) := ok_retl (by decide +kernel) rfl
theorem k_109_46 : OkOp mt Ev 109 46 (o_lload 1 1) := ok_lload_n (k := 1) (by decide +kernel) rfl
theorem k_109_47 : OkOp mt Ev 109 47 (o_l2i) := ok_l2i (by decide +kernel)
theorem k_109_48 : OkOp mt Ev 109 48 (o_i2l) := ok_i2l (by decide +kernel)
theorem k_109_49 : OkOp mt Ev 109 49 (o_ret 2) := ok_retl (by decide +kernel) rfl
theorem k_109_50 : OkOp mt Ev 109 50 (o_lload 1 1) := ok_lload_n (k := 1) (by decide +kernel) rfl
theorem k_109_51 : OkOp mt Ev 109 51 (o_push (.long (0)) 1) := ok_lconst (n := 0) (by decide +kernel) (by decide +kernel)
theorem k_109_52 : OkOp mt Ev 109 52 (o_lcmp) := ok_lcmp (by decide +kernel)
theorem k_109_53 : OkOp mt Ev 109 53 (o_if1 (fun x => decide (x = 0)) 60) := ok_if_eq (off := 7) (by decide +kernel) (by decide +kernel)
theorem k_109_56 : OkOp mt Ev 109 56 (o_push (.long (1)) 1) := ok_lconst (n := 1) (by decide +kernel) (by decide +kernel)
theorem k_109_57 : OkOp mt Ev 109 57 (o_goto 61) := ok_goto (off := 4) (by decide +kernel) (by decide +kernel)
theorem k_109_60 : OkOp mt Ev 109 60 (o_push (.long (0)) 1) := ok_lconst (n := 0) (by decide +kernel) (by decide +kernel)
theorem k_109_61 : OkOp mt Ev 109 61 (o_ret 2) := ok_retl (by decide +kernel) rfl
theorem k_109_62 : OkOp mt Ev 109 62 (o_lload 1 1) := ok_lload_n (k := 1) (by decide +kernel) rfl
theorem k_109_63 : OkOp mt Ev 109 63 (o_ret 2) := ok_retl (by decide +kernel) rfl
theorem kt_109 : ∀ pc o, cd_X11_asItem Ev pc = some o → OkOp mt Ev 109 pc o ∧ Gw o := (tN_ok (tN_ok (tN_ok (tN_ok (tL_ok ⟨k_109_0, gw_iload⟩) (tN_ok (tL_ok ⟨k_109_1, gw_sw⟩) (tL_ok ⟨k_109_36, gw_lload⟩))) (tN_ok (tL_ok ⟨k_109_37, gw_l2i⟩) (tN_ok (tL_ok ⟨k_109_38, gw_iu⟩) (tL_ok ⟨k_109_39, gw_i2l⟩)))) (tN_ok (tN_ok (tL_ok ⟨k_109_40, gw_ret⟩) (tN_ok (tL_ok ⟨k_109_41, gw_lload⟩) (tL_ok ⟨k_109_42, gw_l2i⟩))) (tN_ok (tN_ok (tL_ok ⟨k_109_43, gw_iu⟩) (tL_ok ⟨k_109_44, gw_i2l⟩)) (tN_ok (tL_ok ⟨k_109_45, gw_ret⟩) (tL_ok ⟨k_109_46, gw_lload⟩))))) (tN_ok (tN_ok (tN_ok (tL_ok ⟨k_109_47, gw_l2i⟩) (tN_ok (tL_ok ⟨k_109_48, gw_i2l⟩) (tL_ok ⟨k_109_49, gw_ret⟩))) (tN_ok (tL_ok ⟨k_109_50, gw_lload⟩) (tN_ok (tL_ok ⟨k_109_51, gw_push⟩) (tL_ok ⟨k_109_52, gw_lcmp⟩)))) (tN_ok (tN_ok (tL_ok ⟨k_109_53, gw_if1⟩) (tN_ok (tL_ok ⟨k_109_56, gw_push⟩) (tL_ok ⟨k_109_57, gw_goto⟩))) (tN_ok (tN_ok (tL_ok ⟨k_109_60, gw_push⟩) (tL_ok ⟨k_109_61, gw_ret⟩)) (tN_ok (tL_ok ⟨k_109_62, gw_lload⟩) (tL_ok ⟨k_109_63, gw_ret⟩))))))
theorem k_110_0 : OkOp mt Ev 110 0 (o_iload 1 1) := ok_iload_n (k := 1) (by decide +kernel) rfl
theorem k_110_1 : OkOp mt Ev 110 1 (o_push (.int (1)) 1) := ok_iconst (n := 1) (by decide +kernel) (by decide +kernel)
theorem k_110_2 : OkOp mt Ev 110 2 (o_if2 (fun x y => decide (y ≤ x)) 9) := ok_icmp_ge (off := 7) (by decide +kernel) (by decide +kernel)
theorem k_110_5 : OkOp mt Ev 110 5 (o_push (.long (-9223372036854775808)) 3) := ok_ldc2 (i := 208) (by decide +kernel) wd_806
theorem k_110_8 : OkOp mt Ev 110 8 (o_ret 2) := ok_retl (by decide +kernel) rfl
theorem k_110_9 : OkOp mt Ev 110 9 (o_push (.int (1)) 1) := ok_iconst (n := 1) (by decide +kernel) (by decide +kernel)
theorem k_110_10 : OkOp mt Ev 110 10 (o_istore 3 1) := ok_istore_n (k := 3) (by decide +kernel) rfl
theorem k_110_11 : OkOp mt Ev 110 11 (o_push (.int (2)) 1) := ok_iconst (n := 2) (by decide +kernel) (by decide +kernel)
theorem k_110_12 : OkOp mt Ev 110 12 (o_istore 4 2) := ok_istore (by decide +kernel)
theorem k_110_14 : OkOp mt Ev 110 14 (o_iload 4 2) := ok_iload (by decide +kernel)
theorem k_110_16 : OkOp mt Ev 110 16 (o_iload 1 1) := ok_iload_n (k := 1) (by decide +kernel) rfl
theorem k_110_17 : OkOp mt Ev 110 17 (o_if2 (fun x y => decide (y < x)) 43) := ok_icmp_gt (off := 26) (by decide +kernel) (by decide +kernel)
theorem k_110_20 : OkOp mt Ev 110 20 (o_iload 0 1) := ok_iload_n (k := 0) (by decide +kernel) rfl
theorem k_110_21 : OkOp mt Ev 110 21 (o_iload 4 2) := ok_iload (by decide +kernel)
theorem k_110_23 : OkOp mt Ev 110 23 (o_ibz (fun x y => x - x / y * y)) := ok_irem (by decide +kernel)
theorem k_110_24 : OkOp mt Ev 110 24 (o_if1 (fun x => decide (¬ x = 0)) 37) := ok_if_ne (off := 13) (by decide +kernel) (by decide +kernel)
theorem k_110_27 : OkOp mt Ev 110 27 (o_iload 1 1) := ok_iload_n (k := 1) (by decide +kernel) rfl
theorem k_110_28 : OkOp mt Ev 110 28 (o_iload 4 2) := ok_iload (by decide +kernel)
theorem k_110_30 : OkOp mt Ev 110 30 (o_ibz (fun x y => x - x / y * y)) := ok_irem (by decide +kernel)
theorem k_110_31 : OkOp mt Ev 110 31 (o_if1 (fun x => decide (¬ x = 0)) 37) := ok_if_ne (off := 6) (by decide +kernel) (by decide +kernel)
theorem k_110_34 : OkOp mt Ev 110 34 (o_iload 4 2) := ok_iload (by decide +kernel)
theorem k_110_36 : OkOp mt Ev 110 36 (o_istore 3 1) := ok_istore_n (k := 3) (by decide +kernel) rfl
theorem k_110_37 : OkOp mt Ev 110 37 (o_iinc 4 (1)) := ok_iinc (n := 1) (by decide +kernel) (by decide +kernel)
theorem k_110_40 : OkOp mt Ev 110 40 (o_goto 14) := ok_goto (off := -26) (by decide +kernel) (by decide +kernel)
theorem k_110_43 : OkOp mt Ev 110 43 (o_iload 2 1) := ok_iload_n (k := 2) (by decide +kernel) rfl
theorem k_110_44 : OkOp mt Ev 110 44 (o_if1 (fun x => decide (¬ x = 0)) 54) := ok_if_ne (off := 10) (by decide +kernel) (by decide +kernel)
theorem k_110_47 : OkOp mt Ev 110 47 (o_iload 0 1) := ok_iload_n (k := 0) (by decide +kernel) rfl
theorem k_110_48 : OkOp mt Ev 110 48 (o_iload 3 1) := ok_iload_n (k := 3) (by decide +kernel) rfl
theorem k_110_49 : OkOp mt Ev 110 49 (o_ibz (fun x y => x / y)) := ok_idiv (by decide +kernel)
theorem k_110_50 : OkOp mt Ev 110 50 (o_i2l) := ok_i2l (by decide +kernel)
theorem k_110_51 : OkOp mt Ev 110 51 (o_goto 58) := ok_goto (off := 7) (by decide +kernel) (by decide +kernel)
theorem k_110_54 : OkOp mt Ev 110 54 (o_iload 1 1) := ok_iload_n (k := 1) (by decide +kernel) rfl
theorem k_110_55 : OkOp mt Ev 110 55 (o_iload 3 1) := ok_iload_n (k := 3) (by decide +kernel) rfl
theorem k_110_56 : OkOp mt Ev 110 56 (o_ibz (fun x y => x / y)) := ok_idiv (by decide +kernel)
theorem k_110_57 : OkOp mt Ev 110 57 (o_i2l) := ok_i2l (by decide +kernel)
theorem k_110_58 : OkOp mt Ev 110 58 (o_ret 2) := ok_retl (by decide +kernel) rfl
theorem kt_110 : ∀ pc o, cd_X11_inLowestTerms Ev pc = some o → OkOp mt Ev 110 pc o ∧ Gw o := (tN_ok (tN_ok (tN_ok (tN_ok (tN_ok (tL_ok ⟨k_110_0, gw_iload⟩) (tL_ok ⟨k_110_1, gw_push⟩)) (tN_ok (tL_ok ⟨k_110_2, gw_if2⟩) (tL_ok ⟨k_110_5, gw_push⟩))) (tN_ok (tN_ok (tL_ok ⟨k_110_8, gw_ret⟩) (tL_ok ⟨k_110_9, gw_push⟩)) (tN_ok (tL_ok ⟨k_110_10, gw_istore⟩) (tN_ok (tL_ok ⟨k_110_11, gw_push⟩) (tL_ok ⟨k_110_12, gw_istore⟩))))) (tN_ok (tN_ok (tN_ok (tL_ok ⟨k_110_14, gw_iload⟩) (tL_ok ⟨k_110_16, gw_iload⟩)) (tN_ok (tL_ok ⟨k_110_17, gw_if2⟩) (tL_ok ⟨k_110_20, gw_iload⟩))) (tN_ok (tN_ok (tL_ok ⟨k_110_21, gw_iload⟩) (tL_ok ⟨k_110_23, gw_ibz⟩)) (tN_ok (tL_ok ⟨k_110_24, gw_if1⟩) (tN_ok (tL_ok ⟨k_110_27, gw_iload⟩) (tL_ok ⟨k_110_28, gw_iload⟩)))))) (tN_ok (tN_ok (tN_ok (tN_ok (tL_ok ⟨k_110_30, gw_ibz⟩) (tL_ok ⟨k_110_31, gw_if1⟩)) (tN_ok (tL_ok ⟨k_110_34, gw_iload⟩) (tL_ok ⟨k_110_36, gw_istore⟩))) (tN_ok (tN_ok (tL_ok ⟨k_110_37, gw_iinc⟩) (tL_ok ⟨k_110_40, gw_goto⟩)) (tN_ok (tL_ok ⟨k_110_43, gw_iload⟩) (tN_ok (tL_ok ⟨k_110_44, gw_if1⟩) (tL_ok ⟨k_110_47, gw_iload⟩))))) (tN_ok (tN_ok (tN_ok (tL_ok ⟨k_110_48, gw_iload⟩) (tL_ok ⟨k_110_49, gw_ibz⟩)) (tN_ok (tL_ok ⟨k_110_50, gw_i2l⟩) (tL_ok ⟨k_110_51, gw_goto⟩))) (tN_ok (tN_ok (tL_ok ⟨k_110_54, gw_iload⟩) (tL_ok ⟨k_110_55, gw_iload⟩)) (tN_ok (tL_ok ⟨k_110_56, gw_ibz⟩) (tN_ok (tL_ok ⟨k_110_57, gw_i2l⟩) (tL_ok ⟨k_110_58, gw_ret⟩)))))))
theorem k_111_0 : OkOp mt Ev 111 0 (o_iload 1 1) := ok_iload_n (k := 1) (by decide +kernel) rfl
theorem k_111_1 : OkOp mt Ev 111 1 (o_if1 (fun x => decide (x < 0)) 9) := ok_if_lt (off := 8) (by decide +kernel) (by decide +kernel)
theorem k_111_4 : OkOp mt Ev 111 4 (o_iload 1 1) := ok_iload_n (k := 1) (by decide +kernel) rfl
theorem k_111_5 : OkOp mt Ev 111 5 (o_iload 0 1) := ok_iload_n (k := 0) (by decide +kernel) rfl
theorem k_111_6 : OkOp mt Ev 111 6 (o_if2 (fun x y => decide (x ≤ y)) 11) := ok_icmp_le (off := 5) (by decide +kernel) (by decide +kernel)
theorem k_111_9 : OkOp mt Ev 111 9 (o_push (.int (0)) 1) := ok_iconst (n := 0) (by decide +kernel) (by decide +kernel)
theorem k_111_10 : OkOp mt Ev 111 10 (o_ret 0) := ok_reti (ty := .int) (by decide +kernel) rfl (Or.inl ⟨rfl, rfl⟩)
theorem k_111_11 : OkOp mt Ev 111 11 (o_push (.int (1)) 1) := ok_iconst (n := 1) (by decide +kernel) (by decide +kernel)
theorem k_111_12 : OkOp mt Ev 111 12 (o_istore 2 1) := ok_istore_n (k := 2) (by decide +kernel) rfl
theorem k_111_13 : OkOp mt Ev 111 13 (o_push (.int (0)) 1) := ok_iconst (n := 0) (by decide +kernel) (by decide +kernel)
theorem k_111_14 : OkOp mt Ev 111 14 (o_istore 3 1) := ok_istore_n (k := 3) (by decide +kernel) rfl
theorem k_111_15 : OkOp mt Ev 111 15 (o_iload 3 1) := ok_iload_n (k := 3) (by decide +kernel) rfl
theorem k_111_16 : OkOp mt Ev 111 16 (o_iload 1 1) := ok_iload_n (k := 1) (by decide +kernel) rfl
theorem k_111_17 : OkOp mt Ev 111 17 (o_if2 (fun x y => decide (y ≤ x)) 36) := ok_icmp_ge (off := 19) (by decide +kernel) (by decide +kernel)
theorem k_111_20 : OkOp mt Ev 111 20 (o_iload 2 1) := ok_iload_n (k := 2) (by decide +kernel) rfl
theorem k_111_21 : OkOp mt Ev 111 21 (o_iload 0 1) := ok_iload_n (k := 0) (by decide +kernel) rfl
theorem k_111_22 : OkOp mt Ev 111 22 (o_iload 3 1) := ok_iload_n (k := 3) (by decide +kernel) rfl
theorem k_111_23 : OkOp mt Ev 111 23 (o_ib (fun x y => x - y)) := ok_isub (by decide +kernel)
theorem k_111_24 : OkOp mt Ev 111 24 (o_ib (fun x y => x * y)) := ok_imul (by decide +kernel)
theorem k_111_25 : OkOp mt Ev 111 25 (o_iload 3 1) := ok_iload_n (k := 3) (by decide +kernel) rfl
theorem k_111_26 : OkOp mt Ev 111 26 (o_push (.int (1)) 1) := ok_iconst (n := 1) (by decide +kernel) (by decide +kernel)
theorem k_111_27 : OkOp mt Ev 111 27 (o_ib (fun x y => x + y)) := ok_iadd (by decide +kernel)
theorem k_111_28 : OkOp mt Ev 111 28 (o_ibz (fun x y => x / y)) := ok_idiv (by decide +kernel)
theorem k_111_29 : OkOp mt Ev 111 29 (o_istore 2 1) := ok_istore_n (k := 2) (by decide +kernel) rfl
theorem k_111_30 : OkOp mt Ev 111 30 (o_iinc 3 (1)) := ok_iinc (n := 1) (by decide +kernel) (by decide +kernel)
theorem k_111_33 : OkOp mt Ev 111 33 (o_goto 15) := ok_goto (off := -18) (by decide +kernel) (by decide +kernel)
theorem k_111_36 : OkOp mt Ev 111 36 (o_iload 2 1) := ok_iload_n (k := 2) (by decide +kernel) rfl
theorem k_111_37 : OkOp mt Ev 111 37 (o_ret 0) := ok_reti (ty := .int) (by decide +kernel) rfl (Or.inl ⟨rfl, rfl⟩)
theorem kt_111 : ∀ pc o, cd_X11_choices Ev pc = some o → OkOp mt Ev 111 pc o ∧ Gw o := (tN_ok (tN_ok (tN_ok (tN_ok (tL_ok ⟨k_111_0, gw_iload⟩) (tN_ok (tL_ok ⟨k_111_1, gw_if1⟩) (tL_ok ⟨k_111_4, gw_iload⟩))) (tN_ok (tN_ok (tL_ok ⟨k_111_5, gw_iload⟩) (tL_ok ⟨k_111_6, gw_if2⟩)) (tN_ok (tL_ok ⟨k_111_9, gw_push⟩) (tL_ok ⟨k_111_10, gw_ret⟩)))) (tN_ok (tN_ok (tL_ok ⟨k_111_11, gw_push⟩) (tN_ok (tL_ok ⟨k_111_12, gw_istore⟩) (tL_ok ⟨k_111_13, gw_push⟩))) (tN_ok (tN_ok (tL_ok ⟨k_111_14, gw_istore⟩) (tL_ok ⟨k_111_15, gw_iload⟩)) (tN_ok (tL_ok ⟨k_111_16, gw_iload⟩) (tL_ok ⟨k_111_17, gw_if2⟩))))) (tN_ok (tN_ok (tN_ok (tL_ok ⟨k_111_20, gw_iload⟩) (tN_ok (tL_ok ⟨k_111_21, gw_iload⟩) (tL_ok ⟨k_111_22, gw_iload⟩))) (tN_ok (tN_ok (tL_ok ⟨k_111_23, gw_ib⟩) (tL_ok ⟨k_111_24, gw_ib⟩)) (tN_ok (tL_ok ⟨k_111_25, gw_iload⟩) (tL_ok ⟨k_111_26, gw_push⟩)))) (tN_ok (tN_ok (tL_ok ⟨k_111_27, gw_ib⟩) (tN_ok (tL_ok ⟨k_111_28, gw_ibz⟩) (tL_ok ⟨k_111_29, gw_istore⟩))) (tN_ok (tN_ok (tL_ok ⟨k_111_30, gw_iinc⟩) (tL_ok ⟨k_111_33, gw_goto⟩)) (tN_ok (tL_ok ⟨k_111_36, gw_iload⟩) (tL_ok ⟨k_111_37, gw_ret⟩))))))
theorem k_112_0 : OkOp mt Ev 112 0 (o_iload 0 1) := ok_iload_n (k := 0) (by decide +kernel) rfl
theorem k_112_1 : OkOp mt Ev 112 1 (o_sw 101 [(1, 40), (2, 50), (3, 60), (4, 70), (5, 80), (6, 90)]) := ok_tsw (dflt := 100) (lo := 1) (hi := 6) (offs := #[39, 49, 59, 69, 79, 89]) (len := 39) (by decide +kernel) (by decide +kernel) (by decide +kernel) (by decide +kernel)
theorem k_112_40 : OkOp mt Ev 112 40 (o_new 6 [.int 0, .int 0, .int 0, .int 0, .int 0, .int 0]) := ok_new (i := 273) (K := RX6) (T := TX6) (N := 6) (ty := tyX6) (by decide +kernel) rfl ci_6 tyX6_ok df_6 rfl wd_262 wd_263 wd_64
theorem k_112_43 : OkOp mt Ev 112 43 (o_dup) := ok_dup (by decide +kernel)
theorem k_112_44 : OkOp mt Ev 112 44 (o_push (.int (1)) 1) := ok_iconst (n := 1) (by decide +kernel) (by decide +kernel)
theorem k_112_45 : OkOp mt Ev 112 45 (o_iload 1 1) := ok_iload_n (k := 1) (by decide +kernel) rfl
theorem k_112_46 : OkOp mt Ev 112 46 (o_ci 34 2) := ok_ci (i := 275) (by decide +kernel) wd_264 wd_265 wd_64 wd_266 nk_8 rfl rfl
theorem k_112_49 : OkOp mt Ev 112 49 (o_ret 3) := ok_reta (by decide +kernel) rfl (Or.inl ⟨_, rfl⟩)
theorem k_112_50 : OkOp mt Ev 112 50 (o_new 2 [.int 0, .int 0, .int 0, .int 0, .int 0, .int 0]) := ok_new (i := 277) (K := RX2) (T := TX2) (N := 6) (ty := tyX2) (by decide +kernel) rfl ci_2 tyX2_ok df_2 rfl wd_312 wd_313 wd_65
theorem k_112_53 : OkOp mt Ev 112 53 (o_dup) := ok_dup (by decide +kernel)
theorem k_112_54 : OkOp mt Ev 112 54 (o_push (.int (2)) 1) := ok_iconst (n := 2) (by decide +kernel) (by decide +kernel)
theorem k_112_55 : OkOp mt Ev 112 55 (o_iload 1 1) := ok_iload_n (k := 1) (by decide +kernel) rfl
theorem k_112_56 : OkOp mt Ev 112 56 (o_ci 18 2) := ok_ci (i := 279) (by decide +kernel) wd_314 wd_315 wd_65 wd_316 nk_5 rfl rfl
theorem k_112_59 : OkOp mt Ev 112 59 (o_ret 3) := ok_reta (by decide +kernel) rfl (Or.inl ⟨_, rfl⟩)
theorem k_112_60 : OkOp mt Ev 112 60 (o_new 3 [.int 0, .int 0, .int 0, .int 0, .int 0, .int 0]) := ok_new (i := 280) (K := RX3) (T := TX3) (N := 6) (ty := tyX3) (by decide +kernel) rfl ci_3 tyX3_ok df_3 rfl wd_325 wd_326 wd_66
theorem k_112_63 : OkOp mt Ev 112 63 (o_dup) := ok_dup (by decide +kernel)
theorem k_112_64 : OkOp mt Ev 112 64 (o_push (.int (3)) 1) := ok_iconst (n := 3) (by decide +kernel) (by decide +kernel)
theorem k_112_65 : OkOp mt Ev 112 65 (o_iload 1 1) := ok_iload_n (k := 1) (by decide +kernel) rfl
theorem k_112_66 : OkOp mt Ev 112 66 (o_ci 21 2) := ok_ci (i := 282) (by decide +kernel) wd_327 wd_328 wd_66 wd_329 nk_10 rfl rfl
theorem k_112_69 : OkOp mt Ev 112 69 (o_ret 3) := ok_reta (by decide +kernel) rfl (Or.inl ⟨_, rfl⟩)
theorem k_112_70 : OkOp mt Ev 112 70 (o_new 5 [.int 0, .int 0, .int 0, .int 0, .int 0, .int 0]) := ok_new (i := 283) (K := RX5) (T := TX5) (N := 6) (ty := tyX5) (by decide +kernel) rfl ci_5 tyX5_ok df_5 rfl wd_338 wd_339 wd_67
theorem k_112_73 : OkOp mt Ev 112 73 (o_dup) := ok_dup (by decide +kernel)
theorem k_112_74 : OkOp mt Ev 112 74 (o_push (.int (4)) 1) := ok_iconst (n := 4) (by decide +kernel) (by decide +kernel)
theorem k_112_75 : OkOp mt Ev 112 75 (o_iload 1 1) := ok_iload_n (k := 1) (by decide +kernel) rfl
theorem k_112_76 : OkOp mt Ev 112 76 (o_ci 30 2) := ok_ci (i := 285) (by decide +kernel) wd_340 wd_341 wd_67 wd_342 nk_28 rfl rfl
theorem k_112_79 : OkOp mt Ev 112 79 (o_ret 3) := ok_reta (by decide +kernel) rfl (Or.inl ⟨_, rfl⟩)
theorem k_112_80 : OkOp mt Ev 112 80 (o_new 1 [.int 0, .int 0, .int 0, .int 0, .int 0, .int 0]) := ok_new (i := 286) (K := RX1) (T := TX1) (N := 6) (ty := tyX1) (by decide +kernel) rfl ci_1 tyX1_ok df_1 rfl wd_351 wd_352 wd_68
theorem k_112_83 : OkOp mt Ev 112 83 (o_dup) := ok_dup (by decide +kernel)
theorem k_112_84 : OkOp mt Ev 112 84 (o_push (.int (5)) 1) := ok_iconst (n := 5) (by decide +kernel) (by decide +kernel)
theorem k_112_85 : OkOp mt Ev 112 85 (o_iload 1 1) := ok_iload_n (k := 1) (by decide +kernel) rfl
theorem k_112_86 : OkOp mt Ev 112 86 (o_ci 15 2) := ok_ci (i := 288) (by decide +kernel) wd_353 wd_354 wd_68 wd_355 nk_29 rfl rfl
theorem k_112_89 : OkOp mt Ev 112 89 (o_ret 3) := ok_reta (by decide +kernel) rfl (Or.inl ⟨_, rfl⟩)
theorem k_112_90 : OkOp mt Ev 112 90 (o_new 8 [.int 0, .int 0, .int 0, .int 0, .int 0, .int 0, .null]) := ok_new (i := 130) (K := RX8) (T := TX8) (N := 7) (ty := tyX8) (by decide +kernel) rfl ci_8 tyX8_ok df_8 rfl wd_364 wd_365 wd_69
theorem k_112_93 : OkOp mt Ev 112 93 (o_dup) := ok_dup (by decide +kernel)
theorem k_112_94 : OkOp mt Ev 112 94 (o_push (.int (6)) 2) := ok_bipush (n := 6) (by decide +kernel) (by decide +kernel)
theorem k_112_96 : OkOp mt Ev 112 96 (o_iload 1 1) := ok_iload_n (k := 1) (by decide +kernel) rfl
theorem k_112_97 : OkOp mt Ev 112 97 (o_ci 41 2) := ok_ci (i := 289) (by decide +kernel) wd_366 wd_367 wd_69 wd_368 nk_30 rfl rfl
theorem k_112_100 : OkOp mt Ev 112 100 (o_ret 3) := ok_reta (by decide +kernel) rfl (Or.inl ⟨_, rfl⟩)
theorem k_112_101 : OkOp mt Ev 112 101 (o_new 4 [.int 0, .int 0, .int 0, .int 0, .int 0, .int 0]) := ok_new (i := 66) (K := RX4) (T := TX4) (N := 6) (ty := tyX4) (by decide +kernel) rfl ci_4 tyX4_ok df_4 rfl wd_381 wd_382 wd_63
theorem k_112_104 : OkOp mt Ev 112 104 (o_dup) := ok_dup (by decide +kernel)
theorem k_112_105 : OkOp mt Ev 112 105 (o_push (.int (0)) 1) := ok_iconst (n := 0) (by decide +kernel) (by decide +kernel)
theorem k_112_106 : OkOp mt Ev 112 106 (o_iload 1 1) := ok_iload_n (k := 1) (by decide +kernel) rfl
theorem k_112_107 : OkOp mt Ev 112 107 (o_ci 24 2) := ok_ci (i := 290) (by decide +kernel) wd_383 wd_268 wd_63 wd_269 nk_7 rfl rfl
theorem k_112_110 : OkOp mt Ev 112 110 (o_ret 3) := ok_reta (by decide +kernel) rfl (Or.inl ⟨_, rfl⟩)
theorem kt_112 : ∀ pc o, cd_X11_made Ev pc = some o → OkOp mt Ev 112 pc o ∧ Gw o := (tN_ok (tN_ok (tN_ok (tN_ok (tN_ok (tL_ok ⟨k_112_0, gw_iload⟩) (tL_ok ⟨k_112_1, gw_sw⟩)) (tN_ok (tL_ok ⟨k_112_40, gw_new⟩) (tN_ok (tL_ok ⟨k_112_43, gw_dup⟩) (tL_ok ⟨k_112_44, gw_push⟩)))) (tN_ok (tN_ok (tL_ok ⟨k_112_45, gw_iload⟩) (tN_ok (tL_ok ⟨k_112_46, gw_ci⟩) (tL_ok ⟨k_112_49, gw_ret⟩))) (tN_ok (tL_ok ⟨k_112_50, gw_new⟩) (tN_ok (tL_ok ⟨k_112_53, gw_dup⟩) (tL_ok ⟨k_112_54, gw_push⟩))))) (tN_ok (tN_ok (tN_ok (tL_ok ⟨k_112_55, gw_iload⟩) (tL_ok ⟨k_112_56, gw_ci⟩)) (tN_ok (tL_ok ⟨k_112_59, gw_ret⟩) (tN_ok (tL_ok ⟨k_112_60, gw_new⟩) (tL_ok ⟨k_112_63, gw_dup⟩)))) (tN_ok (tN_ok (tL_ok ⟨k_112_64, gw_push⟩) (tN_ok (tL_ok ⟨k_112_65, gw_iload⟩) (tL_ok ⟨k_112_66, gw_ci⟩))) (tN_ok (tL_ok ⟨k_112_69, gw_ret⟩) (tN_ok (tL_ok ⟨k_112_70, gw_new⟩) (tL_ok ⟨k_112_73, gw_dup⟩)))))) (tN_ok (tN_ok (tN_ok (tN_ok (tL_ok ⟨k_112_74, gw_push⟩) (tL_ok ⟨k_112_75, gw_iload⟩)) (tN_ok (tL_ok ⟨k_112_76, gw_ci⟩) (tN_ok (tL_ok ⟨k_112_79, gw_ret⟩) (tL_ok ⟨k_112_80, gw_new⟩)))) (tN_ok (tN_ok (tL_ok ⟨k_112_83, gw_dup⟩) (tN_ok (tL_ok ⟨k_112_84, gw_push⟩) (tL_ok ⟨k_112_85, gw_iload⟩))) (tN_ok (tL_ok ⟨k_112_86, gw_ci⟩) (tN_ok (tL_ok ⟨k_112_89, gw_ret⟩) (tL_ok ⟨k_112_90, gw_new⟩))))) (tN_ok (tN_ok (tN_ok (tL_ok ⟨k_112_93, gw_dup⟩) (tL_ok ⟨k_112_94, gw_push⟩)) (tN_ok (tL_ok ⟨k_112_96, gw_iload⟩) (tN_ok (tL_ok ⟨k_112_97, gw_ci⟩) (tL_ok ⟨k_112_100, gw_ret⟩)))) (tN_ok (tN_ok (tL_ok ⟨k_112_101, gw_new⟩) (tN_ok (tL_ok ⟨k_112_104, gw_dup⟩) (tL_ok ⟨k_112_105, gw_push⟩))) (tN_ok (tL_ok ⟨k_112_106, gw_iload⟩) (tN_ok (tL_ok ⟨k_112_107, gw_ci⟩) (tL_ok ⟨k_112_110, gw_ret⟩)))))))
theorem k_113_0 : OkOp mt Ev 113 0 (o_aload 0 1) := ok_aload_n (k := 0) (by decide +kernel) rfl
theorem k_113_1 : OkOp mt Ev 113 1 (o_getf 0 [11]) := ok_getf (i := 12) (rf := "BridgeSentences") (nm := "now") (ds := "LBridgeSentences$World;") (by decide +kernel) fc_37 wd_218
theorem k_113_4 : OkOp mt Ev 113 4 (o_aload 1 1) := ok_aload_n (k := 1) (by decide +kernel) rfl
theorem k_113_5 : OkOp mt Ev 113 5 (o_aload 1 1) := ok_aload_n (k := 1) (by decide +kernel) rfl
theorem k_113_6 : OkOp mt Ev 113 6 (o_getf 3 [1, 2, 3, 4, 5, 6, 8]) := ok_getf (i := 70) (rf := "BridgeSentences$One") (nm := "has") (ds := "I") (by decide +kernel) fc_14 wd_287
theorem k_113_9 : OkOp mt Ev 113 9 (o_cv [(10, 58)] 2) := ok_cv (i := 94) (by decide +kernel) vc_113
theorem k_113_12 : OkOp mt Ev 113 12 (o_istore 2 1) := ok_istore_n (k := 2) (by decide +kernel) rfl
theorem k_113_13 : OkOp mt Ev 113 13 (o_iload 2 1) := ok_iload_n (k := 2) (by decide +kernel) rfl
theorem k_113_14 : OkOp mt Ev 113 14 (o_if1 (fun x => decide (0 ≤ x)) 20) := ok_if_ge (off := 6) (by decide +kernel) (by decide +kernel)
theorem k_113_17 : OkOp mt Ev 113 17 (o_push (.int (-5)) 2) := ok_bipush (n := -5) (by decide +kernel) (by decide +kernel)
theorem k_113_19 : OkOp mt Ev 113 19 (o_ret 0) := ok_reti (ty := .int) (by decide +kernel) rfl (Or.inl ⟨rfl, rfl⟩)
theorem k_113_20 : OkOp mt Ev 113 20 (o_aload 0 1) := ok_aload_n (k := 0) (by decide +kernel) rfl
theorem k_113_21 : OkOp mt Ev 113 21 (o_getf 1 [11]) := ok_getf (i := 18) (rf := "BridgeSentences") (nm := "trial") (ds := "LBridgeSentences$World;") (by decide +kernel) fc_38 wd_219
theorem k_113_24 : OkOp mt Ev 113 24 (o_aload 0 1) := ok_aload_n (k := 0) (by decide +kernel) rfl
theorem k_113_25 : OkOp mt Ev 113 25 (o_getf 0 [11]) := ok_getf (i := 12) (rf := "BridgeSentences") (nm := "now") (ds := "LBridgeSentences$World;") (by decide +kernel) fc_37 wd_218
theorem k_113_28 : OkOp mt Ev 113 28 (o_cv [(10, 49)] 1) := ok_cv (i := 180) (by decide +kernel) vc_124
theorem k_113_31 : OkOp mt Ev 113 31 (o_push (.int (20)) 2) := ok_bipush (n := 20) (by decide +kernel) (by decide +kernel)
theorem k_113_33 : OkOp mt Ev 113 33 (o_istore 3 1) := ok_istore_n (k := 3) (by decide +kernel) rfl
theorem k_113_34 : OkOp mt Ev 113 34 (o_iload 3 1) := ok_iload_n (k := 3) (by decide +kernel) rfl
theorem k_113_35 : OkOp mt Ev 113 35 (o_if1 (fun x => decide (x ≤ 0)) 86) := ok_if_le (off := 51) (by decide +kernel) (by decide +kernel)
theorem k_113_38 : OkOp mt Ev 113 38 (o_aload 0 1) := ok_aload_n (k := 0) (by decide +kernel) rfl
theorem k_113_39 : OkOp mt Ev 113 39 (o_getf 1 [11]) := ok_getf (i := 18) (rf := "BridgeSentences") (nm := "trial") (ds := "LBridgeSentences$World;") (by decide +kernel) fc_38 wd_219
theorem k_113_42 : OkOp mt Ev 113 42 (o_getf 0 [10]) := ok_getf (i := 127) (rf := "BridgeSentences$World") (nm := "worths") (ds := "[I") (by decide +kernel) fc_26 wd_120
theorem k_113_45 : OkOp mt Ev 113 45 (o_iload 2 1) := ok_iload_n (k := 2) (by decide +kernel) rfl
theorem k_113_46 : OkOp mt Ev 113 46 (o_aload 0 1) := ok_aload_n (k := 0) (by decide +kernel) rfl
theorem k_113_47 : OkOp mt Ev 113 47 (o_getf 0 [11]) := ok_getf (i := 12) (rf := "BridgeSentences") (nm := "now") (ds := "LBridgeSentences$World;") (by decide +kernel) fc_37 wd_218
theorem k_113_50 : OkOp mt Ev 113 50 (o_getf 0 [10]) := ok_getf (i := 127) (rf := "BridgeSentences$World") (nm := "worths") (ds := "[I") (by decide +kernel) fc_26 wd_120
theorem k_113_53 : OkOp mt Ev 113 53 (o_iload 2 1) := ok_iload_n (k := 2) (by decide +kernel) rfl
theorem k_113_54 : OkOp mt Ev 113 54 (o_iald 2) := ok_iald (by decide +kernel)
theorem k_113_55 : OkOp mt Ev 113 55 (o_iload 3 1) := ok_iload_n (k := 3) (by decide +kernel) rfl
theorem k_113_56 : OkOp mt Ev 113 56 (o_ib (fun x y => x - y)) := ok_isub (by decide +kernel)
theorem k_113_57 : OkOp mt Ev 113 57 (o_push (.int (0)) 1) := ok_iconst (n := 0) (by decide +kernel) (by decide +kernel)
theorem k_113_58 : OkOp mt Ev 113 58 (o_cs 196 2) := ok_cs (i := 291) (by decide +kernel) wd_495 wd_100 wd_59 wd_101 nk_9
theorem k_113_61 : OkOp mt Ev 113 61 (o_iast 2 (fun x => x)) := ok_iast (by decide +kernel)
theorem k_113_62 : OkOp mt Ev 113 62 (o_aload 0 1) := ok_aload_n (k := 0) (by decide +kernel) rfl
theorem k_113_63 : OkOp mt Ev 113 63 (o_getf 1 [11]) := ok_getf (i := 18) (rf := "BridgeSentences") (nm := "trial") (ds := "LBridgeSentences$World;") (by decide +kernel) fc_38 wd_219
theorem k_113_66 : OkOp mt Ev 113 66 (o_aload 1 1) := ok_aload_n (k := 1) (by decide +kernel) rfl
theorem k_113_67 : OkOp mt Ev 113 67 (o_aload 1 1) := ok_aload_n (k := 1) (by decide +kernel) rfl
theorem k_113_68 : OkOp mt Ev 113 68 (o_getf 3 [1, 2, 3, 4, 5, 6, 8]) := ok_getf (i := 70) (rf := "BridgeSentences$One") (nm := "has") (ds := "I") (by decide +kernel) fc_14 wd_287
theorem k_113_71 : OkOp mt Ev 113 71 (o_cv [(10, 58)] 2) := ok_cv (i := 94) (by decide +kernel) vc_113
theorem k_113_74 : OkOp mt Ev 113 74 (o_iload 2 1) := ok_iload_n (k := 2) (by decide +kernel) rfl
theorem k_113_75 : OkOp mt Ev 113 75 (o_if2 (fun x y => decide (¬ x = y)) 80) := ok_icmp_ne (off := 5) (by decide +kernel) (by decide +kernel)
theorem k_113_78 : OkOp mt Ev 113 78 (o_iload 3 1) := ok_iload_n (k := 3) (by decide +kernel) rfl
theorem k_113_79 : OkOp mt Ev 113 79 (o_ret 0) := ok_reti (ty := .int) (by decide +kernel) rfl (Or.inl ⟨rfl, rfl⟩)
theorem k_113_80 : OkOp mt Ev 113 80 (o_iinc 3 (-1)) := ok_iinc (n := -1) (by decide +kernel) (by decide +kernel)
theorem k_113_83 : OkOp mt Ev 113 83 (o_goto 34) := ok_goto (off := -49) (by decide +kernel) (by decide +kernel)
theorem k_113_86 : OkOp mt Ev 113 86 (o_push (.int (0)) 1) := ok_iconst (n := 0) (by decide +kernel) (by decide +kernel)
theorem k_113_87 : OkOp mt Ev 113 87 (o_ret 0) := ok_reti (ty := .int) (by decide +kernel) rfl (Or.inl ⟨rfl, rfl⟩)
theorem kt_113 : ∀ pc o, cd_X11_dearOf Ev pc = some o → OkOp mt Ev 113 pc o ∧ Gw o := (tN_ok (tN_ok (tN_ok (tN_ok (tN_ok (tL_ok ⟨k_113_0, gw_aload⟩) (tN_ok (tL_ok ⟨k_113_1, gw_getf⟩) (tL_ok ⟨k_113_4, gw_aload⟩))) (tN_ok (tL_ok ⟨k_113_5, gw_aload⟩) (tN_ok (tL_ok ⟨k_113_6, gw_getf⟩) (tL_ok ⟨k_113_9, gw_cv⟩)))) (tN_ok (tN_ok (tL_ok ⟨k_113_12, gw_istore⟩) (tN_ok (tL_ok ⟨k_113_13, gw_iload⟩) (tL_ok ⟨k_113_14, gw_if1⟩))) (tN_ok (tL_ok ⟨k_113_17, gw_push⟩) (tN_ok (tL_ok ⟨k_113_19, gw_ret⟩) (tL_ok ⟨k_113_20, gw_aload⟩))))) (tN_ok (tN_ok (tN_ok (tL_ok ⟨k_113_21, gw_getf⟩) (tN_ok (tL_ok ⟨k_113_24, gw_aload⟩) (tL_ok ⟨k_113_25, gw_getf⟩))) (tN_ok (tL_ok ⟨k_113_28, gw_cv⟩) (tN_ok (tL_ok ⟨k_113_31, gw_push⟩) (tL_ok ⟨k_113_33, gw_istore⟩)))) (tN_ok (tN_ok (tL_ok ⟨k_113_34, gw_iload⟩) (tN_ok (tL_ok ⟨k_113_35, gw_if1⟩) (tL_ok ⟨k_113_38, gw_aload⟩))) (tN_ok (tL_ok ⟨k_113_39, gw_getf⟩) (tN_ok (tL_ok ⟨k_113_42, gw_getf⟩) (tL_ok ⟨k_113_45, gw_iload⟩)))))) (tN_ok (tN_ok (tN_ok (tN_ok (tL_ok ⟨k_113_46, gw_aload⟩) (tN_ok (tL_ok ⟨k_113_47, gw_getf⟩) (tL_ok ⟨k_113_50, gw_getf⟩))) (tN_ok (tL_ok ⟨k_113_53, gw_iload⟩) (tN_ok (tL_ok ⟨k_113_54, gw_iald⟩) (tL_ok ⟨k_113_55, gw_iload⟩)))) (tN_ok (tN_ok (tL_ok ⟨k_113_56, gw_ib⟩) (tN_ok (tL_ok ⟨k_113_57, gw_push⟩) (tL_ok ⟨k_113_58, gw_cs⟩))) (tN_ok (tL_ok ⟨k_113_61, gw_iast⟩) (tN_ok (tL_ok ⟨k_113_62, gw_aload⟩) (tL_ok ⟨k_113_63, gw_getf⟩))))) (tN_ok (tN_ok (tN_ok (tL_ok ⟨k_113_66, gw_aload⟩) (tN_ok (tL_ok ⟨k_113_67, gw_aload⟩) (tL_ok ⟨k_113_68, gw_getf⟩))) (tN_ok (tL_ok ⟨k_113_71, gw_cv⟩) (tN_ok (tL_ok ⟨k_113_74, gw_iload⟩) (tL_ok ⟨k_113_75, gw_if2⟩)))) (tN_ok (tN_ok (tL_ok ⟨k_113_78, gw_iload⟩) (tN_ok (tL_ok ⟨k_113_79, gw_ret⟩) (tL_ok ⟨k_113_80, gw_iinc⟩))) (tN_ok (tL_ok ⟨k_113_83, gw_goto⟩) (tN_ok (tL_ok ⟨k_113_86, gw_push⟩) (tL_ok ⟨k_113_87, gw_ret⟩)))))))
end
