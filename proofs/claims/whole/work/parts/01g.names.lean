theorem dX6_uncertainty_36 : decode cX6_uncertainty 36 = .ok (.invokevirtual 133, 3) := by decide +kernel
theorem dX6_uncertainty_39 : decode cX6_uncertainty 39 = .ok (.aload_n 0, 1) := by decide +kernel
theorem dX6_uncertainty_40 : decode cX6_uncertainty 40 = .ok (.invokevirtual 146, 3) := by decide +kernel
theorem dX6_uncertainty_43 : decode cX6_uncertainty 43 = .ok (.aload_n 0, 1) := by decide +kernel
theorem dX6_uncertainty_44 : decode cX6_uncertainty 44 = .ok (.getfield 115, 3) := by decide +kernel
theorem dX6_uncertainty_47 : decode cX6_uncertainty 47 = .ok (.l2d, 1) := by decide +kernel
theorem dX6_uncertainty_48 : decode cX6_uncertainty 48 = .ok (.ldc2_w 164, 3) := by decide +kernel
theorem dX6_uncertainty_51 : decode cX6_uncertainty 51 = .ok (.ddiv, 1) := by decide +kernel
theorem dX6_uncertainty_52 : decode cX6_uncertainty 52 = .ok (.dreturn, 1) := by decide +kernel
theorem dX6_windowLong_0 : decode cX6_windowLong 0 = .ok (.aload_n 0, 1) := by decide +kernel
theorem dX6_windowLong_1 : decode cX6_windowLong 1 = .ok (.getfield 7, 3) := by decide +kernel
theorem dX6_windowLong_4 : decode cX6_windowLong 4 = .ok (.bipush 25, 2) := by decide +kernel
theorem dX6_windowLong_6 : decode cX6_windowLong 6 = .ok (.laload, 1) := by decide +kernel
theorem dX6_windowLong_7 : decode cX6_windowLong 7 = .ok (.aload_n 0, 1) := by decide +kernel
theorem dX6_windowLong_8 : decode cX6_windowLong 8 = .ok (.getfield 7, 3) := by decide +kernel
theorem dX6_windowLong_11 : decode cX6_windowLong 11 = .ok (.iconst 3, 1) := by decide +kernel
theorem dX6_windowLong_12 : decode cX6_windowLong 12 = .ok (.laload, 1) := by decide +kernel
theorem dX6_windowLong_13 : decode cX6_windowLong 13 = .ok (.lcmp, 1) := by decide +kernel
theorem dX6_windowLong_14 : decode cX6_windowLong 14 = .ok (.ifCond .ge 14, 3) := by decide +kernel
theorem dX6_windowLong_17 : decode cX6_windowLong 17 = .ok (.aload_n 0, 1) := by decide +kernel
theorem dX6_windowLong_18 : decode cX6_windowLong 18 = .ok (.getfield 7, 3) := by decide +kernel
theorem dX6_windowLong_21 : decode cX6_windowLong 21 = .ok (.bipush 25, 2) := by decide +kernel
theorem dX6_windowLong_23 : decode cX6_windowLong 23 = .ok (.laload, 1) := by decide +kernel
theorem dX6_windowLong_24 : decode cX6_windowLong 24 = .ok (.l2i, 1) := by decide +kernel
theorem dX6_windowLong_25 : decode cX6_windowLong 25 = .ok (.goto 10, 3) := by decide +kernel
theorem dX6_windowLong_28 : decode cX6_windowLong 28 = .ok (.aload_n 0, 1) := by decide +kernel
theorem dX6_windowLong_29 : decode cX6_windowLong 29 = .ok (.getfield 7, 3) := by decide +kernel
theorem dX6_windowLong_32 : decode cX6_windowLong 32 = .ok (.iconst 3, 1) := by decide +kernel
theorem dX6_windowLong_33 : decode cX6_windowLong 33 = .ok (.laload, 1) := by decide +kernel
theorem dX6_windowLong_34 : decode cX6_windowLong 34 = .ok (.l2i, 1) := by decide +kernel
theorem dX6_windowLong_35 : decode cX6_windowLong 35 = .ok (.ireturn, 1) := by decide +kernel
set_option maxRecDepth 20000 in
theorem ggX6_determinantNow_X6_kept : GoodIn wsX6_determinantNow wsX6_kept := goodIn_r _ [6, 1, 7, 12, 13, 14, 15, 16, 17, 18, 19, 20, 21, 22, 23, 24] (by decide +kernel) (by decide +kernel)
set_option maxRecDepth 20000 in
theorem gX6_determinantNow_X6_kept : GoodIn wsX6_determinantNow (wsV RX6 119 RX6 yX6_kept wsX6_kept) := goodIn_app (goodIn_of _ (by decide +kernel)) ggX6_determinantNow_X6_kept
set_option maxRecDepth 20000 in
theorem ggX6_determinantNow_X6_windowLong : GoodIn wsX6_determinantNow wsX6_windowLong := goodIn_r _ [11, 1, 12, 13, 14, 15, 16, 17, 18, 19, 20, 21, 22, 23, 24] (by decide +kernel) (by decide +kernel)
set_option maxRecDepth 20000 in
theorem gX6_determinantNow_X6_windowLong : GoodIn wsX6_determinantNow (wsV RX6 166 RX6 yX6_windowLong wsX6_windowLong) := goodIn_app (goodIn_of _ (by decide +kernel)) ggX6_determinantNow_X6_windowLong
theorem dX6_determinantNow_0 : decode cX6_determinantNow 0 = .ok (.lconst 0, 1) := by decide +kernel
theorem dX6_determinantNow_1 : decode cX6_determinantNow 1 = .ok (.lstore_n 1, 1) := by decide +kernel
theorem dX6_determinantNow_2 : decode cX6_determinantNow 2 = .ok (.lconst 0, 1) := by decide +kernel
theorem dX6_determinantNow_3 : decode cX6_determinantNow 3 = .ok (.lstore_n 3, 1) := by decide +kernel
theorem dX6_determinantNow_4 : decode cX6_determinantNow 4 = .ok (.lconst 0, 1) := by decide +kernel
theorem dX6_determinantNow_5 : decode cX6_determinantNow 5 = .ok (.lstore 5, 2) := by decide +kernel
theorem dX6_determinantNow_7 : decode cX6_determinantNow 7 = .ok (.aload_n 0, 1) := by decide +kernel
theorem dX6_determinantNow_8 : decode cX6_determinantNow 8 = .ok (.invokevirtual 119, 3) := by decide +kernel
theorem dX6_determinantNow_11 : decode cX6_determinantNow 11 = .ok (.aload_n 0, 1) := by decide +kernel
theorem dX6_determinantNow_12 : decode cX6_determinantNow 12 = .ok (.invokevirtual 166, 3) := by decide +kernel
theorem dX6_determinantNow_15 : decode cX6_determinantNow 15 = .ok (.isub, 1) := by decide +kernel
theorem dX6_determinantNow_16 : decode cX6_determinantNow 16 = .ok (.istore 7, 2) := by decide +kernel
theorem dX6_determinantNow_18 : decode cX6_determinantNow 18 = .ok (.iload 7, 2) := by decide +kernel
theorem dX6_determinantNow_20 : decode cX6_determinantNow 20 = .ok (.aload_n 0, 1) := by decide +kernel
theorem dX6_determinantNow_21 : decode cX6_determinantNow 21 = .ok (.invokevirtual 119, 3) := by decide +kernel
theorem dX6_determinantNow_24 : decode cX6_determinantNow 24 = .ok (.if_icmp .ge 65, 3) := by decide +kernel
theorem dX6_determinantNow_27 : decode cX6_determinantNow 27 = .ok (.aload_n 0, 1) := by decide +kernel
theorem dX6_determinantNow_28 : decode cX6_determinantNow 28 = .ok (.getfield 7, 3) := by decide +kernel
theorem dX6_determinantNow_31 : decode cX6_determinantNow 31 = .ok (.bipush 36, 2) := by decide +kernel
theorem dX6_determinantNow_33 : decode cX6_determinantNow 33 = .ok (.iconst 2, 1) := by decide +kernel
theorem dX6_determinantNow_34 : decode cX6_determinantNow 34 = .ok (.iload 7, 2) := by decide +kernel
theorem dX6_determinantNow_36 : decode cX6_determinantNow 36 = .ok (.imul, 1) := by decide +kernel
theorem dX6_determinantNow_37 : decode cX6_determinantNow 37 = .ok (.iadd, 1) := by decide +kernel
theorem dX6_determinantNow_38 : decode cX6_determinantNow 38 = .ok (.laload, 1) := by decide +kernel
theorem dX6_determinantNow_39 : decode cX6_determinantNow 39 = .ok (.lstore 8, 2) := by decide +kernel
theorem dX6_determinantNow_41 : decode cX6_determinantNow 41 = .ok (.aload_n 0, 1) := by decide +kernel
theorem dX6_determinantNow_42 : decode cX6_determinantNow 42 = .ok (.getfield 7, 3) := by decide +kernel
theorem dX6_determinantNow_45 : decode cX6_determinantNow 45 = .ok (.bipush 36, 2) := by decide +kernel
theorem dX6_determinantNow_47 : decode cX6_determinantNow 47 = .ok (.iconst 2, 1) := by decide +kernel
theorem dX6_determinantNow_48 : decode cX6_determinantNow 48 = .ok (.iload 7, 2) := by decide +kernel
theorem dX6_determinantNow_50 : decode cX6_determinantNow 50 = .ok (.imul, 1) := by decide +kernel
theorem dX6_determinantNow_51 : decode cX6_determinantNow 51 = .ok (.iadd, 1) := by decide +kernel
theorem dX6_determinantNow_52 : decode cX6_determinantNow 52 = .ok (.iconst 1, 1) := by decide +kernel
theorem dX6_determinantNow_53 : decode cX6_determinantNow 53 = .ok (.iadd, 1) := by decide +kernel
theorem dX6_determinantNow_54 : decode cX6_determinantNow 54 = .ok (.laload, 1) := by decide +kernel
theorem dX6_determinantNow_55 : decode cX6_determinantNow 55 = .ok (.lstore 10, 2) := by decide +kernel
theorem dX6_determinantNow_57 : decode cX6_determinantNow 57 = .ok (.lload_n 1, 1) := by decide +kernel
theorem dX6_determinantNow_58 : decode cX6_determinantNow 58 = .ok (.lload 8, 2) := by decide +kernel
theorem dX6_determinantNow_60 : decode cX6_determinantNow 60 = .ok (.lload 8, 2) := by decide +kernel
theorem dX6_determinantNow_62 : decode cX6_determinantNow 62 = .ok (.lmul, 1) := by decide +kernel
theorem dX6_determinantNow_63 : decode cX6_determinantNow 63 = .ok (.ladd, 1) := by decide +kernel
theorem dX6_determinantNow_64 : decode cX6_determinantNow 64 = .ok (.lstore_n 1, 1) := by decide +kernel
theorem dX6_determinantNow_65 : decode cX6_determinantNow 65 = .ok (.lload_n 3, 1) := by decide +kernel
theorem dX6_determinantNow_66 : decode cX6_determinantNow 66 = .ok (.lload 10, 2) := by decide +kernel
theorem dX6_determinantNow_68 : decode cX6_determinantNow 68 = .ok (.lload 10, 2) := by decide +kernel
theorem dX6_determinantNow_70 : decode cX6_determinantNow 70 = .ok (.lmul, 1) := by decide +kernel
theorem dX6_determinantNow_71 : decode cX6_determinantNow 71 = .ok (.ladd, 1) := by decide +kernel
theorem dX6_determinantNow_72 : decode cX6_determinantNow 72 = .ok (.lstore_n 3, 1) := by decide +kernel
theorem dX6_determinantNow_73 : decode cX6_determinantNow 73 = .ok (.lload 5, 2) := by decide +kernel
theorem dX6_determinantNow_75 : decode cX6_determinantNow 75 = .ok (.lload 8, 2) := by decide +kernel
theorem dX6_determinantNow_77 : decode cX6_determinantNow 77 = .ok (.lload 10, 2) := by decide +kernel
theorem dX6_determinantNow_79 : decode cX6_determinantNow 79 = .ok (.lmul, 1) := by decide +kernel
theorem dX6_determinantNow_80 : decode cX6_determinantNow 80 = .ok (.ladd, 1) := by decide +kernel
theorem dX6_determinantNow_81 : decode cX6_determinantNow 81 = .ok (.lstore 5, 2) := by decide +kernel
theorem dX6_determinantNow_83 : decode cX6_determinantNow 83 = .ok (.iinc 7 1, 3) := by decide +kernel
theorem dX6_determinantNow_86 : decode cX6_determinantNow 86 = .ok (.goto (-68), 3) := by decide +kernel
theorem dX6_determinantNow_89 : decode cX6_determinantNow 89 = .ok (.lload_n 1, 1) := by decide +kernel
theorem dX6_determinantNow_90 : decode cX6_determinantNow 90 = .ok (.lload_n 3, 1) := by decide +kernel
theorem dX6_determinantNow_91 : decode cX6_determinantNow 91 = .ok (.lmul, 1) := by decide +kernel
theorem dX6_determinantNow_92 : decode cX6_determinantNow 92 = .ok (.lload 5, 2) := by decide +kernel
theorem dX6_determinantNow_94 : decode cX6_determinantNow 94 = .ok (.lload 5, 2) := by decide +kernel
theorem dX6_determinantNow_96 : decode cX6_determinantNow 96 = .ok (.lmul, 1) := by decide +kernel
theorem dX6_determinantNow_97 : decode cX6_determinantNow 97 = .ok (.lsub, 1) := by decide +kernel
theorem dX6_determinantNow_98 : decode cX6_determinantNow 98 = .ok (.lreturn, 1) := by decide +kernel
set_option maxRecDepth 20000 in
theorem ggX6_inWindow_X6_windowLong : GoodIn wsX6_inWindow wsX6_windowLong := goodIn_r _ [6, 7, 8, 9, 10, 11, 12, 13, 14, 15, 16, 17, 18, 19, 20] (by decide +kernel) (by decide +kernel)
set_option maxRecDepth 20000 in
theorem gX6_inWindow_X6_windowLong : GoodIn wsX6_inWindow (wsV RX6 166 RX6 yX6_windowLong wsX6_windowLong) := goodIn_app (goodIn_of _ (by decide +kernel)) ggX6_inWindow_X6_windowLong
theorem dX6_inWindow_0 : decode cX6_inWindow 0 = .ok (.aload_n 0, 1) := by decide +kernel
theorem dX6_inWindow_1 : decode cX6_inWindow 1 = .ok (.iconst 0, 1) := by decide +kernel
theorem dX6_inWindow_2 : decode cX6_inWindow 2 = .ok (.putfield 54, 3) := by decide +kernel
theorem dX6_inWindow_5 : decode cX6_inWindow 5 = .ok (.aload_n 0, 1) := by decide +kernel
theorem dX6_inWindow_6 : decode cX6_inWindow 6 = .ok (.invokevirtual 166, 3) := by decide +kernel
theorem dX6_inWindow_9 : decode cX6_inWindow 9 = .ok (.ireturn, 1) := by decide +kernel
set_option maxRecDepth 20000 in
theorem ggX6_determinant_X6_determinantNow : GoodIn wsX6_determinant wsX6_determinantNow := goodIn_r _ [6, 7, 8, 9, 10, 5, 11, 12, 13, 14, 15, 16, 17, 18, 19, 20, 21, 22, 23, 24, 25, 26, 27, 28, 29] (by decide +kernel) (by decide +kernel)
set_option maxRecDepth 20000 in
theorem gX6_determinant_X6_determinantNow : GoodIn wsX6_determinant (wsV RX6 169 RX6 yX6_determinantNow wsX6_determinantNow) := goodIn_app (goodIn_of _ (by decide +kernel)) ggX6_determinant_X6_determinantNow
theorem dX6_determinant_0 : decode cX6_determinant 0 = .ok (.aload_n 0, 1) := by decide +kernel
theorem dX6_determinant_1 : decode cX6_determinant 1 = .ok (.iconst 0, 1) := by decide +kernel
theorem dX6_determinant_2 : decode cX6_determinant 2 = .ok (.putfield 54, 3) := by decide +kernel
theorem dX6_determinant_5 : decode cX6_determinant 5 = .ok (.aload_n 0, 1) := by decide +kernel
theorem dX6_determinant_6 : decode cX6_determinant 6 = .ok (.invokevirtual 169, 3) := by decide +kernel
theorem dX6_determinant_9 : decode cX6_determinant 9 = .ok (.lreturn, 1) := by decide +kernel
set_option maxRecDepth 20000 in
theorem ggX6_exciting_X6_windowLong : GoodIn wsX6_exciting wsX6_windowLong := goodIn_r _ [8, 2, 18, 19, 20, 21, 22, 23, 24, 25, 26, 27, 28, 29, 30] (by decide +kernel) (by decide +kernel)
set_option maxRecDepth 20000 in
theorem gX6_exciting_X6_windowLong : GoodIn wsX6_exciting (wsV RX6 166 RX6 yX6_windowLong wsX6_windowLong) := goodIn_app (goodIn_of _ (by decide +kernel)) ggX6_exciting_X6_windowLong
set_option maxRecDepth 20000 in
theorem ggX6_exciting_X6_determinantNow : GoodIn wsX6_exciting wsX6_determinantNow := goodIn_r _ [12, 2, 13, 14, 15, 7, 16, 17, 4, 5, 6, 8, 18, 19, 20, 21, 22, 23, 24, 25, 26, 27, 28, 29, 30] (by decide +kernel) (by decide +kernel)
set_option maxRecDepth 20000 in
theorem gX6_exciting_X6_determinantNow : GoodIn wsX6_exciting (wsV RX6 169 RX6 yX6_determinantNow wsX6_determinantNow) := goodIn_app (goodIn_of _ (by decide +kernel)) ggX6_exciting_X6_determinantNow
theorem dX6_exciting_0 : decode cX6_exciting 0 = .ok (.aload_n 0, 1) := by decide +kernel
theorem dX6_exciting_1 : decode cX6_exciting 1 = .ok (.iconst 0, 1) := by decide +kernel
theorem dX6_exciting_2 : decode cX6_exciting 2 = .ok (.putfield 54, 3) := by decide +kernel
theorem dX6_exciting_5 : decode cX6_exciting 5 = .ok (.aload_n 0, 1) := by decide +kernel
theorem dX6_exciting_6 : decode cX6_exciting 6 = .ok (.invokevirtual 166, 3) := by decide +kernel
theorem dX6_exciting_9 : decode cX6_exciting 9 = .ok (.i2l, 1) := by decide +kernel
theorem dX6_exciting_10 : decode cX6_exciting 10 = .ok (.lstore_n 1, 1) := by decide +kernel
theorem dX6_exciting_11 : decode cX6_exciting 11 = .ok (.lload_n 1, 1) := by decide +kernel
theorem dX6_exciting_12 : decode cX6_exciting 12 = .ok (.aload_n 0, 1) := by decide +kernel
theorem dX6_exciting_13 : decode cX6_exciting 13 = .ok (.getfield 7, 3) := by decide +kernel
theorem dX6_exciting_16 : decode cX6_exciting 16 = .ok (.iconst 3, 1) := by decide +kernel
theorem dX6_exciting_17 : decode cX6_exciting 17 = .ok (.laload, 1) := by decide +kernel
theorem dX6_exciting_18 : decode cX6_exciting 18 = .ok (.lcmp, 1) := by decide +kernel
theorem dX6_exciting_19 : decode cX6_exciting 19 = .ok (.ifCond .ne 22, 3) := by decide +kernel
theorem dX6_exciting_22 : decode cX6_exciting 22 = .ok (.aload_n 0, 1) := by decide +kernel
theorem dX6_exciting_23 : decode cX6_exciting 23 = .ok (.invokevirtual 169, 3) := by decide +kernel
theorem dX6_exciting_26 : decode cX6_exciting 26 = .ok (.ldc2_w 172, 3) := by decide +kernel
theorem dX6_exciting_29 : decode cX6_exciting 29 = .ok (.lload_n 1, 1) := by decide +kernel
theorem dX6_exciting_30 : decode cX6_exciting 30 = .ok (.lmul, 1) := by decide +kernel
theorem dX6_exciting_31 : decode cX6_exciting 31 = .ok (.lload_n 1, 1) := by decide +kernel
theorem dX6_exciting_32 : decode cX6_exciting 32 = .ok (.lmul, 1) := by decide +kernel
theorem dX6_exciting_33 : decode cX6_exciting 33 = .ok (.lcmp, 1) := by decide +kernel
theorem dX6_exciting_34 : decode cX6_exciting 34 = .ok (.ifCond .lt 7, 3) := by decide +kernel
theorem dX6_exciting_37 : decode cX6_exciting 37 = .ok (.iconst 1, 1) := by decide +kernel
theorem dX6_exciting_38 : decode cX6_exciting 38 = .ok (.goto 4, 3) := by decide +kernel
theorem dX6_exciting_41 : decode cX6_exciting 41 = .ok (.iconst 0, 1) := by decide +kernel
theorem dX6_exciting_42 : decode cX6_exciting 42 = .ok (.ireturn, 1) := by decide +kernel
set_option maxRecDepth 20000 in
theorem ggX6_controls_X6_in : GoodIn wsX6_controls wsX6_in := goodIn_r _ [7] (by decide +kernel) (by decide +kernel)
set_option maxRecDepth 20000 in
theorem gX6_controls_X6_in : GoodIn wsX6_controls (va_wsS RX6 65 yX6_in wsX6_in) := goodIn_app (goodIn_of _ (by decide +kernel)) ggX6_controls_X6_in
set_option maxRecDepth 20000 in
theorem ggX6_controls_X6_floor : GoodIn wsX6_controls wsX6_floor := goodIn_r _ [10] (by decide +kernel) (by decide +kernel)
set_option maxRecDepth 20000 in
theorem gX6_controls_X6_floor : GoodIn wsX6_controls (va_wsS RX6 123 yX6_floor wsX6_floor) := goodIn_app (goodIn_of _ (by decide +kernel)) ggX6_controls_X6_floor
set_option maxRecDepth 20000 in
theorem ggX6_controls_X6_within : GoodIn wsX6_controls wsX6_within := goodIn_r _ [13] (by decide +kernel) (by decide +kernel)
set_option maxRecDepth 20000 in
theorem gX6_controls_X6_within : GoodIn wsX6_controls (va_wsS RX6 90 yX6_within wsX6_within) := goodIn_app (goodIn_of _ (by decide +kernel)) ggX6_controls_X6_within
theorem dX6_controls_0 : decode cX6_controls 0 = .ok (.aload_n 0, 1) := by decide +kernel
theorem dX6_controls_1 : decode cX6_controls 1 = .ok (.getfield 7, 3) := by decide +kernel
theorem dX6_controls_4 : decode cX6_controls 4 = .ok (.bipush 14, 2) := by decide +kernel
theorem dX6_controls_6 : decode cX6_controls 6 = .ok (.laload, 1) := by decide +kernel
theorem dX6_controls_7 : decode cX6_controls 7 = .ok (.lstore 5, 2) := by decide +kernel
theorem dX6_controls_9 : decode cX6_controls 9 = .ok (.lload 5, 2) := by decide +kernel
theorem dX6_controls_11 : decode cX6_controls 11 = .ok (.lconst 1, 1) := by decide +kernel
theorem dX6_controls_12 : decode cX6_controls 12 = .ok (.aload_n 0, 1) := by decide +kernel
theorem dX6_controls_13 : decode cX6_controls 13 = .ok (.getfield 7, 3) := by decide +kernel
theorem dX6_controls_16 : decode cX6_controls 16 = .ok (.bipush 6, 2) := by decide +kernel
theorem dX6_controls_18 : decode cX6_controls 18 = .ok (.laload, 1) := by decide +kernel
theorem dX6_controls_19 : decode cX6_controls 19 = .ok (.lsub, 1) := by decide +kernel
theorem dX6_controls_20 : decode cX6_controls 20 = .ok (.aload_n 0, 1) := by decide +kernel
theorem dX6_controls_21 : decode cX6_controls 21 = .ok (.getfield 7, 3) := by decide +kernel
theorem dX6_controls_24 : decode cX6_controls 24 = .ok (.bipush 6, 2) := by decide +kernel
theorem dX6_controls_26 : decode cX6_controls 26 = .ok (.laload, 1) := by decide +kernel
theorem dX6_controls_27 : decode cX6_controls 27 = .ok (.lconst 1, 1) := by decide +kernel
theorem dX6_controls_28 : decode cX6_controls 28 = .ok (.lsub, 1) := by decide +kernel
theorem dX6_controls_29 : decode cX6_controls 29 = .ok (.invokestatic 65, 3) := by decide +kernel
theorem dX6_controls_32 : decode cX6_controls 32 = .ok (.ifCond .eq 30, 3) := by decide +kernel
theorem dX6_controls_35 : decode cX6_controls 35 = .ok (.lload 5, 2) := by decide +kernel
theorem dX6_controls_37 : decode cX6_controls 37 = .ok (.lconst 0, 1) := by decide +kernel
theorem dX6_controls_38 : decode cX6_controls 38 = .ok (.lcmp, 1) := by decide +kernel
theorem dX6_controls_39 : decode cX6_controls 39 = .ok (.ifCond .ge 14, 3) := by decide +kernel
theorem dX6_controls_42 : decode cX6_controls 42 = .ok (.aload_n 0, 1) := by decide +kernel
theorem dX6_controls_43 : decode cX6_controls 43 = .ok (.getfield 7, 3) := by decide +kernel
theorem dX6_controls_46 : decode cX6_controls 46 = .ok (.bipush 6, 2) := by decide +kernel
theorem dX6_controls_48 : decode cX6_controls 48 = .ok (.laload, 1) := by decide +kernel
theorem dX6_controls_49 : decode cX6_controls 49 = .ok (.lneg, 1) := by decide +kernel
theorem dX6_controls_50 : decode cX6_controls 50 = .ok (.goto 10, 3) := by decide +kernel
theorem dX6_controls_53 : decode cX6_controls 53 = .ok (.aload_n 0, 1) := by decide +kernel
theorem dX6_controls_54 : decode cX6_controls 54 = .ok (.getfield 7, 3) := by decide +kernel
theorem dX6_controls_57 : decode cX6_controls 57 = .ok (.bipush 6, 2) := by decide +kernel
theorem dX6_controls_59 : decode cX6_controls 59 = .ok (.laload, 1) := by decide +kernel
theorem dX6_controls_60 : decode cX6_controls 60 = .ok (.lstore 5, 2) := by decide +kernel
theorem dX6_controls_62 : decode cX6_controls 62 = .ok (.ldc2_w 71, 3) := by decide +kernel
theorem dX6_controls_65 : decode cX6_controls 65 = .ok (.lload_n 1, 1) := by decide +kernel
theorem dX6_controls_66 : decode cX6_controls 66 = .ok (.lmul, 1) := by decide +kernel
theorem dX6_controls_67 : decode cX6_controls 67 = .ok (.aload_n 0, 1) := by decide +kernel
theorem dX6_controls_68 : decode cX6_controls 68 = .ok (.getfield 7, 3) := by decide +kernel
theorem dX6_controls_71 : decode cX6_controls 71 = .ok (.bipush 13, 2) := by decide +kernel
theorem dX6_controls_73 : decode cX6_controls 73 = .ok (.laload, 1) := by decide +kernel
theorem dX6_controls_74 : decode cX6_controls 74 = .ok (.lload_n 3, 1) := by decide +kernel
theorem dX6_controls_75 : decode cX6_controls 75 = .ok (.lmul, 1) := by decide +kernel
theorem dX6_controls_76 : decode cX6_controls 76 = .ok (.lsub, 1) := by decide +kernel
theorem dX6_controls_77 : decode cX6_controls 77 = .ok (.aload_n 0, 1) := by decide +kernel
theorem dX6_controls_78 : decode cX6_controls 78 = .ok (.getfield 7, 3) := by decide +kernel
theorem dX6_controls_81 : decode cX6_controls 81 = .ok (.bipush 15, 2) := by decide +kernel
theorem dX6_controls_83 : decode cX6_controls 83 = .ok (.laload, 1) := by decide +kernel
theorem dX6_controls_84 : decode cX6_controls 84 = .ok (.lsub, 1) := by decide +kernel
theorem dX6_controls_85 : decode cX6_controls 85 = .ok (.lstore 7, 2) := by decide +kernel
theorem dX6_controls_87 : decode cX6_controls 87 = .ok (.lload 5, 2) := by decide +kernel
theorem dX6_controls_89 : decode cX6_controls 89 = .ok (.lconst 0, 1) := by decide +kernel
theorem dX6_controls_90 : decode cX6_controls 90 = .ok (.lcmp, 1) := by decide +kernel
theorem dX6_controls_91 : decode cX6_controls 91 = .ok (.ifCond .ge 15, 3) := by decide +kernel
theorem dX6_controls_94 : decode cX6_controls 94 = .ok (.lload 7, 2) := by decide +kernel
theorem dX6_controls_96 : decode cX6_controls 96 = .ok (.lneg, 1) := by decide +kernel
theorem dX6_controls_97 : decode cX6_controls 97 = .ok (.lload 5, 2) := by decide +kernel
theorem dX6_controls_99 : decode cX6_controls 99 = .ok (.lneg, 1) := by decide +kernel
theorem dX6_controls_100 : decode cX6_controls 100 = .ok (.invokestatic 123, 3) := by decide +kernel
theorem dX6_controls_103 : decode cX6_controls 103 = .ok (.goto 10, 3) := by decide +kernel
theorem dX6_controls_106 : decode cX6_controls 106 = .ok (.lload 7, 2) := by decide +kernel
theorem dX6_controls_108 : decode cX6_controls 108 = .ok (.lload 5, 2) := by decide +kernel
theorem dX6_controls_110 : decode cX6_controls 110 = .ok (.invokestatic 123, 3) := by decide +kernel
theorem dX6_controls_113 : decode cX6_controls 113 = .ok (.lstore 9, 2) := by decide +kernel
theorem dX6_controls_115 : decode cX6_controls 115 = .ok (.lload 9, 2) := by decide +kernel
theorem dX6_controls_117 : decode cX6_controls 117 = .ok (.aload_n 0, 1) := by decide +kernel
theorem dX6_controls_118 : decode cX6_controls 118 = .ok (.getfield 7, 3) := by decide +kernel
theorem dX6_controls_121 : decode cX6_controls 121 = .ok (.bipush 25, 2) := by decide +kernel
theorem dX6_controls_123 : decode cX6_controls 123 = .ok (.laload, 1) := by decide +kernel
theorem dX6_controls_124 : decode cX6_controls 124 = .ok (.ldc2_w 37, 3) := by decide +kernel
theorem dX6_controls_127 : decode cX6_controls 127 = .ok (.lrem, 1) := by decide +kernel
theorem dX6_controls_128 : decode cX6_controls 128 = .ok (.lconst 0, 1) := by decide +kernel
theorem dX6_controls_129 : decode cX6_controls 129 = .ok (.lcmp, 1) := by decide +kernel
theorem dX6_controls_130 : decode cX6_controls 130 = .ok (.ifCond .ne 12, 3) := by decide +kernel
theorem dX6_controls_133 : decode cX6_controls 133 = .ok (.aload_n 0, 1) := by decide +kernel
theorem dX6_controls_134 : decode cX6_controls 134 = .ok (.getfield 7, 3) := by decide +kernel
theorem dX6_controls_137 : decode cX6_controls 137 = .ok (.iconst 5, 1) := by decide +kernel
theorem dX6_controls_138 : decode cX6_controls 138 = .ok (.laload, 1) := by decide +kernel
theorem dX6_controls_139 : decode cX6_controls 139 = .ok (.goto 10, 3) := by decide +kernel
theorem dX6_controls_142 : decode cX6_controls 142 = .ok (.aload_n 0, 1) := by decide +kernel
theorem dX6_controls_143 : decode cX6_controls 143 = .ok (.getfield 7, 3) := by decide +kernel
theorem dX6_controls_146 : decode cX6_controls 146 = .ok (.iconst 5, 1) := by decide +kernel
theorem dX6_controls_147 : decode cX6_controls 147 = .ok (.laload, 1) := by decide +kernel
theorem dX6_controls_148 : decode cX6_controls 148 = .ok (.lneg, 1) := by decide +kernel
theorem dX6_controls_149 : decode cX6_controls 149 = .ok (.ladd, 1) := by decide +kernel
theorem dX6_controls_150 : decode cX6_controls 150 = .ok (.lstore 9, 2) := by decide +kernel
theorem dX6_controls_152 : decode cX6_controls 152 = .ok (.lload 9, 2) := by decide +kernel
theorem dX6_controls_154 : decode cX6_controls 154 = .ok (.aload_n 0, 1) := by decide +kernel
theorem dX6_controls_155 : decode cX6_controls 155 = .ok (.getfield 7, 3) := by decide +kernel
theorem dX6_controls_158 : decode cX6_controls 158 = .ok (.iconst 4, 1) := by decide +kernel
theorem dX6_controls_159 : decode cX6_controls 159 = .ok (.laload, 1) := by decide +kernel
theorem dX6_controls_160 : decode cX6_controls 160 = .ok (.lneg, 1) := by decide +kernel
theorem dX6_controls_161 : decode cX6_controls 161 = .ok (.aload_n 0, 1) := by decide +kernel
theorem dX6_controls_162 : decode cX6_controls 162 = .ok (.getfield 7, 3) := by decide +kernel
theorem dX6_controls_165 : decode cX6_controls 165 = .ok (.iconst 4, 1) := by decide +kernel
theorem dX6_controls_166 : decode cX6_controls 166 = .ok (.laload, 1) := by decide +kernel
theorem dX6_controls_167 : decode cX6_controls 167 = .ok (.invokestatic 90, 3) := by decide +kernel
theorem dX6_controls_170 : decode cX6_controls 170 = .ok (.lreturn, 1) := by decide +kernel
set_option maxRecDepth 20000 in
theorem ggX6_control_X6_isSignal : GoodIn wsX6_control wsX6_isSignal := goodIn_r _ [4, 5, 6, 7, 8, 3, 9] (by decide +kernel) (by decide +kernel)
set_option maxRecDepth 20000 in
theorem gX6_control_X6_isSignal : GoodIn wsX6_control (va_wsS RX6 106 yX6_isSignal wsX6_isSignal) := goodIn_app (goodIn_of _ (by decide +kernel)) ggX6_control_X6_isSignal
set_option maxRecDepth 20000 in
theorem ggX6_control_X6_goes : GoodIn wsX6_control wsX6_goes := goodIn_r _ [13, 14, 28, 29, 30, 31, 32, 33, 34, 35, 36, 37, 38, 39, 40] (by decide +kernel) (by decide +kernel)
set_option maxRecDepth 20000 in
theorem gX6_control_X6_goes : GoodIn wsX6_control (wsV RX6 83 RX6 yX6_goes wsX6_goes) := goodIn_app (goodIn_of _ (by decide +kernel)) ggX6_control_X6_goes
set_option maxRecDepth 20000 in
theorem ggX6_control_X6_controls : GoodIn wsX6_control wsX6_controls := goodIn_r _ [18, 19, 20, 21, 7, 8, 3, 9, 22, 23, 24, 25, 26, 27, 28, 29, 30, 31, 32, 33, 34, 35, 36, 37, 38, 39, 40] (by decide +kernel) (by decide +kernel)
set_option maxRecDepth 20000 in
theorem gX6_control_X6_controls : GoodIn wsX6_control (wsV RX6 174 RX6 yX6_controls wsX6_controls) := goodIn_app (goodIn_of _ (by decide +kernel)) ggX6_control_X6_controls
theorem dX6_control_0 : decode cX6_control 0 = .ok (.aload_n 0, 1) := by decide +kernel
theorem dX6_control_1 : decode cX6_control 1 = .ok (.iload_n 1, 1) := by decide +kernel
theorem dX6_control_2 : decode cX6_control 2 = .ok (.i2l, 1) := by decide +kernel
theorem dX6_control_3 : decode cX6_control 3 = .ok (.invokestatic 106, 3) := by decide +kernel
theorem dX6_control_6 : decode cX6_control 6 = .ok (.ifCond .eq 15, 3) := by decide +kernel
theorem dX6_control_9 : decode cX6_control 9 = .ok (.iload_n 2, 1) := by decide +kernel
theorem dX6_control_10 : decode cX6_control 10 = .ok (.i2l, 1) := by decide +kernel
theorem dX6_control_11 : decode cX6_control 11 = .ok (.invokestatic 106, 3) := by decide +kernel
theorem dX6_control_14 : decode cX6_control 14 = .ok (.ifCond .eq 7, 3) := by decide +kernel
theorem dX6_control_17 : decode cX6_control 17 = .ok (.iconst 1, 1) := by decide +kernel
theorem dX6_control_18 : decode cX6_control 18 = .ok (.goto 4, 3) := by decide +kernel
theorem dX6_control_21 : decode cX6_control 21 = .ok (.iconst 0, 1) := by decide +kernel
theorem dX6_control_22 : decode cX6_control 22 = .ok (.iconst 1, 1) := by decide +kernel
theorem dX6_control_23 : decode cX6_control 23 = .ok (.invokevirtual 83, 3) := by decide +kernel
theorem dX6_control_26 : decode cX6_control 26 = .ok (.ifCond .eq 15, 3) := by decide +kernel
theorem dX6_control_29 : decode cX6_control 29 = .ok (.aload_n 0, 1) := by decide +kernel
theorem dX6_control_30 : decode cX6_control 30 = .ok (.iload_n 1, 1) := by decide +kernel
theorem dX6_control_31 : decode cX6_control 31 = .ok (.i2l, 1) := by decide +kernel
theorem dX6_control_32 : decode cX6_control 32 = .ok (.iload_n 2, 1) := by decide +kernel
theorem dX6_control_33 : decode cX6_control 33 = .ok (.i2l, 1) := by decide +kernel
theorem dX6_control_34 : decode cX6_control 34 = .ok (.invokevirtual 174, 3) := by decide +kernel
theorem dX6_control_37 : decode cX6_control 37 = .ok (.l2i, 1) := by decide +kernel
theorem dX6_control_38 : decode cX6_control 38 = .ok (.goto 4, 3) := by decide +kernel
theorem dX6_control_41 : decode cX6_control 41 = .ok (.iconst 0, 1) := by decide +kernel
theorem dX6_control_42 : decode cX6_control 42 = .ok (.ireturn, 1) := by decide +kernel
set_option maxRecDepth 20000 in
theorem ggX6_steps_X6_floor : GoodIn wsX6_steps wsX6_floor := goodIn_r _ [13] (by decide +kernel) (by decide +kernel)
set_option maxRecDepth 20000 in
theorem gX6_steps_X6_floor : GoodIn wsX6_steps (va_wsS RX6 123 yX6_floor wsX6_floor) := goodIn_app (goodIn_of _ (by decide +kernel)) ggX6_steps_X6_floor
set_option maxRecDepth 20000 in
theorem ggX6_steps_X6_within : GoodIn wsX6_steps wsX6_within := goodIn_r _ [16] (by decide +kernel) (by decide +kernel)
set_option maxRecDepth 20000 in
theorem gX6_steps_X6_within : GoodIn wsX6_steps (va_wsS RX6 90 yX6_within wsX6_within) := goodIn_app (goodIn_of _ (by decide +kernel)) ggX6_steps_X6_within
set_option maxRecDepth 20000 in
theorem ggX6_steps_X6_takes : GoodIn wsX6_steps wsX6_takes := goodIn_r _ [20, 5, 1, 21, 22, 23, 24, 25, 26, 27, 28, 29, 12, 30, 31, 32, 33, 34, 35, 36, 37, 38, 39, 40, 41, 42, 43, 44, 45, 46, 47, 48, 49, 50, 51, 10, 11, 13, 14, 15, 16, 52, 53, 54, 55, 56, 57, 58, 59, 60, 61, 62, 63, 64, 65, 66, 67, 68, 69, 70, 71, 72, 73, 74, 75, 76, 77, 78, 79] (by decide +kernel) (by decide +kernel)
set_option maxRecDepth 20000 in
theorem gX6_steps_X6_takes : GoodIn wsX6_steps (wsV RX6 159 RX6 yX6_takes wsX6_takes) := goodIn_app (goodIn_of _ (by decide +kernel)) ggX6_steps_X6_takes
theorem dX6_steps_0 : decode cX6_steps 0 = .ok (.aload_n 0, 1) := by decide +kernel
theorem dX6_steps_1 : decode cX6_steps 1 = .ok (.getfield 7, 3) := by decide +kernel
theorem dX6_steps_4 : decode cX6_steps 4 = .ok (.bipush 35, 2) := by decide +kernel
theorem dX6_steps_6 : decode cX6_steps 6 = .ok (.laload, 1) := by decide +kernel
theorem dX6_steps_7 : decode cX6_steps 7 = .ok (.lstore_n 3, 1) := by decide +kernel
theorem dX6_steps_8 : decode cX6_steps 8 = .ok (.aload_n 0, 1) := by decide +kernel
theorem dX6_steps_9 : decode cX6_steps 9 = .ok (.getfield 7, 3) := by decide +kernel
theorem dX6_steps_12 : decode cX6_steps 12 = .ok (.bipush 34, 2) := by decide +kernel
theorem dX6_steps_14 : decode cX6_steps 14 = .ok (.ldc2_w 177, 3) := by decide +kernel
theorem dX6_steps_17 : decode cX6_steps 17 = .ok (.aload_n 0, 1) := by decide +kernel
theorem dX6_steps_18 : decode cX6_steps 18 = .ok (.getfield 7, 3) := by decide +kernel
theorem dX6_steps_21 : decode cX6_steps 21 = .ok (.bipush 34, 2) := by decide +kernel
theorem dX6_steps_23 : decode cX6_steps 23 = .ok (.laload, 1) := by decide +kernel
theorem dX6_steps_24 : decode cX6_steps 24 = .ok (.lmul, 1) := by decide +kernel
theorem dX6_steps_25 : decode cX6_steps 25 = .ok (.ldc2_w 179, 3) := by decide +kernel
theorem dX6_steps_28 : decode cX6_steps 28 = .ok (.ladd, 1) := by decide +kernel
theorem dX6_steps_29 : decode cX6_steps 29 = .ok (.ldc2_w 181, 3) := by decide +kernel
theorem dX6_steps_32 : decode cX6_steps 32 = .ok (.lrem, 1) := by decide +kernel
theorem dX6_steps_33 : decode cX6_steps 33 = .ok (.lastore, 1) := by decide +kernel
theorem dX6_steps_34 : decode cX6_steps 34 = .ok (.aload_n 0, 1) := by decide +kernel
theorem dX6_steps_35 : decode cX6_steps 35 = .ok (.getfield 7, 3) := by decide +kernel
theorem dX6_steps_38 : decode cX6_steps 38 = .ok (.bipush 34, 2) := by decide +kernel
theorem dX6_steps_40 : decode cX6_steps 40 = .ok (.laload, 1) := by decide +kernel
theorem dX6_steps_41 : decode cX6_steps 41 = .ok (.ldc2_w 71, 3) := by decide +kernel
theorem dX6_steps_44 : decode cX6_steps 44 = .ok (.ldiv, 1) := by decide +kernel
theorem dX6_steps_45 : decode cX6_steps 45 = .ok (.ldc2_w 37, 3) := by decide +kernel
theorem dX6_steps_48 : decode cX6_steps 48 = .ok (.aload_n 0, 1) := by decide +kernel
theorem dX6_steps_49 : decode cX6_steps 49 = .ok (.getfield 7, 3) := by decide +kernel
theorem dX6_steps_52 : decode cX6_steps 52 = .ok (.bipush 33, 2) := by decide +kernel
theorem dX6_steps_54 : decode cX6_steps 54 = .ok (.laload, 1) := by decide +kernel
theorem dX6_steps_55 : decode cX6_steps 55 = .ok (.lmul, 1) := by decide +kernel
theorem dX6_steps_56 : decode cX6_steps 56 = .ok (.lconst 1, 1) := by decide +kernel
theorem dX6_steps_57 : decode cX6_steps 57 = .ok (.ladd, 1) := by decide +kernel
theorem dX6_steps_58 : decode cX6_steps 58 = .ok (.lrem, 1) := by decide +kernel
theorem dX6_steps_59 : decode cX6_steps 59 = .ok (.aload_n 0, 1) := by decide +kernel
theorem dX6_steps_60 : decode cX6_steps 60 = .ok (.getfield 7, 3) := by decide +kernel
theorem dX6_steps_63 : decode cX6_steps 63 = .ok (.bipush 33, 2) := by decide +kernel
theorem dX6_steps_65 : decode cX6_steps 65 = .ok (.laload, 1) := by decide +kernel
theorem dX6_steps_66 : decode cX6_steps 66 = .ok (.lsub, 1) := by decide +kernel
theorem dX6_steps_67 : decode cX6_steps 67 = .ok (.lstore 5, 2) := by decide +kernel
theorem dX6_steps_69 : decode cX6_steps 69 = .ok (.aload_n 0, 1) := by decide +kernel
theorem dX6_steps_70 : decode cX6_steps 70 = .ok (.getfield 7, 3) := by decide +kernel
theorem dX6_steps_73 : decode cX6_steps 73 = .ok (.bipush 30, 2) := by decide +kernel
theorem dX6_steps_75 : decode cX6_steps 75 = .ok (.laload, 1) := by decide +kernel
theorem dX6_steps_76 : decode cX6_steps 76 = .ok (.lload_n 3, 1) := by decide +kernel
theorem dX6_steps_77 : decode cX6_steps 77 = .ok (.lmul, 1) := by decide +kernel
theorem dX6_steps_78 : decode cX6_steps 78 = .ok (.aload_n 0, 1) := by decide +kernel
theorem dX6_steps_79 : decode cX6_steps 79 = .ok (.getfield 7, 3) := by decide +kernel
theorem dX6_steps_82 : decode cX6_steps 82 = .ok (.bipush 31, 2) := by decide +kernel
theorem dX6_steps_84 : decode cX6_steps 84 = .ok (.laload, 1) := by decide +kernel
theorem dX6_steps_85 : decode cX6_steps 85 = .ok (.lload_n 1, 1) := by decide +kernel
theorem dX6_steps_86 : decode cX6_steps 86 = .ok (.lmul, 1) := by decide +kernel
theorem dX6_steps_87 : decode cX6_steps 87 = .ok (.ladd, 1) := by decide +kernel
theorem dX6_steps_88 : decode cX6_steps 88 = .ok (.aload_n 0, 1) := by decide +kernel
theorem dX6_steps_89 : decode cX6_steps 89 = .ok (.getfield 7, 3) := by decide +kernel
theorem dX6_steps_92 : decode cX6_steps 92 = .ok (.bipush 32, 2) := by decide +kernel
theorem dX6_steps_94 : decode cX6_steps 94 = .ok (.laload, 1) := by decide +kernel
theorem dX6_steps_95 : decode cX6_steps 95 = .ok (.ladd, 1) := by decide +kernel
theorem dX6_steps_96 : decode cX6_steps 96 = .ok (.ldc2_w 172, 3) := by decide +kernel
theorem dX6_steps_99 : decode cX6_steps 99 = .ok (.invokestatic 123, 3) := by decide +kernel
theorem dX6_steps_102 : decode cX6_steps 102 = .ok (.lload 5, 2) := by decide +kernel
theorem dX6_steps_104 : decode cX6_steps 104 = .ok (.ladd, 1) := by decide +kernel
theorem dX6_steps_105 : decode cX6_steps 105 = .ok (.ldc2_w 61, 3) := by decide +kernel
theorem dX6_steps_108 : decode cX6_steps 108 = .ok (.ldc2_w 63, 3) := by decide +kernel
theorem dX6_steps_111 : decode cX6_steps 111 = .ok (.invokestatic 90, 3) := by decide +kernel
theorem dX6_steps_114 : decode cX6_steps 114 = .ok (.lstore 7, 2) := by decide +kernel
theorem dX6_steps_116 : decode cX6_steps 116 = .ok (.aload_n 0, 1) := by decide +kernel
theorem dX6_steps_117 : decode cX6_steps 117 = .ok (.getfield 7, 3) := by decide +kernel
theorem dX6_steps_120 : decode cX6_steps 120 = .ok (.bipush 35, 2) := by decide +kernel
theorem dX6_steps_122 : decode cX6_steps 122 = .ok (.lload 7, 2) := by decide +kernel
theorem dX6_steps_124 : decode cX6_steps 124 = .ok (.lastore, 1) := by decide +kernel
theorem dX6_steps_125 : decode cX6_steps 125 = .ok (.aload_n 0, 1) := by decide +kernel
theorem dX6_steps_126 : decode cX6_steps 126 = .ok (.lload_n 3, 1) := by decide +kernel
theorem dX6_steps_127 : decode cX6_steps 127 = .ok (.lload_n 1, 1) := by decide +kernel
theorem dX6_steps_128 : decode cX6_steps 128 = .ok (.lload 7, 2) := by decide +kernel
theorem dX6_steps_130 : decode cX6_steps 130 = .ok (.invokevirtual 159, 3) := by decide +kernel
theorem dX6_steps_133 : decode cX6_steps 133 = .ok (.lstore 9, 2) := by decide +kernel
theorem dX6_steps_135 : decode cX6_steps 135 = .ok (.return_, 1) := by decide +kernel
set_option maxRecDepth 20000 in
theorem ggX6_stepsClosed_X6_controls : GoodIn wsX6_stepsClosed wsX6_controls := goodIn_r _ [6, 1, 7, 8, 9, 10, 5, 11, 12, 13, 14, 15, 16, 17, 75, 76, 77, 78, 79, 80, 81, 82, 83, 84, 85, 86, 87] (by decide +kernel) (by decide +kernel)
set_option maxRecDepth 20000 in
theorem gX6_stepsClosed_X6_controls : GoodIn wsX6_stepsClosed (wsV RX6 174 RX6 yX6_controls wsX6_controls) := goodIn_app (goodIn_of _ (by decide +kernel)) ggX6_stepsClosed_X6_controls
set_option maxRecDepth 20000 in
theorem ggX6_stepsClosed_X6_steps : GoodIn wsX6_stepsClosed wsX6_steps := goodIn_r _ [21, 1, 22, 23, 24, 7, 8, 25, 26, 27, 12, 13, 5, 14, 15, 16, 17, 28, 29, 30, 31, 32, 33, 34, 35, 36, 37, 38, 39, 40, 41, 42, 43, 44, 45, 46, 47, 48, 49, 50, 51, 52, 53, 54, 55, 9, 10, 11, 56, 57, 58, 59, 60, 61, 62, 63, 64, 65, 66, 67, 68, 69, 70, 71, 72, 73, 74, 75, 76, 77, 78, 79, 80, 81, 82, 83, 84, 85, 86, 87] (by decide +kernel) (by decide +kernel)
set_option maxRecDepth 20000 in
theorem gX6_stepsClosed_X6_steps : GoodIn wsX6_stepsClosed (wsV RX6 183 RX6 yX6_steps wsX6_steps) := goodIn_app (goodIn_of _ (by decide +kernel)) ggX6_stepsClosed_X6_steps
theorem dX6_stepsClosed_0 : decode cX6_stepsClosed 0 = .ok (.aload_n 0, 1) := by decide +kernel
theorem dX6_stepsClosed_1 : decode cX6_stepsClosed 1 = .ok (.aload_n 0, 1) := by decide +kernel
theorem dX6_stepsClosed_2 : decode cX6_stepsClosed 2 = .ok (.lload_n 1, 1) := by decide +kernel
theorem dX6_stepsClosed_3 : decode cX6_stepsClosed 3 = .ok (.aload_n 0, 1) := by decide +kernel
theorem dX6_stepsClosed_4 : decode cX6_stepsClosed 4 = .ok (.getfield 7, 3) := by decide +kernel
theorem dX6_stepsClosed_7 : decode cX6_stepsClosed 7 = .ok (.bipush 35, 2) := by decide +kernel
theorem dX6_stepsClosed_9 : decode cX6_stepsClosed 9 = .ok (.laload, 1) := by decide +kernel
theorem dX6_stepsClosed_10 : decode cX6_stepsClosed 10 = .ok (.invokevirtual 174, 3) := by decide +kernel
theorem dX6_stepsClosed_13 : decode cX6_stepsClosed 13 = .ok (.invokevirtual 183, 3) := by decide +kernel
theorem dX6_stepsClosed_16 : decode cX6_stepsClosed 16 = .ok (.return_, 1) := by decide +kernel
set_option maxRecDepth 20000 in
theorem ggX6_run_X6_isSignal : GoodIn wsX6_run wsX6_isSignal := goodIn_r _ [6, 7, 8, 9, 10, 5, 11] (by decide +kernel) (by decide +kernel)
set_option maxRecDepth 20000 in
theorem gX6_run_X6_isSignal : GoodIn wsX6_run (va_wsS RX6 106 yX6_isSignal wsX6_isSignal) := goodIn_app (goodIn_of _ (by decide +kernel)) ggX6_run_X6_isSignal
set_option maxRecDepth 20000 in
theorem ggX6_run_X6_in : GoodIn wsX6_run wsX6_in := goodIn_r _ [11] (by decide +kernel) (by decide +kernel)
set_option maxRecDepth 20000 in
theorem gX6_run_X6_in : GoodIn wsX6_run (va_wsS RX6 65 yX6_in wsX6_in) := goodIn_app (goodIn_of _ (by decide +kernel)) ggX6_run_X6_in
set_option maxRecDepth 20000 in
theorem ggX6_run_X6_goes : GoodIn wsX6_run wsX6_goes := goodIn_r _ [15, 16, 94, 95, 96, 97, 98, 99, 100, 101, 102, 103, 104, 105, 106] (by decide +kernel) (by decide +kernel)
set_option maxRecDepth 20000 in
theorem gX6_run_X6_goes : GoodIn wsX6_run (wsV RX6 83 RX6 yX6_goes wsX6_goes) := goodIn_app (goodIn_of _ (by decide +kernel)) ggX6_run_X6_goes
set_option maxRecDepth 20000 in
theorem ggX6_run_X6_save : GoodIn wsX6_run wsX6_save := goodIn_r _ [20, 21, 22, 2, 94, 95, 96, 97, 98, 99, 100, 101, 102, 103, 104, 105, 106] (by decide +kernel) (by decide +kernel)
set_option maxRecDepth 20000 in
theorem gX6_run_X6_save : GoodIn wsX6_run (wsV RX6 87 RX6 yX6_save wsX6_save) := goodIn_app (goodIn_of _ (by decide +kernel)) ggX6_run_X6_save
set_option maxRecDepth 20000 in
theorem ggX6_run_X6_stepsClosed : GoodIn wsX6_run wsX6_stepsClosed := goodIn_r _ [26, 2, 27, 28, 29, 5, 30, 31, 32, 9, 10, 11, 33, 34, 35, 36, 37, 38, 39, 40, 41, 42, 43, 44, 45, 46, 7, 8, 47, 48, 49, 50, 51, 52, 53, 54, 55, 56, 57, 58, 59, 60, 61, 62, 63, 64, 65, 66, 67, 68, 69, 70, 71, 72, 73, 74, 75, 76, 77, 78, 79, 80, 81, 82, 83, 84, 85, 86, 87, 88, 89, 90, 91, 92, 93, 94, 95, 96, 97, 98, 99, 100, 101, 102, 103, 104, 105, 106] (by decide +kernel) (by decide +kernel)
set_option maxRecDepth 20000 in
theorem gX6_run_X6_stepsClosed : GoodIn wsX6_run (wsV RX6 186 RX6 yX6_stepsClosed wsX6_stepsClosed) := goodIn_app (goodIn_of _ (by decide +kernel)) ggX6_run_X6_stepsClosed
theorem dX6_run_0 : decode cX6_run 0 = .ok (.aload_n 0, 1) := by decide +kernel
theorem dX6_run_1 : decode cX6_run 1 = .ok (.iload_n 1, 1) := by decide +kernel
theorem dX6_run_2 : decode cX6_run 2 = .ok (.i2l, 1) := by decide +kernel
theorem dX6_run_3 : decode cX6_run 3 = .ok (.invokestatic 106, 3) := by decide +kernel
theorem dX6_run_6 : decode cX6_run 6 = .ok (.ifCond .eq 19, 3) := by decide +kernel
theorem dX6_run_9 : decode cX6_run 9 = .ok (.iload_n 2, 1) := by decide +kernel
theorem dX6_run_10 : decode cX6_run 10 = .ok (.i2l, 1) := by decide +kernel
theorem dX6_run_11 : decode cX6_run 11 = .ok (.lconst 0, 1) := by decide +kernel
theorem dX6_run_12 : decode cX6_run 12 = .ok (.ldc2_w 41, 3) := by decide +kernel
theorem dX6_run_15 : decode cX6_run 15 = .ok (.invokestatic 65, 3) := by decide +kernel
theorem dX6_run_18 : decode cX6_run 18 = .ok (.ifCond .eq 7, 3) := by decide +kernel
theorem dX6_run_21 : decode cX6_run 21 = .ok (.iconst 1, 1) := by decide +kernel
theorem dX6_run_22 : decode cX6_run 22 = .ok (.goto 4, 3) := by decide +kernel
theorem dX6_run_25 : decode cX6_run 25 = .ok (.iconst 0, 1) := by decide +kernel
theorem dX6_run_26 : decode cX6_run 26 = .ok (.iconst 1, 1) := by decide +kernel
theorem dX6_run_27 : decode cX6_run 27 = .ok (.invokevirtual 83, 3) := by decide +kernel
theorem dX6_run_30 : decode cX6_run 30 = .ok (.ifCond .ne 5, 3) := by decide +kernel
theorem dX6_run_33 : decode cX6_run 33 = .ok (.iconst 0, 1) := by decide +kernel
theorem dX6_run_34 : decode cX6_run 34 = .ok (.ireturn, 1) := by decide +kernel
theorem dX6_run_35 : decode cX6_run 35 = .ok (.aload_n 0, 1) := by decide +kernel
theorem dX6_run_36 : decode cX6_run 36 = .ok (.invokevirtual 87, 3) := by decide +kernel
theorem dX6_run_39 : decode cX6_run 39 = .ok (.iconst 0, 1) := by decide +kernel
theorem dX6_run_40 : decode cX6_run 40 = .ok (.istore_n 3, 1) := by decide +kernel
theorem dX6_run_41 : decode cX6_run 41 = .ok (.iload_n 3, 1) := by decide +kernel
theorem dX6_run_42 : decode cX6_run 42 = .ok (.iload_n 2, 1) := by decide +kernel
theorem dX6_run_43 : decode cX6_run 43 = .ok (.if_icmp .ge 15, 3) := by decide +kernel
theorem dX6_run_46 : decode cX6_run 46 = .ok (.aload_n 0, 1) := by decide +kernel
theorem dX6_run_47 : decode cX6_run 47 = .ok (.iload_n 1, 1) := by decide +kernel
theorem dX6_run_48 : decode cX6_run 48 = .ok (.i2l, 1) := by decide +kernel
theorem dX6_run_49 : decode cX6_run 49 = .ok (.invokevirtual 186, 3) := by decide +kernel
theorem dX6_run_52 : decode cX6_run 52 = .ok (.iinc 3 1, 3) := by decide +kernel
theorem dX6_run_55 : decode cX6_run 55 = .ok (.goto (-14), 3) := by decide +kernel
theorem dX6_run_58 : decode cX6_run 58 = .ok (.aload_n 0, 1) := by decide +kernel
theorem dX6_run_59 : decode cX6_run 59 = .ok (.getfield 7, 3) := by decide +kernel
theorem dX6_run_62 : decode cX6_run 62 = .ok (.bipush 35, 2) := by decide +kernel
theorem dX6_run_64 : decode cX6_run 64 = .ok (.laload, 1) := by decide +kernel
theorem dX6_run_65 : decode cX6_run 65 = .ok (.l2i, 1) := by decide +kernel
theorem dX6_run_66 : decode cX6_run 66 = .ok (.ireturn, 1) := by decide +kernel
set_option maxRecDepth 20000 in
theorem ggX6_drive_X6_isSignal : GoodIn wsX6_drive wsX6_isSignal := goodIn_r _ [6, 7, 8, 9, 10, 5, 11] (by decide +kernel) (by decide +kernel)
set_option maxRecDepth 20000 in
theorem gX6_drive_X6_isSignal : GoodIn wsX6_drive (va_wsS RX6 106 yX6_isSignal wsX6_isSignal) := goodIn_app (goodIn_of _ (by decide +kernel)) ggX6_drive_X6_isSignal
set_option maxRecDepth 20000 in
theorem ggX6_drive_X6_in : GoodIn wsX6_drive wsX6_in := goodIn_r _ [11] (by decide +kernel) (by decide +kernel)
set_option maxRecDepth 20000 in
theorem gX6_drive_X6_in : GoodIn wsX6_drive (va_wsS RX6 65 yX6_in wsX6_in) := goodIn_app (goodIn_of _ (by decide +kernel)) ggX6_drive_X6_in
set_option maxRecDepth 20000 in
theorem ggX6_drive_X6_goes : GoodIn wsX6_drive wsX6_goes := goodIn_r _ [15, 16, 86, 87, 88, 89, 90, 91, 92, 93, 94, 95, 96, 97, 98] (by decide +kernel) (by decide +kernel)
set_option maxRecDepth 20000 in
theorem gX6_drive_X6_goes : GoodIn wsX6_drive (wsV RX6 83 RX6 yX6_goes wsX6_goes) := goodIn_app (goodIn_of _ (by decide +kernel)) ggX6_drive_X6_goes
set_option maxRecDepth 20000 in
theorem ggX6_drive_X6_save : GoodIn wsX6_drive wsX6_save := goodIn_r _ [20, 21, 22, 2, 86, 87, 88, 89, 90, 91, 92, 93, 94, 95, 96, 97, 98] (by decide +kernel) (by decide +kernel)
set_option maxRecDepth 20000 in
theorem gX6_drive_X6_save : GoodIn wsX6_drive (wsV RX6 87 RX6 yX6_save wsX6_save) := goodIn_app (goodIn_of _ (by decide +kernel)) ggX6_drive_X6_save
set_option maxRecDepth 20000 in
theorem ggX6_drive_X6_steps : GoodIn wsX6_drive wsX6_steps := goodIn_r _ [26, 2, 27, 28, 29, 30, 31, 32, 7, 8, 33, 34, 5, 35, 36, 37, 38, 39, 40, 41, 42, 43, 44, 45, 46, 47, 48, 49, 50, 51, 52, 53, 54, 55, 56, 57, 58, 59, 60, 61, 62, 63, 64, 65, 66, 9, 10, 11, 67, 68, 69, 70, 71, 72, 73, 74, 75, 76, 77, 78, 79, 80, 81, 82, 83, 84, 85, 86, 87, 88, 89, 90, 91, 92, 93, 94, 95, 96, 97, 98] (by decide +kernel) (by decide +kernel)
set_option maxRecDepth 20000 in
theorem gX6_drive_X6_steps : GoodIn wsX6_drive (wsV RX6 183 RX6 yX6_steps wsX6_steps) := goodIn_app (goodIn_of _ (by decide +kernel)) ggX6_drive_X6_steps
theorem dX6_drive_0 : decode cX6_drive 0 = .ok (.aload_n 0, 1) := by decide +kernel
theorem dX6_drive_1 : decode cX6_drive 1 = .ok (.iload_n 1, 1) := by decide +kernel
theorem dX6_drive_2 : decode cX6_drive 2 = .ok (.i2l, 1) := by decide +kernel
theorem dX6_drive_3 : decode cX6_drive 3 = .ok (.invokestatic 106, 3) := by decide +kernel
theorem dX6_drive_6 : decode cX6_drive 6 = .ok (.ifCond .eq 19, 3) := by decide +kernel
theorem dX6_drive_9 : decode cX6_drive 9 = .ok (.iload_n 2, 1) := by decide +kernel
theorem dX6_drive_10 : decode cX6_drive 10 = .ok (.i2l, 1) := by decide +kernel
theorem dX6_drive_11 : decode cX6_drive 11 = .ok (.lconst 0, 1) := by decide +kernel
theorem dX6_drive_12 : decode cX6_drive 12 = .ok (.ldc2_w 41, 3) := by decide +kernel
theorem dX6_drive_15 : decode cX6_drive 15 = .ok (.invokestatic 65, 3) := by decide +kernel
theorem dX6_drive_18 : decode cX6_drive 18 = .ok (.ifCond .eq 7, 3) := by decide +kernel
theorem dX6_drive_21 : decode cX6_drive 21 = .ok (.iconst 1, 1) := by decide +kernel
theorem dX6_drive_22 : decode cX6_drive 22 = .ok (.goto 4, 3) := by decide +kernel
theorem dX6_drive_25 : decode cX6_drive 25 = .ok (.iconst 0, 1) := by decide +kernel
theorem dX6_drive_26 : decode cX6_drive 26 = .ok (.iconst 1, 1) := by decide +kernel
theorem dX6_drive_27 : decode cX6_drive 27 = .ok (.invokevirtual 83, 3) := by decide +kernel
theorem dX6_drive_30 : decode cX6_drive 30 = .ok (.ifCond .ne 5, 3) := by decide +kernel
theorem dX6_drive_33 : decode cX6_drive 33 = .ok (.iconst 0, 1) := by decide +kernel
theorem dX6_drive_34 : decode cX6_drive 34 = .ok (.ireturn, 1) := by decide +kernel
theorem dX6_drive_35 : decode cX6_drive 35 = .ok (.aload_n 0, 1) := by decide +kernel
theorem dX6_drive_36 : decode cX6_drive 36 = .ok (.invokevirtual 87, 3) := by decide +kernel
theorem dX6_drive_39 : decode cX6_drive 39 = .ok (.iconst 0, 1) := by decide +kernel
theorem dX6_drive_40 : decode cX6_drive 40 = .ok (.istore_n 3, 1) := by decide +kernel
theorem dX6_drive_41 : decode cX6_drive 41 = .ok (.iload_n 3, 1) := by decide +kernel
theorem dX6_drive_42 : decode cX6_drive 42 = .ok (.iload_n 2, 1) := by decide +kernel
theorem dX6_drive_43 : decode cX6_drive 43 = .ok (.if_icmp .ge 15, 3) := by decide +kernel
theorem dX6_drive_46 : decode cX6_drive 46 = .ok (.aload_n 0, 1) := by decide +kernel
theorem dX6_drive_47 : decode cX6_drive 47 = .ok (.iload_n 1, 1) := by decide +kernel
theorem dX6_drive_48 : decode cX6_drive 48 = .ok (.i2l, 1) := by decide +kernel
theorem dX6_drive_49 : decode cX6_drive 49 = .ok (.invokevirtual 183, 3) := by decide +kernel
theorem dX6_drive_52 : decode cX6_drive 52 = .ok (.iinc 3 1, 3) := by decide +kernel
theorem dX6_drive_55 : decode cX6_drive 55 = .ok (.goto (-14), 3) := by decide +kernel
theorem dX6_drive_58 : decode cX6_drive 58 = .ok (.aload_n 0, 1) := by decide +kernel
theorem dX6_drive_59 : decode cX6_drive 59 = .ok (.getfield 7, 3) := by decide +kernel
theorem dX6_drive_62 : decode cX6_drive 62 = .ok (.bipush 35, 2) := by decide +kernel
theorem dX6_drive_64 : decode cX6_drive 64 = .ok (.laload, 1) := by decide +kernel
theorem dX6_drive_65 : decode cX6_drive 65 = .ok (.l2i, 1) := by decide +kernel
theorem dX6_drive_66 : decode cX6_drive 66 = .ok (.ireturn, 1) := by decide +kernel
theorem dX6_output_0 : decode cX6_output 0 = .ok (.aload_n 0, 1) := by decide +kernel
theorem dX6_output_1 : decode cX6_output 1 = .ok (.iconst 0, 1) := by decide +kernel
theorem dX6_output_2 : decode cX6_output 2 = .ok (.putfield 54, 3) := by decide +kernel
theorem dX6_output_5 : decode cX6_output 5 = .ok (.aload_n 0, 1) := by decide +kernel
theorem dX6_output_6 : decode cX6_output 6 = .ok (.getfield 7, 3) := by decide +kernel
theorem dX6_output_9 : decode cX6_output 9 = .ok (.bipush 35, 2) := by decide +kernel
theorem dX6_output_11 : decode cX6_output 11 = .ok (.laload, 1) := by decide +kernel
theorem dX6_output_12 : decode cX6_output 12 = .ok (.l2i, 1) := by decide +kernel
theorem dX6_output_13 : decode cX6_output 13 = .ok (.ireturn, 1) := by decide +kernel
set_option maxRecDepth 20000 in
theorem ggX6_bias_X6_in : GoodIn wsX6_bias wsX6_in := goodIn_r _ [8] (by decide +kernel) (by decide +kernel)
set_option maxRecDepth 20000 in
theorem gX6_bias_X6_in : GoodIn wsX6_bias (va_wsS RX6 65 yX6_in wsX6_in) := goodIn_app (goodIn_of _ (by decide +kernel)) ggX6_bias_X6_in
set_option maxRecDepth 20000 in
theorem ggX6_bias_X6_goes : GoodIn wsX6_bias wsX6_goes := goodIn_r _ [12, 13, 17, 18, 19, 20, 21, 22, 23, 24, 25, 26, 27, 28, 29] (by decide +kernel) (by decide +kernel)
set_option maxRecDepth 20000 in
theorem gX6_bias_X6_goes : GoodIn wsX6_bias (wsV RX6 83 RX6 yX6_goes wsX6_goes) := goodIn_app (goodIn_of _ (by decide +kernel)) ggX6_bias_X6_goes
set_option maxRecDepth 20000 in
theorem ggX6_bias_X6_floor : GoodIn wsX6_bias wsX6_floor := goodIn_r _ [16] (by decide +kernel) (by decide +kernel)
set_option maxRecDepth 20000 in
theorem gX6_bias_X6_floor : GoodIn wsX6_bias (va_wsS RX6 123 yX6_floor wsX6_floor) := goodIn_app (goodIn_of _ (by decide +kernel)) ggX6_bias_X6_floor
theorem dX6_bias_0 : decode cX6_bias 0 = .ok (.aload_n 0, 1) := by decide +kernel
theorem dX6_bias_1 : decode cX6_bias 1 = .ok (.iload_n 1, 1) := by decide +kernel
theorem dX6_bias_2 : decode cX6_bias 2 = .ok (.i2l, 1) := by decide +kernel
theorem dX6_bias_3 : decode cX6_bias 3 = .ok (.lconst 0, 1) := by decide +kernel
theorem dX6_bias_4 : decode cX6_bias 4 = .ok (.ldc2_w 37, 3) := by decide +kernel
theorem dX6_bias_7 : decode cX6_bias 7 = .ok (.invokestatic 65, 3) := by decide +kernel
theorem dX6_bias_10 : decode cX6_bias 10 = .ok (.iconst 1, 1) := by decide +kernel
theorem dX6_bias_11 : decode cX6_bias 11 = .ok (.invokevirtual 83, 3) := by decide +kernel
theorem dX6_bias_14 : decode cX6_bias 14 = .ok (.ifCond .eq 36, 3) := by decide +kernel
theorem dX6_bias_17 : decode cX6_bias 17 = .ok (.aload_n 0, 1) := by decide +kernel
theorem dX6_bias_18 : decode cX6_bias 18 = .ok (.getfield 7, 3) := by decide +kernel
theorem dX6_bias_21 : decode cX6_bias 21 = .ok (.bipush 13, 2) := by decide +kernel
theorem dX6_bias_23 : decode cX6_bias 23 = .ok (.iload_n 1, 1) := by decide +kernel
theorem dX6_bias_24 : decode cX6_bias 24 = .ok (.iadd, 1) := by decide +kernel
theorem dX6_bias_25 : decode cX6_bias 25 = .ok (.laload, 1) := by decide +kernel
theorem dX6_bias_26 : decode cX6_bias 26 = .ok (.ldc2_w 71, 3) := by decide +kernel
theorem dX6_bias_29 : decode cX6_bias 29 = .ok (.aload_n 0, 1) := by decide +kernel
theorem dX6_bias_30 : decode cX6_bias 30 = .ok (.getfield 7, 3) := by decide +kernel
theorem dX6_bias_33 : decode cX6_bias 33 = .ok (.bipush 30, 2) := by decide +kernel
theorem dX6_bias_35 : decode cX6_bias 35 = .ok (.iload_n 1, 1) := by decide +kernel
theorem dX6_bias_36 : decode cX6_bias 36 = .ok (.iadd, 1) := by decide +kernel
theorem dX6_bias_37 : decode cX6_bias 37 = .ok (.laload, 1) := by decide +kernel
theorem dX6_bias_38 : decode cX6_bias 38 = .ok (.lmul, 1) := by decide +kernel
theorem dX6_bias_39 : decode cX6_bias 39 = .ok (.ldc2_w 172, 3) := by decide +kernel
theorem dX6_bias_42 : decode cX6_bias 42 = .ok (.invokestatic 123, 3) := by decide +kernel
theorem dX6_bias_45 : decode cX6_bias 45 = .ok (.lsub, 1) := by decide +kernel
theorem dX6_bias_46 : decode cX6_bias 46 = .ok (.l2i, 1) := by decide +kernel
theorem dX6_bias_47 : decode cX6_bias 47 = .ok (.goto 4, 3) := by decide +kernel
theorem dX6_bias_50 : decode cX6_bias 50 = .ok (.iconst 0, 1) := by decide +kernel
theorem dX6_bias_51 : decode cX6_bias 51 = .ok (.ireturn, 1) := by decide +kernel
set_option maxRecDepth 20000 in
theorem ggX6_costs_X6_lays : GoodIn wsX6_costs wsX6_lays := goodIn_r _ [6, 7, 1, 88, 89, 90, 91, 92, 93, 94, 95, 96, 97, 98, 99, 100] (by decide +kernel) (by decide +kernel)
set_option maxRecDepth 20000 in
theorem gX6_costs_X6_lays : GoodIn wsX6_costs (wsV RX6 189 RX6 yX6_lays wsX6_lays) := goodIn_app (goodIn_of _ (by decide +kernel)) ggX6_costs_X6_lays
set_option maxRecDepth 20000 in
theorem ggX6_costs_X6_stepsClosed : GoodIn wsX6_costs wsX6_stepsClosed := goodIn_r _ [11, 1, 12, 13, 14, 5, 15, 16, 17, 18, 19, 20, 21, 22, 23, 24, 25, 26, 27, 28, 29, 30, 31, 32, 33, 34, 35, 36, 37, 38, 39, 40, 41, 42, 43, 44, 45, 46, 47, 48, 49, 50, 51, 52, 53, 54, 55, 56, 57, 58, 59, 60, 61, 62, 63, 64, 65, 66, 67, 68, 69, 70, 71, 72, 73, 74, 75, 76, 77, 78, 79, 80, 81, 82, 83, 88, 89, 90, 91, 92, 93, 94, 95, 96, 97, 98, 99, 100] (by decide +kernel) (by decide +kernel)
set_option maxRecDepth 20000 in
theorem gX6_costs_X6_stepsClosed : GoodIn wsX6_costs (wsV RX6 186 RX6 yX6_stepsClosed wsX6_stepsClosed) := goodIn_app (goodIn_of _ (by decide +kernel)) ggX6_costs_X6_stepsClosed
set_option maxRecDepth 20000 in
theorem ggX6_costs_X6_takesBack : GoodIn wsX6_costs wsX6_takesBack := goodIn_r _ [87, 1, 7, 88, 89, 90, 91, 92, 93, 94, 95, 96, 97, 98, 99, 100] (by decide +kernel) (by decide +kernel)
set_option maxRecDepth 20000 in
theorem gX6_costs_X6_takesBack : GoodIn wsX6_costs (wsV RX6 192 RX6 yX6_takesBack wsX6_takesBack) := goodIn_app (goodIn_of _ (by decide +kernel)) ggX6_costs_X6_takesBack
theorem dX6_costs_0 : decode cX6_costs 0 = .ok (.aload_n 0, 1) := by decide +kernel
theorem dX6_costs_1 : decode cX6_costs 1 = .ok (.invokevirtual 189, 3) := by decide +kernel
theorem dX6_costs_4 : decode cX6_costs 4 = .ok (.aload_n 0, 1) := by decide +kernel
theorem dX6_costs_5 : decode cX6_costs 5 = .ok (.getfield 7, 3) := by decide +kernel
theorem dX6_costs_8 : decode cX6_costs 8 = .ok (.iconst 5, 1) := by decide +kernel
theorem dX6_costs_9 : decode cX6_costs 9 = .ok (.lload 4, 2) := by decide +kernel
theorem dX6_costs_11 : decode cX6_costs 11 = .ok (.lastore, 1) := by decide +kernel
theorem dX6_costs_12 : decode cX6_costs 12 = .ok (.lconst 0, 1) := by decide +kernel
theorem dX6_costs_13 : decode cX6_costs 13 = .ok (.lstore 6, 2) := by decide +kernel
theorem dX6_costs_15 : decode cX6_costs 15 = .ok (.iconst 0, 1) := by decide +kernel
theorem dX6_costs_16 : decode cX6_costs 16 = .ok (.istore 8, 2) := by decide +kernel
theorem dX6_costs_18 : decode cX6_costs 18 = .ok (.iload 8, 2) := by decide +kernel
theorem dX6_costs_20 : decode cX6_costs 20 = .ok (.iload_n 3, 1) := by decide +kernel
theorem dX6_costs_21 : decode cX6_costs 21 = .ok (.if_icmp .ge 45, 3) := by decide +kernel
theorem dX6_costs_24 : decode cX6_costs 24 = .ok (.aload_n 0, 1) := by decide +kernel
theorem dX6_costs_25 : decode cX6_costs 25 = .ok (.lload_n 1, 1) := by decide +kernel
theorem dX6_costs_26 : decode cX6_costs 26 = .ok (.invokevirtual 186, 3) := by decide +kernel
theorem dX6_costs_29 : decode cX6_costs 29 = .ok (.lload_n 1, 1) := by decide +kernel
theorem dX6_costs_30 : decode cX6_costs 30 = .ok (.aload_n 0, 1) := by decide +kernel
theorem dX6_costs_31 : decode cX6_costs 31 = .ok (.getfield 7, 3) := by decide +kernel
theorem dX6_costs_34 : decode cX6_costs 34 = .ok (.bipush 35, 2) := by decide +kernel
theorem dX6_costs_36 : decode cX6_costs 36 = .ok (.laload, 1) := by decide +kernel
theorem dX6_costs_37 : decode cX6_costs 37 = .ok (.lsub, 1) := by decide +kernel
theorem dX6_costs_38 : decode cX6_costs 38 = .ok (.lstore 9, 2) := by decide +kernel
theorem dX6_costs_40 : decode cX6_costs 40 = .ok (.lload 6, 2) := by decide +kernel
theorem dX6_costs_42 : decode cX6_costs 42 = .ok (.lload 9, 2) := by decide +kernel
theorem dX6_costs_44 : decode cX6_costs 44 = .ok (.lconst 0, 1) := by decide +kernel
theorem dX6_costs_45 : decode cX6_costs 45 = .ok (.lcmp, 1) := by decide +kernel
theorem dX6_costs_46 : decode cX6_costs 46 = .ok (.ifCond .ge 9, 3) := by decide +kernel
theorem dX6_costs_49 : decode cX6_costs 49 = .ok (.lload 9, 2) := by decide +kernel
theorem dX6_costs_51 : decode cX6_costs 51 = .ok (.lneg, 1) := by decide +kernel
theorem dX6_costs_52 : decode cX6_costs 52 = .ok (.goto 5, 3) := by decide +kernel
theorem dX6_costs_55 : decode cX6_costs 55 = .ok (.lload 9, 2) := by decide +kernel
theorem dX6_costs_57 : decode cX6_costs 57 = .ok (.ladd, 1) := by decide +kernel
theorem dX6_costs_58 : decode cX6_costs 58 = .ok (.lstore 6, 2) := by decide +kernel
theorem dX6_costs_60 : decode cX6_costs 60 = .ok (.iinc 8 1, 3) := by decide +kernel
theorem dX6_costs_63 : decode cX6_costs 63 = .ok (.goto (-45), 3) := by decide +kernel
theorem dX6_costs_66 : decode cX6_costs 66 = .ok (.aload_n 0, 1) := by decide +kernel
theorem dX6_costs_67 : decode cX6_costs 67 = .ok (.invokevirtual 192, 3) := by decide +kernel
theorem dX6_costs_70 : decode cX6_costs 70 = .ok (.lload 6, 2) := by decide +kernel
theorem dX6_costs_72 : decode cX6_costs 72 = .ok (.lreturn, 1) := by decide +kernel
set_option maxRecDepth 20000 in
theorem ggX6_costOf_X6_isSignal : GoodIn wsX6_costOf wsX6_isSignal := goodIn_r _ [6, 7, 8, 9, 10, 5, 11] (by decide +kernel) (by decide +kernel)
set_option maxRecDepth 20000 in
theorem gX6_costOf_X6_isSignal : GoodIn wsX6_costOf (va_wsS RX6 106 yX6_isSignal wsX6_isSignal) := goodIn_app (goodIn_of _ (by decide +kernel)) ggX6_costOf_X6_isSignal
set_option maxRecDepth 20000 in
theorem ggX6_costOf_X6_in : GoodIn wsX6_costOf wsX6_in := goodIn_r _ [11] (by decide +kernel) (by decide +kernel)
set_option maxRecDepth 20000 in
theorem gX6_costOf_X6_in : GoodIn wsX6_costOf (va_wsS RX6 65 yX6_in wsX6_in) := goodIn_app (goodIn_of _ (by decide +kernel)) ggX6_costOf_X6_in
set_option maxRecDepth 20000 in
theorem ggX6_costOf_X6_goes : GoodIn wsX6_costOf wsX6_goes := goodIn_r _ [15, 16, 101, 102, 103, 104, 105, 106, 107, 108, 109, 110, 111, 112, 113] (by decide +kernel) (by decide +kernel)
set_option maxRecDepth 20000 in
theorem gX6_costOf_X6_goes : GoodIn wsX6_costOf (wsV RX6 83 RX6 yX6_goes wsX6_goes) := goodIn_app (goodIn_of _ (by decide +kernel)) ggX6_costOf_X6_goes
set_option maxRecDepth 20000 in
theorem ggX6_costOf_X6_costs : GoodIn wsX6_costOf wsX6_costs := goodIn_r _ [20, 2, 21, 22, 23, 5, 24, 25, 26, 27, 28, 29, 30, 31, 32, 33, 34, 35, 9, 10, 11, 36, 37, 38, 39, 40, 41, 42, 43, 44, 45, 46, 47, 48, 49, 7, 8, 50, 51, 52, 53, 54, 55, 56, 57, 58, 59, 60, 61, 62, 63, 64, 65, 66, 67, 68, 69, 70, 71, 72, 73, 74, 75, 76, 77, 78, 79, 80, 81, 82, 83, 84, 85, 86, 87, 88, 89, 90, 91, 92, 93, 94, 95, 96, 97, 98, 99, 100, 101, 102, 103, 104, 105, 106, 107, 108, 109, 110, 111, 112, 113] (by decide +kernel) (by decide +kernel)
set_option maxRecDepth 20000 in
theorem gX6_costOf_X6_costs : GoodIn wsX6_costOf (wsV RX6 195 RX6 yX6_costs wsX6_costs) := goodIn_app (goodIn_of _ (by decide +kernel)) ggX6_costOf_X6_costs
theorem dX6_costOf_0 : decode cX6_costOf 0 = .ok (.aload_n 0, 1) := by decide +kernel
theorem dX6_costOf_1 : decode cX6_costOf 1 = .ok (.iload_n 1, 1) := by decide +kernel
theorem dX6_costOf_2 : decode cX6_costOf 2 = .ok (.i2l, 1) := by decide +kernel
theorem dX6_costOf_3 : decode cX6_costOf 3 = .ok (.invokestatic 106, 3) := by decide +kernel
theorem dX6_costOf_6 : decode cX6_costOf 6 = .ok (.ifCond .eq 19, 3) := by decide +kernel
theorem dX6_costOf_9 : decode cX6_costOf 9 = .ok (.iload_n 2, 1) := by decide +kernel
theorem dX6_costOf_10 : decode cX6_costOf 10 = .ok (.i2l, 1) := by decide +kernel
theorem dX6_costOf_11 : decode cX6_costOf 11 = .ok (.lconst 0, 1) := by decide +kernel
theorem dX6_costOf_12 : decode cX6_costOf 12 = .ok (.ldc2_w 41, 3) := by decide +kernel
theorem dX6_costOf_15 : decode cX6_costOf 15 = .ok (.invokestatic 65, 3) := by decide +kernel
theorem dX6_costOf_18 : decode cX6_costOf 18 = .ok (.ifCond .eq 7, 3) := by decide +kernel
theorem dX6_costOf_21 : decode cX6_costOf 21 = .ok (.iconst 1, 1) := by decide +kernel
theorem dX6_costOf_22 : decode cX6_costOf 22 = .ok (.goto 4, 3) := by decide +kernel
theorem dX6_costOf_25 : decode cX6_costOf 25 = .ok (.iconst 0, 1) := by decide +kernel
theorem dX6_costOf_26 : decode cX6_costOf 26 = .ok (.iconst 1, 1) := by decide +kernel
theorem dX6_costOf_27 : decode cX6_costOf 27 = .ok (.invokevirtual 83, 3) := by decide +kernel
theorem dX6_costOf_30 : decode cX6_costOf 30 = .ok (.ifCond .eq 19, 3) := by decide +kernel
theorem dX6_costOf_33 : decode cX6_costOf 33 = .ok (.aload_n 0, 1) := by decide +kernel
theorem dX6_costOf_34 : decode cX6_costOf 34 = .ok (.iload_n 1, 1) := by decide +kernel
theorem dX6_costOf_35 : decode cX6_costOf 35 = .ok (.i2l, 1) := by decide +kernel
theorem dX6_costOf_36 : decode cX6_costOf 36 = .ok (.iload_n 2, 1) := by decide +kernel
theorem dX6_costOf_37 : decode cX6_costOf 37 = .ok (.aload_n 0, 1) := by decide +kernel
theorem dX6_costOf_38 : decode cX6_costOf 38 = .ok (.getfield 7, 3) := by decide +kernel
theorem dX6_costOf_41 : decode cX6_costOf 41 = .ok (.iconst 5, 1) := by decide +kernel
theorem dX6_costOf_42 : decode cX6_costOf 42 = .ok (.laload, 1) := by decide +kernel
theorem dX6_costOf_43 : decode cX6_costOf 43 = .ok (.invokevirtual 195, 3) := by decide +kernel
theorem dX6_costOf_46 : decode cX6_costOf 46 = .ok (.goto 4, 3) := by decide +kernel
theorem dX6_costOf_49 : decode cX6_costOf 49 = .ok (.lconst 0, 1) := by decide +kernel
theorem dX6_costOf_50 : decode cX6_costOf 50 = .ok (.lreturn, 1) := by decide +kernel
set_option maxRecDepth 20000 in
theorem ggX6_settling_X6_isSignal : GoodIn wsX6_settling wsX6_isSignal := goodIn_r _ [6, 7, 8, 9, 10, 5, 11] (by decide +kernel) (by decide +kernel)
set_option maxRecDepth 20000 in
theorem gX6_settling_X6_isSignal : GoodIn wsX6_settling (va_wsS RX6 106 yX6_isSignal wsX6_isSignal) := goodIn_app (goodIn_of _ (by decide +kernel)) ggX6_settling_X6_isSignal
set_option maxRecDepth 20000 in
theorem ggX6_settling_X6_in : GoodIn wsX6_settling wsX6_in := goodIn_r _ [11] (by decide +kernel) (by decide +kernel)
set_option maxRecDepth 20000 in
theorem gX6_settling_X6_in : GoodIn wsX6_settling (va_wsS RX6 65 yX6_in wsX6_in) := goodIn_app (goodIn_of _ (by decide +kernel)) ggX6_settling_X6_in
set_option maxRecDepth 20000 in
theorem ggX6_settling_X6_goes : GoodIn wsX6_settling wsX6_goes := goodIn_r _ [15, 16, 97, 98, 99, 100, 101, 102, 103, 104, 105, 106, 107, 108, 109] (by decide +kernel) (by decide +kernel)
set_option maxRecDepth 20000 in
theorem gX6_settling_X6_goes : GoodIn wsX6_settling (wsV RX6 83 RX6 yX6_goes wsX6_goes) := goodIn_app (goodIn_of _ (by decide +kernel)) ggX6_settling_X6_goes
set_option maxRecDepth 20000 in
theorem ggX6_settling_X6_lays : GoodIn wsX6_settling wsX6_lays := goodIn_r _ [20, 21, 2, 97, 98, 99, 100, 101, 102, 103, 104, 105, 106, 107, 108, 109] (by decide +kernel) (by decide +kernel)
set_option maxRecDepth 20000 in
theorem gX6_settling_X6_lays : GoodIn wsX6_settling (wsV RX6 189 RX6 yX6_lays wsX6_lays) := goodIn_app (goodIn_of _ (by decide +kernel)) ggX6_settling_X6_lays
set_option maxRecDepth 20000 in
theorem ggX6_settling_X6_stepsClosed : GoodIn wsX6_settling wsX6_stepsClosed := goodIn_r _ [25, 2, 26, 27, 28, 5, 29, 30, 31, 9, 10, 11, 32, 33, 34, 35, 36, 37, 38, 39, 40, 41, 42, 43, 44, 45, 7, 8, 46, 47, 48, 49, 50, 51, 52, 53, 54, 55, 56, 57, 58, 59, 60, 61, 62, 63, 64, 65, 66, 67, 68, 69, 70, 71, 72, 73, 74, 75, 76, 77, 78, 79, 80, 81, 82, 83, 84, 85, 86, 87, 88, 89, 90, 91, 92, 97, 98, 99, 100, 101, 102, 103, 104, 105, 106, 107, 108, 109] (by decide +kernel) (by decide +kernel)
set_option maxRecDepth 20000 in
theorem gX6_settling_X6_stepsClosed : GoodIn wsX6_settling (wsV RX6 186 RX6 yX6_stepsClosed wsX6_stepsClosed) := goodIn_app (goodIn_of _ (by decide +kernel)) ggX6_settling_X6_stepsClosed
set_option maxRecDepth 20000 in
theorem ggX6_settling_X6_takesBack : GoodIn wsX6_settling wsX6_takesBack := goodIn_r _ [96, 2, 21, 97, 98, 99, 100, 101, 102, 103, 104, 105, 106, 107, 108, 109] (by decide +kernel) (by decide +kernel)
set_option maxRecDepth 20000 in
theorem gX6_settling_X6_takesBack : GoodIn wsX6_settling (wsV RX6 192 RX6 yX6_takesBack wsX6_takesBack) := goodIn_app (goodIn_of _ (by decide +kernel)) ggX6_settling_X6_takesBack
theorem dX6_settling_0 : decode cX6_settling 0 = .ok (.aload_n 0, 1) := by decide +kernel
theorem dX6_settling_1 : decode cX6_settling 1 = .ok (.iload_n 1, 1) := by decide +kernel
theorem dX6_settling_2 : decode cX6_settling 2 = .ok (.i2l, 1) := by decide +kernel
theorem dX6_settling_3 : decode cX6_settling 3 = .ok (.invokestatic 106, 3) := by decide +kernel
theorem dX6_settling_6 : decode cX6_settling 6 = .ok (.ifCond .eq 19, 3) := by decide +kernel
theorem dX6_settling_9 : decode cX6_settling 9 = .ok (.iload_n 2, 1) := by decide +kernel
theorem dX6_settling_10 : decode cX6_settling 10 = .ok (.i2l, 1) := by decide +kernel
theorem dX6_settling_11 : decode cX6_settling 11 = .ok (.lconst 0, 1) := by decide +kernel
theorem dX6_settling_12 : decode cX6_settling 12 = .ok (.ldc2_w 41, 3) := by decide +kernel
theorem dX6_settling_15 : decode cX6_settling 15 = .ok (.invokestatic 65, 3) := by decide +kernel
theorem dX6_settling_18 : decode cX6_settling 18 = .ok (.ifCond .eq 7, 3) := by decide +kernel
theorem dX6_settling_21 : decode cX6_settling 21 = .ok (.iconst 1, 1) := by decide +kernel
theorem dX6_settling_22 : decode cX6_settling 22 = .ok (.goto 4, 3) := by decide +kernel
theorem dX6_settling_25 : decode cX6_settling 25 = .ok (.iconst 0, 1) := by decide +kernel
theorem dX6_settling_26 : decode cX6_settling 26 = .ok (.iconst 1, 1) := by decide +kernel
theorem dX6_settling_27 : decode cX6_settling 27 = .ok (.invokevirtual 83, 3) := by decide +kernel
theorem dX6_settling_30 : decode cX6_settling 30 = .ok (.ifCond .ne 5, 3) := by decide +kernel
theorem dX6_settling_33 : decode cX6_settling 33 = .ok (.iconst 0, 1) := by decide +kernel
theorem dX6_settling_34 : decode cX6_settling 34 = .ok (.ireturn, 1) := by decide +kernel
theorem dX6_settling_35 : decode cX6_settling 35 = .ok (.aload_n 0, 1) := by decide +kernel
theorem dX6_settling_36 : decode cX6_settling 36 = .ok (.invokevirtual 189, 3) := by decide +kernel
theorem dX6_settling_39 : decode cX6_settling 39 = .ok (.iconst 0, 1) := by decide +kernel
theorem dX6_settling_40 : decode cX6_settling 40 = .ok (.istore_n 3, 1) := by decide +kernel
theorem dX6_settling_41 : decode cX6_settling 41 = .ok (.iconst 0, 1) := by decide +kernel
theorem dX6_settling_42 : decode cX6_settling 42 = .ok (.istore 4, 2) := by decide +kernel
theorem dX6_settling_44 : decode cX6_settling 44 = .ok (.iload_n 3, 1) := by decide +kernel
theorem dX6_settling_45 : decode cX6_settling 45 = .ok (.iconst 5, 1) := by decide +kernel
theorem dX6_settling_46 : decode cX6_settling 46 = .ok (.if_icmp .ge 52, 3) := by decide +kernel
theorem dX6_settling_49 : decode cX6_settling 49 = .ok (.iload 4, 2) := by decide +kernel
theorem dX6_settling_51 : decode cX6_settling 51 = .ok (.sipush 500, 3) := by decide +kernel
theorem dX6_settling_54 : decode cX6_settling 54 = .ok (.if_icmp .ge 44, 3) := by decide +kernel
theorem dX6_settling_57 : decode cX6_settling 57 = .ok (.aload_n 0, 1) := by decide +kernel
theorem dX6_settling_58 : decode cX6_settling 58 = .ok (.iload_n 1, 1) := by decide +kernel
theorem dX6_settling_59 : decode cX6_settling 59 = .ok (.i2l, 1) := by decide +kernel
theorem dX6_settling_60 : decode cX6_settling 60 = .ok (.invokevirtual 186, 3) := by decide +kernel
theorem dX6_settling_63 : decode cX6_settling 63 = .ok (.iinc 4 1, 3) := by decide +kernel
theorem dX6_settling_66 : decode cX6_settling 66 = .ok (.aload_n 0, 1) := by decide +kernel
theorem dX6_settling_67 : decode cX6_settling 67 = .ok (.getfield 7, 3) := by decide +kernel
theorem dX6_settling_70 : decode cX6_settling 70 = .ok (.bipush 35, 2) := by decide +kernel
theorem dX6_settling_72 : decode cX6_settling 72 = .ok (.laload, 1) := by decide +kernel
theorem dX6_settling_73 : decode cX6_settling 73 = .ok (.iload_n 1, 1) := by decide +kernel
theorem dX6_settling_74 : decode cX6_settling 74 = .ok (.iload_n 2, 1) := by decide +kernel
theorem dX6_settling_75 : decode cX6_settling 75 = .ok (.isub, 1) := by decide +kernel
theorem dX6_settling_76 : decode cX6_settling 76 = .ok (.i2l, 1) := by decide +kernel
theorem dX6_settling_77 : decode cX6_settling 77 = .ok (.iload_n 1, 1) := by decide +kernel
theorem dX6_settling_78 : decode cX6_settling 78 = .ok (.iload_n 2, 1) := by decide +kernel
theorem dX6_settling_79 : decode cX6_settling 79 = .ok (.iadd, 1) := by decide +kernel
theorem dX6_settling_80 : decode cX6_settling 80 = .ok (.i2l, 1) := by decide +kernel
theorem dX6_settling_81 : decode cX6_settling 81 = .ok (.invokestatic 65, 3) := by decide +kernel
theorem dX6_settling_84 : decode cX6_settling 84 = .ok (.ifCond .eq 9, 3) := by decide +kernel
theorem dX6_settling_87 : decode cX6_settling 87 = .ok (.iload_n 3, 1) := by decide +kernel
theorem dX6_settling_88 : decode cX6_settling 88 = .ok (.iconst 1, 1) := by decide +kernel
theorem dX6_settling_89 : decode cX6_settling 89 = .ok (.iadd, 1) := by decide +kernel
theorem dX6_settling_90 : decode cX6_settling 90 = .ok (.goto 4, 3) := by decide +kernel
theorem dX6_settling_93 : decode cX6_settling 93 = .ok (.iconst 0, 1) := by decide +kernel
theorem dX6_settling_94 : decode cX6_settling 94 = .ok (.istore_n 3, 1) := by decide +kernel
theorem dX6_settling_95 : decode cX6_settling 95 = .ok (.goto (-51), 3) := by decide +kernel
theorem dX6_settling_98 : decode cX6_settling 98 = .ok (.aload_n 0, 1) := by decide +kernel
theorem dX6_settling_99 : decode cX6_settling 99 = .ok (.invokevirtual 192, 3) := by decide +kernel
theorem dX6_settling_102 : decode cX6_settling 102 = .ok (.iload_n 3, 1) := by decide +kernel
theorem dX6_settling_103 : decode cX6_settling 103 = .ok (.iconst 5, 1) := by decide +kernel
theorem dX6_settling_104 : decode cX6_settling 104 = .ok (.if_icmp .ne 8, 3) := by decide +kernel
theorem dX6_settling_107 : decode cX6_settling 107 = .ok (.iload 4, 2) := by decide +kernel
theorem dX6_settling_109 : decode cX6_settling 109 = .ok (.goto 4, 3) := by decide +kernel
theorem dX6_settling_112 : decode cX6_settling 112 = .ok (.iconst (-1), 1) := by decide +kernel
theorem dX6_settling_113 : decode cX6_settling 113 = .ok (.ireturn, 1) := by decide +kernel
set_option maxRecDepth 20000 in
theorem ggX6_bestDither_X6_isSignal : GoodIn wsX6_bestDither wsX6_isSignal := goodIn_r _ [6, 7, 8, 9, 10, 5, 11] (by decide +kernel) (by decide +kernel)
set_option maxRecDepth 20000 in
theorem gX6_bestDither_X6_isSignal : GoodIn wsX6_bestDither (va_wsS RX6 106 yX6_isSignal wsX6_isSignal) := goodIn_app (goodIn_of _ (by decide +kernel)) ggX6_bestDither_X6_isSignal
set_option maxRecDepth 20000 in
theorem ggX6_bestDither_X6_in : GoodIn wsX6_bestDither wsX6_in := goodIn_r _ [11] (by decide +kernel) (by decide +kernel)
set_option maxRecDepth 20000 in
theorem gX6_bestDither_X6_in : GoodIn wsX6_bestDither (va_wsS RX6 65 yX6_in wsX6_in) := goodIn_app (goodIn_of _ (by decide +kernel)) ggX6_bestDither_X6_in
set_option maxRecDepth 20000 in
theorem ggX6_bestDither_X6_goes : GoodIn wsX6_bestDither wsX6_goes := goodIn_r _ [15, 16, 102, 103, 104, 105, 106, 107, 108, 109, 110, 111, 112, 113, 114] (by decide +kernel) (by decide +kernel)
set_option maxRecDepth 20000 in
theorem gX6_bestDither_X6_goes : GoodIn wsX6_bestDither (wsV RX6 83 RX6 yX6_goes wsX6_goes) := goodIn_app (goodIn_of _ (by decide +kernel)) ggX6_bestDither_X6_goes
set_option maxRecDepth 20000 in
theorem ggX6_bestDither_X6_costs : GoodIn wsX6_bestDither wsX6_costs := goodIn_r _ [20, 21, 22, 23, 24, 5, 25, 26, 27, 28, 29, 30, 31, 32, 33, 34, 35, 36, 9, 10, 11, 37, 38, 39, 40, 41, 42, 43, 44, 45, 46, 47, 48, 49, 50, 7, 8, 51, 52, 53, 54, 55, 56, 57, 58, 59, 60, 61, 62, 63, 64, 65, 66, 67, 68, 69, 70, 71, 72, 73, 74, 75, 76, 77, 78, 79, 80, 81, 82, 83, 84, 85, 86, 87, 88, 89, 90, 91, 92, 93, 94, 95, 96, 97, 98, 99, 100, 101, 102, 103, 104, 105, 106, 107, 108, 109, 110, 111, 112, 113, 114] (by decide +kernel) (by decide +kernel)
set_option maxRecDepth 20000 in
theorem gX6_bestDither_X6_costs : GoodIn wsX6_bestDither (wsV RX6 195 RX6 yX6_costs wsX6_costs) := goodIn_app (goodIn_of _ (by decide +kernel)) ggX6_bestDither_X6_costs
theorem dX6_bestDither_0 : decode cX6_bestDither 0 = .ok (.aload_n 0, 1) := by decide +kernel
theorem dX6_bestDither_1 : decode cX6_bestDither 1 = .ok (.iload_n 1, 1) := by decide +kernel
theorem dX6_bestDither_2 : decode cX6_bestDither 2 = .ok (.i2l, 1) := by decide +kernel
theorem dX6_bestDither_3 : decode cX6_bestDither 3 = .ok (.invokestatic 106, 3) := by decide +kernel
theorem dX6_bestDither_6 : decode cX6_bestDither 6 = .ok (.ifCond .eq 31, 3) := by decide +kernel
theorem dX6_bestDither_9 : decode cX6_bestDither 9 = .ok (.iload_n 2, 1) := by decide +kernel
theorem dX6_bestDither_10 : decode cX6_bestDither 10 = .ok (.i2l, 1) := by decide +kernel
theorem dX6_bestDither_11 : decode cX6_bestDither 11 = .ok (.lconst 1, 1) := by decide +kernel
theorem dX6_bestDither_12 : decode cX6_bestDither 12 = .ok (.ldc2_w 199, 3) := by decide +kernel
theorem dX6_bestDither_15 : decode cX6_bestDither 15 = .ok (.invokestatic 65, 3) := by decide +kernel
theorem dX6_bestDither_18 : decode cX6_bestDither 18 = .ok (.ifCond .eq 19, 3) := by decide +kernel
theorem dX6_bestDither_21 : decode cX6_bestDither 21 = .ok (.iload_n 3, 1) := by decide +kernel
theorem dX6_bestDither_22 : decode cX6_bestDither 22 = .ok (.i2l, 1) := by decide +kernel
theorem dX6_bestDither_23 : decode cX6_bestDither 23 = .ok (.lconst 0, 1) := by decide +kernel
theorem dX6_bestDither_24 : decode cX6_bestDither 24 = .ok (.ldc2_w 73, 3) := by decide +kernel
theorem dX6_bestDither_27 : decode cX6_bestDither 27 = .ok (.invokestatic 65, 3) := by decide +kernel
theorem dX6_bestDither_30 : decode cX6_bestDither 30 = .ok (.ifCond .eq 7, 3) := by decide +kernel
theorem dX6_bestDither_33 : decode cX6_bestDither 33 = .ok (.iconst 1, 1) := by decide +kernel
theorem dX6_bestDither_34 : decode cX6_bestDither 34 = .ok (.goto 4, 3) := by decide +kernel
theorem dX6_bestDither_37 : decode cX6_bestDither 37 = .ok (.iconst 0, 1) := by decide +kernel
theorem dX6_bestDither_38 : decode cX6_bestDither 38 = .ok (.iconst 1, 1) := by decide +kernel
theorem dX6_bestDither_39 : decode cX6_bestDither 39 = .ok (.invokevirtual 83, 3) := by decide +kernel
theorem dX6_bestDither_42 : decode cX6_bestDither 42 = .ok (.ifCond .ne 5, 3) := by decide +kernel
theorem dX6_bestDither_45 : decode cX6_bestDither 45 = .ok (.iconst 0, 1) := by decide +kernel
theorem dX6_bestDither_46 : decode cX6_bestDither 46 = .ok (.ireturn, 1) := by decide +kernel
theorem dX6_bestDither_47 : decode cX6_bestDither 47 = .ok (.iconst 0, 1) := by decide +kernel
theorem dX6_bestDither_48 : decode cX6_bestDither 48 = .ok (.istore 4, 2) := by decide +kernel
theorem dX6_bestDither_50 : decode cX6_bestDither 50 = .ok (.aload_n 0, 1) := by decide +kernel
theorem dX6_bestDither_51 : decode cX6_bestDither 51 = .ok (.iload_n 1, 1) := by decide +kernel
theorem dX6_bestDither_52 : decode cX6_bestDither 52 = .ok (.i2l, 1) := by decide +kernel
theorem dX6_bestDither_53 : decode cX6_bestDither 53 = .ok (.iload_n 2, 1) := by decide +kernel
theorem dX6_bestDither_54 : decode cX6_bestDither 54 = .ok (.lconst 0, 1) := by decide +kernel
theorem dX6_bestDither_55 : decode cX6_bestDither 55 = .ok (.invokevirtual 195, 3) := by decide +kernel
theorem dX6_bestDither_58 : decode cX6_bestDither 58 = .ok (.lstore 5, 2) := by decide +kernel
theorem dX6_bestDither_60 : decode cX6_bestDither 60 = .ok (.iconst 1, 1) := by decide +kernel
theorem dX6_bestDither_61 : decode cX6_bestDither 61 = .ok (.istore 7, 2) := by decide +kernel
theorem dX6_bestDither_63 : decode cX6_bestDither 63 = .ok (.iload 7, 2) := by decide +kernel
theorem dX6_bestDither_65 : decode cX6_bestDither 65 = .ok (.iload_n 3, 1) := by decide +kernel
theorem dX6_bestDither_66 : decode cX6_bestDither 66 = .ok (.if_icmp .gt 55, 3) := by decide +kernel
theorem dX6_bestDither_69 : decode cX6_bestDither 69 = .ok (.aload_n 0, 1) := by decide +kernel
theorem dX6_bestDither_70 : decode cX6_bestDither 70 = .ok (.iload_n 1, 1) := by decide +kernel
theorem dX6_bestDither_71 : decode cX6_bestDither 71 = .ok (.i2l, 1) := by decide +kernel
theorem dX6_bestDither_72 : decode cX6_bestDither 72 = .ok (.iload_n 2, 1) := by decide +kernel
theorem dX6_bestDither_73 : decode cX6_bestDither 73 = .ok (.iload 7, 2) := by decide +kernel
theorem dX6_bestDither_75 : decode cX6_bestDither 75 = .ok (.i2l, 1) := by decide +kernel
theorem dX6_bestDither_76 : decode cX6_bestDither 76 = .ok (.invokevirtual 195, 3) := by decide +kernel
theorem dX6_bestDither_79 : decode cX6_bestDither 79 = .ok (.lstore 8, 2) := by decide +kernel
theorem dX6_bestDither_81 : decode cX6_bestDither 81 = .ok (.lload 8, 2) := by decide +kernel
theorem dX6_bestDither_83 : decode cX6_bestDither 83 = .ok (.lload 5, 2) := by decide +kernel
theorem dX6_bestDither_85 : decode cX6_bestDither 85 = .ok (.lcmp, 1) := by decide +kernel
theorem dX6_bestDither_86 : decode cX6_bestDither 86 = .ok (.ifCond .ge 8, 3) := by decide +kernel
theorem dX6_bestDither_89 : decode cX6_bestDither 89 = .ok (.iload 7, 2) := by decide +kernel
theorem dX6_bestDither_91 : decode cX6_bestDither 91 = .ok (.goto 5, 3) := by decide +kernel
theorem dX6_bestDither_94 : decode cX6_bestDither 94 = .ok (.iload 4, 2) := by decide +kernel
theorem dX6_bestDither_96 : decode cX6_bestDither 96 = .ok (.istore 4, 2) := by decide +kernel
theorem dX6_bestDither_98 : decode cX6_bestDither 98 = .ok (.lload 8, 2) := by decide +kernel
theorem dX6_bestDither_100 : decode cX6_bestDither 100 = .ok (.lload 5, 2) := by decide +kernel
theorem dX6_bestDither_102 : decode cX6_bestDither 102 = .ok (.lcmp, 1) := by decide +kernel
theorem dX6_bestDither_103 : decode cX6_bestDither 103 = .ok (.ifCond .ge 8, 3) := by decide +kernel
theorem dX6_bestDither_106 : decode cX6_bestDither 106 = .ok (.lload 8, 2) := by decide +kernel
theorem dX6_bestDither_108 : decode cX6_bestDither 108 = .ok (.goto 5, 3) := by decide +kernel
theorem dX6_bestDither_111 : decode cX6_bestDither 111 = .ok (.lload 5, 2) := by decide +kernel
theorem dX6_bestDither_113 : decode cX6_bestDither 113 = .ok (.lstore 5, 2) := by decide +kernel
theorem dX6_bestDither_115 : decode cX6_bestDither 115 = .ok (.iinc 7 1, 3) := by decide +kernel
theorem dX6_bestDither_118 : decode cX6_bestDither 118 = .ok (.goto (-55), 3) := by decide +kernel
theorem dX6_bestDither_121 : decode cX6_bestDither 121 = .ok (.iload 4, 2) := by decide +kernel
theorem dX6_bestDither_123 : decode cX6_bestDither 123 = .ok (.ireturn, 1) := by decide +kernel
set_option maxRecDepth 20000 in
theorem ggX6_append_X6_in : GoodIn wsX6_append wsX6_in := goodIn_r _ [7] (by decide +kernel) (by decide +kernel)
set_option maxRecDepth 20000 in
theorem gX6_append_X6_in : GoodIn wsX6_append (va_wsS RX6 65 yX6_in wsX6_in) := goodIn_app (goodIn_of _ (by decide +kernel)) ggX6_append_X6_in
set_option maxRecDepth 20000 in
theorem ggX6_append_X6_goes : GoodIn wsX6_append wsX6_goes := goodIn_r _ [11, 12, 13, 14, 15, 16, 17, 18, 19, 20, 21, 22, 23, 24, 25] (by decide +kernel) (by decide +kernel)
set_option maxRecDepth 20000 in
theorem gX6_append_X6_goes : GoodIn wsX6_append (wsV RX6 83 RX6 yX6_goes wsX6_goes) := goodIn_app (goodIn_of _ (by decide +kernel)) ggX6_append_X6_goes
theorem dX6_append_0 : decode cX6_append 0 = .ok (.aload_n 0, 1) := by decide +kernel
theorem dX6_append_1 : decode cX6_append 1 = .ok (.iload_n 1, 1) := by decide +kernel
theorem dX6_append_2 : decode cX6_append 2 = .ok (.i2l, 1) := by decide +kernel
theorem dX6_append_3 : decode cX6_append 3 = .ok (.lconst 0, 1) := by decide +kernel
theorem dX6_append_4 : decode cX6_append 4 = .ok (.ldc2_w 201, 3) := by decide +kernel
theorem dX6_append_7 : decode cX6_append 7 = .ok (.invokestatic 65, 3) := by decide +kernel
theorem dX6_append_10 : decode cX6_append 10 = .ok (.aload_n 0, 1) := by decide +kernel
theorem dX6_append_11 : decode cX6_append 11 = .ok (.getfield 203, 3) := by decide +kernel
theorem dX6_append_14 : decode cX6_append 14 = .ok (.bipush 120, 2) := by decide +kernel
theorem dX6_append_16 : decode cX6_append 16 = .ok (.if_icmp .ge 7, 3) := by decide +kernel
theorem dX6_append_19 : decode cX6_append 19 = .ok (.iconst 1, 1) := by decide +kernel
theorem dX6_append_20 : decode cX6_append 20 = .ok (.goto 4, 3) := by decide +kernel
theorem dX6_append_23 : decode cX6_append 23 = .ok (.iconst 0, 1) := by decide +kernel
theorem dX6_append_24 : decode cX6_append 24 = .ok (.invokevirtual 83, 3) := by decide +kernel
theorem dX6_append_27 : decode cX6_append 27 = .ok (.ifCond .ne 5, 3) := by decide +kernel
theorem dX6_append_30 : decode cX6_append 30 = .ok (.iconst 0, 1) := by decide +kernel
theorem dX6_append_31 : decode cX6_append 31 = .ok (.ireturn, 1) := by decide +kernel
theorem dX6_append_32 : decode cX6_append 32 = .ok (.aload_n 0, 1) := by decide +kernel
theorem dX6_append_33 : decode cX6_append 33 = .ok (.getfield 28, 3) := by decide +kernel
theorem dX6_append_36 : decode cX6_append 36 = .ok (.aload_n 0, 1) := by decide +kernel
theorem dX6_append_37 : decode cX6_append 37 = .ok (.getfield 203, 3) := by decide +kernel
theorem dX6_append_40 : decode cX6_append 40 = .ok (.iload_n 1, 1) := by decide +kernel
theorem dX6_append_41 : decode cX6_append 41 = .ok (.iastore, 1) := by decide +kernel
theorem dX6_append_42 : decode cX6_append 42 = .ok (.aload_n 0, 1) := by decide +kernel
theorem dX6_append_43 : decode cX6_append 43 = .ok (.dup, 1) := by decide +kernel
theorem dX6_append_44 : decode cX6_append 44 = .ok (.getfield 203, 3) := by decide +kernel
theorem dX6_append_47 : decode cX6_append 47 = .ok (.iconst 1, 1) := by decide +kernel
theorem dX6_append_48 : decode cX6_append 48 = .ok (.iadd, 1) := by decide +kernel
theorem dX6_append_49 : decode cX6_append 49 = .ok (.putfield 203, 3) := by decide +kernel
theorem dX6_append_52 : decode cX6_append 52 = .ok (.aload_n 0, 1) := by decide +kernel
theorem dX6_append_53 : decode cX6_append 53 = .ok (.getfield 203, 3) := by decide +kernel
theorem dX6_append_56 : decode cX6_append 56 = .ok (.ireturn, 1) := by decide +kernel
theorem dX6_clearText_0 : decode cX6_clearText 0 = .ok (.aload_n 0, 1) := by decide +kernel
theorem dX6_clearText_1 : decode cX6_clearText 1 = .ok (.iconst 0, 1) := by decide +kernel
theorem dX6_clearText_2 : decode cX6_clearText 2 = .ok (.putfield 54, 3) := by decide +kernel
theorem dX6_clearText_5 : decode cX6_clearText 5 = .ok (.aload_n 0, 1) := by decide +kernel
theorem dX6_clearText_6 : decode cX6_clearText 6 = .ok (.getfield 203, 3) := by decide +kernel
theorem dX6_clearText_9 : decode cX6_clearText 9 = .ok (.istore_n 1, 1) := by decide +kernel
theorem dX6_clearText_10 : decode cX6_clearText 10 = .ok (.aload_n 0, 1) := by decide +kernel
theorem dX6_clearText_11 : decode cX6_clearText 11 = .ok (.iconst 0, 1) := by decide +kernel
theorem dX6_clearText_12 : decode cX6_clearText 12 = .ok (.putfield 203, 3) := by decide +kernel
theorem dX6_clearText_15 : decode cX6_clearText 15 = .ok (.iload_n 1, 1) := by decide +kernel
theorem dX6_clearText_16 : decode cX6_clearText 16 = .ok (.ireturn, 1) := by decide +kernel
set_option maxRecDepth 20000 in
theorem ggX6_isFigure_X6_in : GoodIn wsX6_isFigure wsX6_in := goodIn_r _ [9] (by decide +kernel) (by decide +kernel)
set_option maxRecDepth 20000 in
theorem gX6_isFigure_X6_in : GoodIn wsX6_isFigure (va_wsS RX6 65 yX6_in wsX6_in) := goodIn_app (goodIn_of _ (by decide +kernel)) ggX6_isFigure_X6_in
theorem dX6_isFigure_0 : decode cX6_isFigure 0 = .ok (.aload_n 0, 1) := by decide +kernel
theorem dX6_isFigure_1 : decode cX6_isFigure 1 = .ok (.getfield 206, 3) := by decide +kernel
theorem dX6_isFigure_4 : decode cX6_isFigure 4 = .ok (.aload_n 0, 1) := by decide +kernel
theorem dX6_isFigure_5 : decode cX6_isFigure 5 = .ok (.getfield 203, 3) := by decide +kernel
theorem dX6_isFigure_8 : decode cX6_isFigure 8 = .ok (.if_icmp .ge 29, 3) := by decide +kernel
theorem dX6_isFigure_11 : decode cX6_isFigure 11 = .ok (.aload_n 0, 1) := by decide +kernel
theorem dX6_isFigure_12 : decode cX6_isFigure 12 = .ok (.getfield 28, 3) := by decide +kernel
theorem dX6_isFigure_15 : decode cX6_isFigure 15 = .ok (.aload_n 0, 1) := by decide +kernel
theorem dX6_isFigure_16 : decode cX6_isFigure 16 = .ok (.getfield 206, 3) := by decide +kernel
theorem dX6_isFigure_19 : decode cX6_isFigure 19 = .ok (.iaload, 1) := by decide +kernel
theorem dX6_isFigure_20 : decode cX6_isFigure 20 = .ok (.i2l, 1) := by decide +kernel
theorem dX6_isFigure_21 : decode cX6_isFigure 21 = .ok (.ldc2_w 209, 3) := by decide +kernel
theorem dX6_isFigure_24 : decode cX6_isFigure 24 = .ok (.ldc2_w 211, 3) := by decide +kernel
theorem dX6_isFigure_27 : decode cX6_isFigure 27 = .ok (.invokestatic 65, 3) := by decide +kernel
theorem dX6_isFigure_30 : decode cX6_isFigure 30 = .ok (.ifCond .eq 7, 3) := by decide +kernel
theorem dX6_isFigure_33 : decode cX6_isFigure 33 = .ok (.iconst 1, 1) := by decide +kernel
theorem dX6_isFigure_34 : decode cX6_isFigure 34 = .ok (.goto 4, 3) := by decide +kernel
theorem dX6_isFigure_37 : decode cX6_isFigure 37 = .ok (.iconst 0, 1) := by decide +kernel
theorem dX6_isFigure_38 : decode cX6_isFigure 38 = .ok (.ireturn, 1) := by decide +kernel
theorem dX6_passes_0 : decode cX6_passes 0 = .ok (.aload_n 0, 1) := by decide +kernel
theorem dX6_passes_1 : decode cX6_passes 1 = .ok (.getfield 206, 3) := by decide +kernel
theorem dX6_passes_4 : decode cX6_passes 4 = .ok (.aload_n 0, 1) := by decide +kernel
theorem dX6_passes_5 : decode cX6_passes 5 = .ok (.getfield 203, 3) := by decide +kernel
theorem dX6_passes_8 : decode cX6_passes 8 = .ok (.if_icmp .ge 20, 3) := by decide +kernel
theorem dX6_passes_11 : decode cX6_passes 11 = .ok (.aload_n 0, 1) := by decide +kernel
theorem dX6_passes_12 : decode cX6_passes 12 = .ok (.getfield 28, 3) := by decide +kernel
theorem dX6_passes_15 : decode cX6_passes 15 = .ok (.aload_n 0, 1) := by decide +kernel
theorem dX6_passes_16 : decode cX6_passes 16 = .ok (.getfield 206, 3) := by decide +kernel
theorem dX6_passes_19 : decode cX6_passes 19 = .ok (.iaload, 1) := by decide +kernel
theorem dX6_passes_20 : decode cX6_passes 20 = .ok (.iload_n 1, 1) := by decide +kernel
theorem dX6_passes_21 : decode cX6_passes 21 = .ok (.if_icmp .ne 7, 3) := by decide +kernel
theorem dX6_passes_24 : decode cX6_passes 24 = .ok (.iconst 1, 1) := by decide +kernel
theorem dX6_passes_25 : decode cX6_passes 25 = .ok (.goto 4, 3) := by decide +kernel
theorem dX6_passes_28 : decode cX6_passes 28 = .ok (.iconst 0, 1) := by decide +kernel
theorem dX6_passes_29 : decode cX6_passes 29 = .ok (.istore_n 2, 1) := by decide +kernel
theorem dX6_passes_30 : decode cX6_passes 30 = .ok (.aload_n 0, 1) := by decide +kernel
theorem dX6_passes_31 : decode cX6_passes 31 = .ok (.dup, 1) := by decide +kernel
theorem dX6_passes_32 : decode cX6_passes 32 = .ok (.getfield 206, 3) := by decide +kernel
theorem dX6_passes_35 : decode cX6_passes 35 = .ok (.iload_n 2, 1) := by decide +kernel
theorem dX6_passes_36 : decode cX6_passes 36 = .ok (.ifCond .eq 7, 3) := by decide +kernel
theorem dX6_passes_39 : decode cX6_passes 39 = .ok (.iconst 1, 1) := by decide +kernel
theorem dX6_passes_40 : decode cX6_passes 40 = .ok (.goto 4, 3) := by decide +kernel
theorem dX6_passes_43 : decode cX6_passes 43 = .ok (.iconst 0, 1) := by decide +kernel
theorem dX6_passes_44 : decode cX6_passes 44 = .ok (.iadd, 1) := by decide +kernel
theorem dX6_passes_45 : decode cX6_passes 45 = .ok (.putfield 206, 3) := by decide +kernel
theorem dX6_passes_48 : decode cX6_passes 48 = .ok (.iload_n 2, 1) := by decide +kernel
theorem dX6_passes_49 : decode cX6_passes 49 = .ok (.ireturn, 1) := by decide +kernel
set_option maxRecDepth 20000 in
theorem ggX6_readsNumber_X6_passes : GoodIn wsX6_readsNumber wsX6_passes := goodIn_r _ [8, 1, 9, 2, 19, 20, 21, 22, 23, 24, 25, 26, 27, 28, 29, 30, 31] (by decide +kernel) (by decide +kernel)
set_option maxRecDepth 20000 in
theorem gX6_readsNumber_X6_passes : GoodIn wsX6_readsNumber (wsV RX6 213 RX6 yX6_passes wsX6_passes) := goodIn_app (goodIn_of _ (by decide +kernel)) ggX6_readsNumber_X6_passes
set_option maxRecDepth 20000 in
theorem ggX6_readsNumber_X6_isFigure : GoodIn wsX6_readsNumber wsX6_isFigure := goodIn_r _ [13, 1, 9, 2, 14, 15, 16, 17, 7, 18, 19, 20, 21, 22, 23, 24, 25, 26, 27, 28, 29, 30, 31] (by decide +kernel) (by decide +kernel)
set_option maxRecDepth 20000 in
theorem gX6_readsNumber_X6_isFigure : GoodIn wsX6_readsNumber (wsV RX6 216 RX6 yX6_isFigure wsX6_isFigure) := goodIn_app (goodIn_of _ (by decide +kernel)) ggX6_readsNumber_X6_isFigure
theorem dX6_readsNumber_0 : decode cX6_readsNumber 0 = .ok (.aload_n 0, 1) := by decide +kernel
theorem dX6_readsNumber_1 : decode cX6_readsNumber 1 = .ok (.bipush 45, 2) := by decide +kernel
theorem dX6_readsNumber_3 : decode cX6_readsNumber 3 = .ok (.invokevirtual 213, 3) := by decide +kernel
theorem dX6_readsNumber_6 : decode cX6_readsNumber 6 = .ok (.istore_n 2, 1) := by decide +kernel
theorem dX6_readsNumber_7 : decode cX6_readsNumber 7 = .ok (.aload_n 0, 1) := by decide +kernel
theorem dX6_readsNumber_8 : decode cX6_readsNumber 8 = .ok (.getfield 206, 3) := by decide +kernel
theorem dX6_readsNumber_11 : decode cX6_readsNumber 11 = .ok (.istore_n 3, 1) := by decide +kernel
theorem dX6_readsNumber_12 : decode cX6_readsNumber 12 = .ok (.iconst 0, 1) := by decide +kernel
theorem dX6_readsNumber_13 : decode cX6_readsNumber 13 = .ok (.istore 4, 2) := by decide +kernel
theorem dX6_readsNumber_15 : decode cX6_readsNumber 15 = .ok (.aload_n 0, 1) := by decide +kernel
theorem dX6_readsNumber_16 : decode cX6_readsNumber 16 = .ok (.invokevirtual 216, 3) := by decide +kernel
theorem dX6_readsNumber_19 : decode cX6_readsNumber 19 = .ok (.ifCond .eq 46, 3) := by decide +kernel
theorem dX6_readsNumber_22 : decode cX6_readsNumber 22 = .ok (.aload_n 0, 1) := by decide +kernel
theorem dX6_readsNumber_23 : decode cX6_readsNumber 23 = .ok (.getfield 206, 3) := by decide +kernel
theorem dX6_readsNumber_26 : decode cX6_readsNumber 26 = .ok (.iload_n 3, 1) := by decide +kernel
theorem dX6_readsNumber_27 : decode cX6_readsNumber 27 = .ok (.iconst 4, 1) := by decide +kernel
theorem dX6_readsNumber_28 : decode cX6_readsNumber 28 = .ok (.iadd, 1) := by decide +kernel
theorem dX6_readsNumber_29 : decode cX6_readsNumber 29 = .ok (.if_icmp .ge 36, 3) := by decide +kernel
theorem dX6_readsNumber_32 : decode cX6_readsNumber 32 = .ok (.bipush 10, 2) := by decide +kernel
theorem dX6_readsNumber_34 : decode cX6_readsNumber 34 = .ok (.iload 4, 2) := by decide +kernel
theorem dX6_readsNumber_36 : decode cX6_readsNumber 36 = .ok (.imul, 1) := by decide +kernel
theorem dX6_readsNumber_37 : decode cX6_readsNumber 37 = .ok (.aload_n 0, 1) := by decide +kernel
theorem dX6_readsNumber_38 : decode cX6_readsNumber 38 = .ok (.getfield 28, 3) := by decide +kernel
theorem dX6_readsNumber_41 : decode cX6_readsNumber 41 = .ok (.aload_n 0, 1) := by decide +kernel
theorem dX6_readsNumber_42 : decode cX6_readsNumber 42 = .ok (.getfield 206, 3) := by decide +kernel
theorem dX6_readsNumber_45 : decode cX6_readsNumber 45 = .ok (.iaload, 1) := by decide +kernel
theorem dX6_readsNumber_46 : decode cX6_readsNumber 46 = .ok (.iadd, 1) := by decide +kernel
theorem dX6_readsNumber_47 : decode cX6_readsNumber 47 = .ok (.bipush 48, 2) := by decide +kernel
theorem dX6_readsNumber_49 : decode cX6_readsNumber 49 = .ok (.isub, 1) := by decide +kernel
theorem dX6_readsNumber_50 : decode cX6_readsNumber 50 = .ok (.istore 4, 2) := by decide +kernel
theorem dX6_readsNumber_52 : decode cX6_readsNumber 52 = .ok (.aload_n 0, 1) := by decide +kernel
theorem dX6_readsNumber_53 : decode cX6_readsNumber 53 = .ok (.dup, 1) := by decide +kernel
theorem dX6_readsNumber_54 : decode cX6_readsNumber 54 = .ok (.getfield 206, 3) := by decide +kernel
theorem dX6_readsNumber_57 : decode cX6_readsNumber 57 = .ok (.iconst 1, 1) := by decide +kernel
theorem dX6_readsNumber_58 : decode cX6_readsNumber 58 = .ok (.iadd, 1) := by decide +kernel
theorem dX6_readsNumber_59 : decode cX6_readsNumber 59 = .ok (.putfield 206, 3) := by decide +kernel
theorem dX6_readsNumber_62 : decode cX6_readsNumber 62 = .ok (.goto (-47), 3) := by decide +kernel
theorem dX6_readsNumber_65 : decode cX6_readsNumber 65 = .ok (.aload_n 0, 1) := by decide +kernel
theorem dX6_readsNumber_66 : decode cX6_readsNumber 66 = .ok (.getfield 32, 3) := by decide +kernel
theorem dX6_readsNumber_69 : decode cX6_readsNumber 69 = .ok (.iload_n 1, 1) := by decide +kernel
theorem dX6_readsNumber_70 : decode cX6_readsNumber 70 = .ok (.iload_n 2, 1) := by decide +kernel
theorem dX6_readsNumber_71 : decode cX6_readsNumber 71 = .ok (.ifCond .eq 9, 3) := by decide +kernel
theorem dX6_readsNumber_74 : decode cX6_readsNumber 74 = .ok (.iload 4, 2) := by decide +kernel
theorem dX6_readsNumber_76 : decode cX6_readsNumber 76 = .ok (.ineg, 1) := by decide +kernel
theorem dX6_readsNumber_77 : decode cX6_readsNumber 77 = .ok (.goto 5, 3) := by decide +kernel
theorem dX6_readsNumber_80 : decode cX6_readsNumber 80 = .ok (.iload 4, 2) := by decide +kernel
theorem dX6_readsNumber_82 : decode cX6_readsNumber 82 = .ok (.iastore, 1) := by decide +kernel
theorem dX6_readsNumber_83 : decode cX6_readsNumber 83 = .ok (.aload_n 0, 1) := by decide +kernel
theorem dX6_readsNumber_84 : decode cX6_readsNumber 84 = .ok (.getfield 206, 3) := by decide +kernel
theorem dX6_readsNumber_87 : decode cX6_readsNumber 87 = .ok (.iload_n 3, 1) := by decide +kernel
theorem dX6_readsNumber_88 : decode cX6_readsNumber 88 = .ok (.if_icmp .le 35, 3) := by decide +kernel
theorem dX6_readsNumber_91 : decode cX6_readsNumber 91 = .ok (.aload_n 0, 1) := by decide +kernel
theorem dX6_readsNumber_92 : decode cX6_readsNumber 92 = .ok (.invokevirtual 216, 3) := by decide +kernel
theorem dX6_readsNumber_95 : decode cX6_readsNumber 95 = .ok (.ifCond .ne 28, 3) := by decide +kernel
theorem dX6_readsNumber_98 : decode cX6_readsNumber 98 = .ok (.aload_n 0, 1) := by decide +kernel
theorem dX6_readsNumber_99 : decode cX6_readsNumber 99 = .ok (.iload_n 1, 1) := by decide +kernel
theorem dX6_readsNumber_100 : decode cX6_readsNumber 100 = .ok (.iconst 3, 1) := by decide +kernel
theorem dX6_readsNumber_101 : decode cX6_readsNumber 101 = .ok (.irem, 1) := by decide +kernel
theorem dX6_readsNumber_102 : decode cX6_readsNumber 102 = .ok (.iconst 2, 1) := by decide +kernel
theorem dX6_readsNumber_103 : decode cX6_readsNumber 103 = .ok (.if_icmp .ne 8, 3) := by decide +kernel
theorem dX6_readsNumber_106 : decode cX6_readsNumber 106 = .ok (.bipush 59, 2) := by decide +kernel
theorem dX6_readsNumber_108 : decode cX6_readsNumber 108 = .ok (.goto 5, 3) := by decide +kernel
theorem dX6_readsNumber_111 : decode cX6_readsNumber 111 = .ok (.bipush 44, 2) := by decide +kernel
theorem dX6_readsNumber_113 : decode cX6_readsNumber 113 = .ok (.invokevirtual 213, 3) := by decide +kernel
theorem dX6_readsNumber_116 : decode cX6_readsNumber 116 = .ok (.ifCond .eq 7, 3) := by decide +kernel
theorem dX6_readsNumber_119 : decode cX6_readsNumber 119 = .ok (.iconst 1, 1) := by decide +kernel
theorem dX6_readsNumber_120 : decode cX6_readsNumber 120 = .ok (.goto 4, 3) := by decide +kernel
theorem dX6_readsNumber_123 : decode cX6_readsNumber 123 = .ok (.iconst 0, 1) := by decide +kernel
theorem dX6_readsNumber_124 : decode cX6_readsNumber 124 = .ok (.ireturn, 1) := by decide +kernel
set_option maxRecDepth 20000 in
theorem ggX6_replay_X6_readsNumber : GoodIn wsX6_replay wsX6_readsNumber := goodIn_r _ [13, 2, 14, 4, 15, 16, 17, 12, 18, 3, 19, 20, 21, 22, 23, 24, 25, 26, 27, 89, 90, 91, 92, 93, 94, 95, 96, 97, 98, 99, 100, 101] (by decide +kernel) (by decide +kernel)
set_option maxRecDepth 20000 in
theorem gX6_replay_X6_readsNumber : GoodIn wsX6_replay (wsV RX6 220 RX6 yX6_readsNumber wsX6_readsNumber) := goodIn_app (goodIn_of _ (by decide +kernel)) ggX6_replay_X6_readsNumber
set_option maxRecDepth 20000 in
theorem ggX6_replay_X6_in : GoodIn wsX6_replay wsX6_in := goodIn_r _ [27] (by decide +kernel) (by decide +kernel)
set_option maxRecDepth 20000 in
theorem gX6_replay_X6_in : GoodIn wsX6_replay (va_wsS RX6 65 yX6_in wsX6_in) := goodIn_app (goodIn_of _ (by decide +kernel)) ggX6_replay_X6_in
set_option maxRecDepth 20000 in
theorem ggX6_replay_X6_save : GoodIn wsX6_replay wsX6_save := goodIn_r _ [31, 32, 33, 34, 89, 90, 91, 92, 93, 94, 95, 96, 97, 98, 99, 100, 101] (by decide +kernel) (by decide +kernel)
