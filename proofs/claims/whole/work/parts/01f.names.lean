theorem dX6_boxes_57 : decode cX6_boxes 57 = .ok (.lcmp, 1) := by decide +kernel
theorem dX6_boxes_58 : decode cX6_boxes 58 = .ok (.ifCond .eq 7, 3) := by decide +kernel
theorem dX6_boxes_61 : decode cX6_boxes 61 = .ok (.iconst 1, 1) := by decide +kernel
theorem dX6_boxes_62 : decode cX6_boxes 62 = .ok (.goto 4, 3) := by decide +kernel
theorem dX6_boxes_65 : decode cX6_boxes 65 = .ok (.iconst 0, 1) := by decide +kernel
theorem dX6_boxes_66 : decode cX6_boxes 66 = .ok (.ireturn, 1) := by decide +kernel
set_option maxRecDepth 20000 in
theorem ggX6_setBox_X6_in : GoodIn wsX6_setBox wsX6_in := goodIn_r _ [8] (by decide +kernel) (by decide +kernel)
set_option maxRecDepth 20000 in
theorem gX6_setBox_X6_in : GoodIn wsX6_setBox (va_wsS RX6 65 yX6_in wsX6_in) := goodIn_app (goodIn_of _ (by decide +kernel)) ggX6_setBox_X6_in
set_option maxRecDepth 20000 in
theorem ggX6_setBox_X6_goes : GoodIn wsX6_setBox wsX6_goes := goodIn_r _ [12, 13, 27, 28, 29, 30, 31, 32, 33, 34, 35, 36, 37, 38, 39] (by decide +kernel) (by decide +kernel)
set_option maxRecDepth 20000 in
theorem gX6_setBox_X6_goes : GoodIn wsX6_setBox (wsV RX6 83 RX6 yX6_goes wsX6_goes) := goodIn_app (goodIn_of _ (by decide +kernel)) ggX6_setBox_X6_goes
set_option maxRecDepth 20000 in
theorem ggX6_setBox_X6_save : GoodIn wsX6_setBox wsX6_save := goodIn_r _ [17, 18, 19, 4, 27, 28, 29, 30, 31, 32, 33, 34, 35, 36, 37, 38, 39] (by decide +kernel) (by decide +kernel)
set_option maxRecDepth 20000 in
theorem gX6_setBox_X6_save : GoodIn wsX6_setBox (wsV RX6 87 RX6 yX6_save wsX6_save) := goodIn_app (goodIn_of _ (by decide +kernel)) ggX6_setBox_X6_save
set_option maxRecDepth 20000 in
theorem ggX6_setBox_X6_boxes : GoodIn wsX6_setBox wsX6_boxes := goodIn_r _ [23, 4, 24, 25, 7, 26, 27, 28, 29, 30, 31, 32, 33, 34, 35, 36, 37, 38, 39] (by decide +kernel) (by decide +kernel)
set_option maxRecDepth 20000 in
theorem gX6_setBox_X6_boxes : GoodIn wsX6_setBox (wsV RX6 94 RX6 yX6_boxes wsX6_boxes) := goodIn_app (goodIn_of _ (by decide +kernel)) ggX6_setBox_X6_boxes
theorem dX6_setBox_0 : decode cX6_setBox 0 = .ok (.aload_n 0, 1) := by decide +kernel
theorem dX6_setBox_1 : decode cX6_setBox 1 = .ok (.iload_n 1, 1) := by decide +kernel
theorem dX6_setBox_2 : decode cX6_setBox 2 = .ok (.i2l, 1) := by decide +kernel
theorem dX6_setBox_3 : decode cX6_setBox 3 = .ok (.lconst 0, 1) := by decide +kernel
theorem dX6_setBox_4 : decode cX6_setBox 4 = .ok (.ldc2_w 37, 3) := by decide +kernel
theorem dX6_setBox_7 : decode cX6_setBox 7 = .ok (.invokestatic 65, 3) := by decide +kernel
theorem dX6_setBox_10 : decode cX6_setBox 10 = .ok (.iload_n 2, 1) := by decide +kernel
theorem dX6_setBox_11 : decode cX6_setBox 11 = .ok (.i2l, 1) := by decide +kernel
theorem dX6_setBox_12 : decode cX6_setBox 12 = .ok (.ldc2_w 45, 3) := by decide +kernel
theorem dX6_setBox_15 : decode cX6_setBox 15 = .ok (.ldc2_w 47, 3) := by decide +kernel
theorem dX6_setBox_18 : decode cX6_setBox 18 = .ok (.invokestatic 65, 3) := by decide +kernel
theorem dX6_setBox_21 : decode cX6_setBox 21 = .ok (.ifCond .eq 26, 3) := by decide +kernel
theorem dX6_setBox_24 : decode cX6_setBox 24 = .ok (.iload_n 3, 1) := by decide +kernel
theorem dX6_setBox_25 : decode cX6_setBox 25 = .ok (.i2l, 1) := by decide +kernel
theorem dX6_setBox_26 : decode cX6_setBox 26 = .ok (.ldc2_w 45, 3) := by decide +kernel
theorem dX6_setBox_29 : decode cX6_setBox 29 = .ok (.ldc2_w 47, 3) := by decide +kernel
theorem dX6_setBox_32 : decode cX6_setBox 32 = .ok (.invokestatic 65, 3) := by decide +kernel
theorem dX6_setBox_35 : decode cX6_setBox 35 = .ok (.ifCond .eq 12, 3) := by decide +kernel
theorem dX6_setBox_38 : decode cX6_setBox 38 = .ok (.iload_n 2, 1) := by decide +kernel
theorem dX6_setBox_39 : decode cX6_setBox 39 = .ok (.iload_n 3, 1) := by decide +kernel
theorem dX6_setBox_40 : decode cX6_setBox 40 = .ok (.if_icmp .gt 7, 3) := by decide +kernel
theorem dX6_setBox_43 : decode cX6_setBox 43 = .ok (.iconst 1, 1) := by decide +kernel
theorem dX6_setBox_44 : decode cX6_setBox 44 = .ok (.goto 4, 3) := by decide +kernel
theorem dX6_setBox_47 : decode cX6_setBox 47 = .ok (.iconst 0, 1) := by decide +kernel
theorem dX6_setBox_48 : decode cX6_setBox 48 = .ok (.invokevirtual 83, 3) := by decide +kernel
theorem dX6_setBox_51 : decode cX6_setBox 51 = .ok (.ifCond .ne 5, 3) := by decide +kernel
theorem dX6_setBox_54 : decode cX6_setBox 54 = .ok (.iconst 0, 1) := by decide +kernel
theorem dX6_setBox_55 : decode cX6_setBox 55 = .ok (.ireturn, 1) := by decide +kernel
theorem dX6_setBox_56 : decode cX6_setBox 56 = .ok (.aload_n 0, 1) := by decide +kernel
theorem dX6_setBox_57 : decode cX6_setBox 57 = .ok (.invokevirtual 87, 3) := by decide +kernel
theorem dX6_setBox_60 : decode cX6_setBox 60 = .ok (.aload_n 0, 1) := by decide +kernel
theorem dX6_setBox_61 : decode cX6_setBox 61 = .ok (.getfield 7, 3) := by decide +kernel
theorem dX6_setBox_64 : decode cX6_setBox 64 = .ok (.bipush 7, 2) := by decide +kernel
theorem dX6_setBox_66 : decode cX6_setBox 66 = .ok (.iconst 2, 1) := by decide +kernel
theorem dX6_setBox_67 : decode cX6_setBox 67 = .ok (.iload_n 1, 1) := by decide +kernel
theorem dX6_setBox_68 : decode cX6_setBox 68 = .ok (.imul, 1) := by decide +kernel
theorem dX6_setBox_69 : decode cX6_setBox 69 = .ok (.iadd, 1) := by decide +kernel
theorem dX6_setBox_70 : decode cX6_setBox 70 = .ok (.iload_n 2, 1) := by decide +kernel
theorem dX6_setBox_71 : decode cX6_setBox 71 = .ok (.i2l, 1) := by decide +kernel
theorem dX6_setBox_72 : decode cX6_setBox 72 = .ok (.lastore, 1) := by decide +kernel
theorem dX6_setBox_73 : decode cX6_setBox 73 = .ok (.aload_n 0, 1) := by decide +kernel
theorem dX6_setBox_74 : decode cX6_setBox 74 = .ok (.getfield 7, 3) := by decide +kernel
theorem dX6_setBox_77 : decode cX6_setBox 77 = .ok (.bipush 7, 2) := by decide +kernel
theorem dX6_setBox_79 : decode cX6_setBox 79 = .ok (.iconst 2, 1) := by decide +kernel
theorem dX6_setBox_80 : decode cX6_setBox 80 = .ok (.iload_n 1, 1) := by decide +kernel
theorem dX6_setBox_81 : decode cX6_setBox 81 = .ok (.imul, 1) := by decide +kernel
theorem dX6_setBox_82 : decode cX6_setBox 82 = .ok (.iadd, 1) := by decide +kernel
theorem dX6_setBox_83 : decode cX6_setBox 83 = .ok (.iconst 1, 1) := by decide +kernel
theorem dX6_setBox_84 : decode cX6_setBox 84 = .ok (.iadd, 1) := by decide +kernel
theorem dX6_setBox_85 : decode cX6_setBox 85 = .ok (.iload_n 3, 1) := by decide +kernel
theorem dX6_setBox_86 : decode cX6_setBox 86 = .ok (.i2l, 1) := by decide +kernel
theorem dX6_setBox_87 : decode cX6_setBox 87 = .ok (.lastore, 1) := by decide +kernel
theorem dX6_setBox_88 : decode cX6_setBox 88 = .ok (.aload_n 0, 1) := by decide +kernel
theorem dX6_setBox_89 : decode cX6_setBox 89 = .ok (.iload_n 1, 1) := by decide +kernel
theorem dX6_setBox_90 : decode cX6_setBox 90 = .ok (.invokevirtual 94, 3) := by decide +kernel
theorem dX6_setBox_93 : decode cX6_setBox 93 = .ok (.ifCond .eq 7, 3) := by decide +kernel
theorem dX6_setBox_96 : decode cX6_setBox 96 = .ok (.iconst 1, 1) := by decide +kernel
theorem dX6_setBox_97 : decode cX6_setBox 97 = .ok (.goto 4, 3) := by decide +kernel
theorem dX6_setBox_100 : decode cX6_setBox 100 = .ok (.iconst 0, 1) := by decide +kernel
theorem dX6_setBox_101 : decode cX6_setBox 101 = .ok (.ireturn, 1) := by decide +kernel
set_option maxRecDepth 20000 in
theorem ggX6_box_X6_in : GoodIn wsX6_box wsX6_in := goodIn_r _ [6] (by decide +kernel) (by decide +kernel)
set_option maxRecDepth 20000 in
theorem gX6_box_X6_in : GoodIn wsX6_box (va_wsS RX6 65 yX6_in wsX6_in) := goodIn_app (goodIn_of _ (by decide +kernel)) ggX6_box_X6_in
set_option maxRecDepth 20000 in
theorem ggX6_box_X6_goes : GoodIn wsX6_box wsX6_goes := goodIn_r _ [10, 11, 12, 13, 14, 15, 16, 17, 18, 19, 20, 21, 22, 23, 24] (by decide +kernel) (by decide +kernel)
set_option maxRecDepth 20000 in
theorem gX6_box_X6_goes : GoodIn wsX6_box (wsV RX6 83 RX6 yX6_goes wsX6_goes) := goodIn_app (goodIn_of _ (by decide +kernel)) ggX6_box_X6_goes
theorem dX6_box_0 : decode cX6_box 0 = .ok (.aload_n 0, 1) := by decide +kernel
theorem dX6_box_1 : decode cX6_box 1 = .ok (.iload_n 1, 1) := by decide +kernel
theorem dX6_box_2 : decode cX6_box 2 = .ok (.i2l, 1) := by decide +kernel
theorem dX6_box_3 : decode cX6_box 3 = .ok (.lconst 0, 1) := by decide +kernel
theorem dX6_box_4 : decode cX6_box 4 = .ok (.ldc2_w 37, 3) := by decide +kernel
theorem dX6_box_7 : decode cX6_box 7 = .ok (.invokestatic 65, 3) := by decide +kernel
theorem dX6_box_10 : decode cX6_box 10 = .ok (.iconst 1, 1) := by decide +kernel
theorem dX6_box_11 : decode cX6_box 11 = .ok (.invokevirtual 83, 3) := by decide +kernel
theorem dX6_box_14 : decode cX6_box 14 = .ok (.ifCond .eq 28, 3) := by decide +kernel
theorem dX6_box_17 : decode cX6_box 17 = .ok (.aload_n 0, 1) := by decide +kernel
theorem dX6_box_18 : decode cX6_box 18 = .ok (.getfield 7, 3) := by decide +kernel
theorem dX6_box_21 : decode cX6_box 21 = .ok (.bipush 7, 2) := by decide +kernel
theorem dX6_box_23 : decode cX6_box 23 = .ok (.iconst 2, 1) := by decide +kernel
theorem dX6_box_24 : decode cX6_box 24 = .ok (.iload_n 1, 1) := by decide +kernel
theorem dX6_box_25 : decode cX6_box 25 = .ok (.imul, 1) := by decide +kernel
theorem dX6_box_26 : decode cX6_box 26 = .ok (.iadd, 1) := by decide +kernel
theorem dX6_box_27 : decode cX6_box 27 = .ok (.iload_n 2, 1) := by decide +kernel
theorem dX6_box_28 : decode cX6_box 28 = .ok (.ifCond .eq 7, 3) := by decide +kernel
theorem dX6_box_31 : decode cX6_box 31 = .ok (.iconst 1, 1) := by decide +kernel
theorem dX6_box_32 : decode cX6_box 32 = .ok (.goto 4, 3) := by decide +kernel
theorem dX6_box_35 : decode cX6_box 35 = .ok (.iconst 0, 1) := by decide +kernel
theorem dX6_box_36 : decode cX6_box 36 = .ok (.iadd, 1) := by decide +kernel
theorem dX6_box_37 : decode cX6_box 37 = .ok (.laload, 1) := by decide +kernel
theorem dX6_box_38 : decode cX6_box 38 = .ok (.l2i, 1) := by decide +kernel
theorem dX6_box_39 : decode cX6_box 39 = .ok (.goto 4, 3) := by decide +kernel
theorem dX6_box_42 : decode cX6_box 42 = .ok (.iconst 0, 1) := by decide +kernel
theorem dX6_box_43 : decode cX6_box 43 = .ok (.ireturn, 1) := by decide +kernel
set_option maxRecDepth 20000 in
theorem ggX6_setPlant_X6_in : GoodIn wsX6_setPlant wsX6_in := goodIn_r _ [8] (by decide +kernel) (by decide +kernel)
set_option maxRecDepth 20000 in
theorem gX6_setPlant_X6_in : GoodIn wsX6_setPlant (va_wsS RX6 65 yX6_in wsX6_in) := goodIn_app (goodIn_of _ (by decide +kernel)) ggX6_setPlant_X6_in
set_option maxRecDepth 20000 in
theorem ggX6_setPlant_X6_goes : GoodIn wsX6_setPlant wsX6_goes := goodIn_r _ [12, 13, 20, 21, 22, 23, 24, 25, 26, 27, 28, 29, 30, 31, 32] (by decide +kernel) (by decide +kernel)
set_option maxRecDepth 20000 in
theorem gX6_setPlant_X6_goes : GoodIn wsX6_setPlant (wsV RX6 83 RX6 yX6_goes wsX6_goes) := goodIn_app (goodIn_of _ (by decide +kernel)) ggX6_setPlant_X6_goes
set_option maxRecDepth 20000 in
theorem ggX6_setPlant_X6_save : GoodIn wsX6_setPlant wsX6_save := goodIn_r _ [17, 18, 19, 4, 20, 21, 22, 23, 24, 25, 26, 27, 28, 29, 30, 31, 32] (by decide +kernel) (by decide +kernel)
set_option maxRecDepth 20000 in
theorem gX6_setPlant_X6_save : GoodIn wsX6_setPlant (wsV RX6 87 RX6 yX6_save wsX6_save) := goodIn_app (goodIn_of _ (by decide +kernel)) ggX6_setPlant_X6_save
theorem dX6_setPlant_0 : decode cX6_setPlant 0 = .ok (.iload_n 1, 1) := by decide +kernel
theorem dX6_setPlant_1 : decode cX6_setPlant 1 = .ok (.i2l, 1) := by decide +kernel
theorem dX6_setPlant_2 : decode cX6_setPlant 2 = .ok (.ldc2_w 98, 3) := by decide +kernel
theorem dX6_setPlant_5 : decode cX6_setPlant 5 = .ok (.ldc2_w 100, 3) := by decide +kernel
theorem dX6_setPlant_8 : decode cX6_setPlant 8 = .ok (.invokestatic 65, 3) := by decide +kernel
theorem dX6_setPlant_11 : decode cX6_setPlant 11 = .ok (.ifCond .eq 48, 3) := by decide +kernel
theorem dX6_setPlant_14 : decode cX6_setPlant 14 = .ok (.iload_n 2, 1) := by decide +kernel
theorem dX6_setPlant_15 : decode cX6_setPlant 15 = .ok (.i2l, 1) := by decide +kernel
theorem dX6_setPlant_16 : decode cX6_setPlant 16 = .ok (.ldc2_w 98, 3) := by decide +kernel
theorem dX6_setPlant_19 : decode cX6_setPlant 19 = .ok (.ldc2_w 100, 3) := by decide +kernel
theorem dX6_setPlant_22 : decode cX6_setPlant 22 = .ok (.invokestatic 65, 3) := by decide +kernel
theorem dX6_setPlant_25 : decode cX6_setPlant 25 = .ok (.ifCond .eq 34, 3) := by decide +kernel
theorem dX6_setPlant_28 : decode cX6_setPlant 28 = .ok (.iload_n 3, 1) := by decide +kernel
theorem dX6_setPlant_29 : decode cX6_setPlant 29 = .ok (.i2l, 1) := by decide +kernel
theorem dX6_setPlant_30 : decode cX6_setPlant 30 = .ok (.ldc2_w 98, 3) := by decide +kernel
theorem dX6_setPlant_33 : decode cX6_setPlant 33 = .ok (.ldc2_w 100, 3) := by decide +kernel
theorem dX6_setPlant_36 : decode cX6_setPlant 36 = .ok (.invokestatic 65, 3) := by decide +kernel
theorem dX6_setPlant_39 : decode cX6_setPlant 39 = .ok (.ifCond .eq 20, 3) := by decide +kernel
theorem dX6_setPlant_42 : decode cX6_setPlant 42 = .ok (.iload 4, 2) := by decide +kernel
theorem dX6_setPlant_44 : decode cX6_setPlant 44 = .ok (.i2l, 1) := by decide +kernel
theorem dX6_setPlant_45 : decode cX6_setPlant 45 = .ok (.lconst 0, 1) := by decide +kernel
theorem dX6_setPlant_46 : decode cX6_setPlant 46 = .ok (.ldc2_w 102, 3) := by decide +kernel
theorem dX6_setPlant_49 : decode cX6_setPlant 49 = .ok (.invokestatic 65, 3) := by decide +kernel
theorem dX6_setPlant_52 : decode cX6_setPlant 52 = .ok (.ifCond .eq 7, 3) := by decide +kernel
theorem dX6_setPlant_55 : decode cX6_setPlant 55 = .ok (.iconst 1, 1) := by decide +kernel
theorem dX6_setPlant_56 : decode cX6_setPlant 56 = .ok (.goto 4, 3) := by decide +kernel
theorem dX6_setPlant_59 : decode cX6_setPlant 59 = .ok (.iconst 0, 1) := by decide +kernel
theorem dX6_setPlant_60 : decode cX6_setPlant 60 = .ok (.istore 5, 2) := by decide +kernel
theorem dX6_setPlant_62 : decode cX6_setPlant 62 = .ok (.aload_n 0, 1) := by decide +kernel
theorem dX6_setPlant_63 : decode cX6_setPlant 63 = .ok (.iload 5, 2) := by decide +kernel
theorem dX6_setPlant_65 : decode cX6_setPlant 65 = .ok (.iconst 1, 1) := by decide +kernel
theorem dX6_setPlant_66 : decode cX6_setPlant 66 = .ok (.invokevirtual 83, 3) := by decide +kernel
theorem dX6_setPlant_69 : decode cX6_setPlant 69 = .ok (.ifCond .ne 5, 3) := by decide +kernel
theorem dX6_setPlant_72 : decode cX6_setPlant 72 = .ok (.iconst 0, 1) := by decide +kernel
theorem dX6_setPlant_73 : decode cX6_setPlant 73 = .ok (.ireturn, 1) := by decide +kernel
theorem dX6_setPlant_74 : decode cX6_setPlant 74 = .ok (.aload_n 0, 1) := by decide +kernel
theorem dX6_setPlant_75 : decode cX6_setPlant 75 = .ok (.invokevirtual 87, 3) := by decide +kernel
theorem dX6_setPlant_78 : decode cX6_setPlant 78 = .ok (.aload_n 0, 1) := by decide +kernel
theorem dX6_setPlant_79 : decode cX6_setPlant 79 = .ok (.getfield 7, 3) := by decide +kernel
theorem dX6_setPlant_82 : decode cX6_setPlant 82 = .ok (.bipush 30, 2) := by decide +kernel
theorem dX6_setPlant_84 : decode cX6_setPlant 84 = .ok (.iload_n 1, 1) := by decide +kernel
theorem dX6_setPlant_85 : decode cX6_setPlant 85 = .ok (.i2l, 1) := by decide +kernel
theorem dX6_setPlant_86 : decode cX6_setPlant 86 = .ok (.lastore, 1) := by decide +kernel
theorem dX6_setPlant_87 : decode cX6_setPlant 87 = .ok (.aload_n 0, 1) := by decide +kernel
theorem dX6_setPlant_88 : decode cX6_setPlant 88 = .ok (.getfield 7, 3) := by decide +kernel
theorem dX6_setPlant_91 : decode cX6_setPlant 91 = .ok (.bipush 31, 2) := by decide +kernel
theorem dX6_setPlant_93 : decode cX6_setPlant 93 = .ok (.iload_n 2, 1) := by decide +kernel
theorem dX6_setPlant_94 : decode cX6_setPlant 94 = .ok (.i2l, 1) := by decide +kernel
theorem dX6_setPlant_95 : decode cX6_setPlant 95 = .ok (.lastore, 1) := by decide +kernel
theorem dX6_setPlant_96 : decode cX6_setPlant 96 = .ok (.aload_n 0, 1) := by decide +kernel
theorem dX6_setPlant_97 : decode cX6_setPlant 97 = .ok (.getfield 7, 3) := by decide +kernel
theorem dX6_setPlant_100 : decode cX6_setPlant 100 = .ok (.bipush 32, 2) := by decide +kernel
theorem dX6_setPlant_102 : decode cX6_setPlant 102 = .ok (.iload_n 3, 1) := by decide +kernel
theorem dX6_setPlant_103 : decode cX6_setPlant 103 = .ok (.i2l, 1) := by decide +kernel
theorem dX6_setPlant_104 : decode cX6_setPlant 104 = .ok (.lastore, 1) := by decide +kernel
theorem dX6_setPlant_105 : decode cX6_setPlant 105 = .ok (.aload_n 0, 1) := by decide +kernel
theorem dX6_setPlant_106 : decode cX6_setPlant 106 = .ok (.getfield 7, 3) := by decide +kernel
theorem dX6_setPlant_109 : decode cX6_setPlant 109 = .ok (.bipush 33, 2) := by decide +kernel
theorem dX6_setPlant_111 : decode cX6_setPlant 111 = .ok (.iload 4, 2) := by decide +kernel
theorem dX6_setPlant_113 : decode cX6_setPlant 113 = .ok (.i2l, 1) := by decide +kernel
theorem dX6_setPlant_114 : decode cX6_setPlant 114 = .ok (.lastore, 1) := by decide +kernel
theorem dX6_setPlant_115 : decode cX6_setPlant 115 = .ok (.aload_n 0, 1) := by decide +kernel
theorem dX6_setPlant_116 : decode cX6_setPlant 116 = .ok (.getfield 7, 3) := by decide +kernel
theorem dX6_setPlant_119 : decode cX6_setPlant 119 = .ok (.bipush 35, 2) := by decide +kernel
theorem dX6_setPlant_121 : decode cX6_setPlant 121 = .ok (.laload, 1) := by decide +kernel
theorem dX6_setPlant_122 : decode cX6_setPlant 122 = .ok (.l2i, 1) := by decide +kernel
theorem dX6_setPlant_123 : decode cX6_setPlant 123 = .ok (.ireturn, 1) := by decide +kernel
set_option maxRecDepth 20000 in
theorem ggX6_seed_X6_in : GoodIn wsX6_seed wsX6_in := goodIn_r _ [6] (by decide +kernel) (by decide +kernel)
set_option maxRecDepth 20000 in
theorem gX6_seed_X6_in : GoodIn wsX6_seed (va_wsS RX6 65 yX6_in wsX6_in) := goodIn_app (goodIn_of _ (by decide +kernel)) ggX6_seed_X6_in
set_option maxRecDepth 20000 in
theorem ggX6_seed_X6_isSignal : GoodIn wsX6_seed wsX6_isSignal := goodIn_r _ [9, 10, 11, 3, 4, 5, 6] (by decide +kernel) (by decide +kernel)
set_option maxRecDepth 20000 in
theorem gX6_seed_X6_isSignal : GoodIn wsX6_seed (va_wsS RX6 106 yX6_isSignal wsX6_isSignal) := goodIn_app (goodIn_of _ (by decide +kernel)) ggX6_seed_X6_isSignal
set_option maxRecDepth 20000 in
theorem ggX6_seed_X6_goes : GoodIn wsX6_seed wsX6_goes := goodIn_r _ [15, 16, 23, 24, 25, 26, 27, 28, 29, 30, 31, 32, 33, 34, 35] (by decide +kernel) (by decide +kernel)
set_option maxRecDepth 20000 in
theorem gX6_seed_X6_goes : GoodIn wsX6_seed (wsV RX6 83 RX6 yX6_goes wsX6_goes) := goodIn_app (goodIn_of _ (by decide +kernel)) ggX6_seed_X6_goes
set_option maxRecDepth 20000 in
theorem ggX6_seed_X6_save : GoodIn wsX6_seed wsX6_save := goodIn_r _ [20, 21, 22, 2, 23, 24, 25, 26, 27, 28, 29, 30, 31, 32, 33, 34, 35] (by decide +kernel) (by decide +kernel)
set_option maxRecDepth 20000 in
theorem gX6_seed_X6_save : GoodIn wsX6_seed (wsV RX6 87 RX6 yX6_save wsX6_save) := goodIn_app (goodIn_of _ (by decide +kernel)) ggX6_seed_X6_save
theorem dX6_seed_0 : decode cX6_seed 0 = .ok (.aload_n 0, 1) := by decide +kernel
theorem dX6_seed_1 : decode cX6_seed 1 = .ok (.iload_n 1, 1) := by decide +kernel
theorem dX6_seed_2 : decode cX6_seed 2 = .ok (.i2l, 1) := by decide +kernel
theorem dX6_seed_3 : decode cX6_seed 3 = .ok (.lconst 0, 1) := by decide +kernel
theorem dX6_seed_4 : decode cX6_seed 4 = .ok (.ldc2_w 104, 3) := by decide +kernel
theorem dX6_seed_7 : decode cX6_seed 7 = .ok (.invokestatic 65, 3) := by decide +kernel
theorem dX6_seed_10 : decode cX6_seed 10 = .ok (.ifCond .eq 15, 3) := by decide +kernel
theorem dX6_seed_13 : decode cX6_seed 13 = .ok (.iload_n 2, 1) := by decide +kernel
theorem dX6_seed_14 : decode cX6_seed 14 = .ok (.i2l, 1) := by decide +kernel
theorem dX6_seed_15 : decode cX6_seed 15 = .ok (.invokestatic 106, 3) := by decide +kernel
theorem dX6_seed_18 : decode cX6_seed 18 = .ok (.ifCond .eq 7, 3) := by decide +kernel
theorem dX6_seed_21 : decode cX6_seed 21 = .ok (.iconst 1, 1) := by decide +kernel
theorem dX6_seed_22 : decode cX6_seed 22 = .ok (.goto 4, 3) := by decide +kernel
theorem dX6_seed_25 : decode cX6_seed 25 = .ok (.iconst 0, 1) := by decide +kernel
theorem dX6_seed_26 : decode cX6_seed 26 = .ok (.iconst 1, 1) := by decide +kernel
theorem dX6_seed_27 : decode cX6_seed 27 = .ok (.invokevirtual 83, 3) := by decide +kernel
theorem dX6_seed_30 : decode cX6_seed 30 = .ok (.ifCond .ne 5, 3) := by decide +kernel
theorem dX6_seed_33 : decode cX6_seed 33 = .ok (.iconst 0, 1) := by decide +kernel
theorem dX6_seed_34 : decode cX6_seed 34 = .ok (.ireturn, 1) := by decide +kernel
theorem dX6_seed_35 : decode cX6_seed 35 = .ok (.aload_n 0, 1) := by decide +kernel
theorem dX6_seed_36 : decode cX6_seed 36 = .ok (.invokevirtual 87, 3) := by decide +kernel
theorem dX6_seed_39 : decode cX6_seed 39 = .ok (.aload_n 0, 1) := by decide +kernel
theorem dX6_seed_40 : decode cX6_seed 40 = .ok (.getfield 7, 3) := by decide +kernel
theorem dX6_seed_43 : decode cX6_seed 43 = .ok (.bipush 35, 2) := by decide +kernel
theorem dX6_seed_45 : decode cX6_seed 45 = .ok (.laload, 1) := by decide +kernel
theorem dX6_seed_46 : decode cX6_seed 46 = .ok (.l2i, 1) := by decide +kernel
theorem dX6_seed_47 : decode cX6_seed 47 = .ok (.istore_n 3, 1) := by decide +kernel
theorem dX6_seed_48 : decode cX6_seed 48 = .ok (.aload_n 0, 1) := by decide +kernel
theorem dX6_seed_49 : decode cX6_seed 49 = .ok (.getfield 7, 3) := by decide +kernel
theorem dX6_seed_52 : decode cX6_seed 52 = .ok (.bipush 34, 2) := by decide +kernel
theorem dX6_seed_54 : decode cX6_seed 54 = .ok (.iload_n 1, 1) := by decide +kernel
theorem dX6_seed_55 : decode cX6_seed 55 = .ok (.i2l, 1) := by decide +kernel
theorem dX6_seed_56 : decode cX6_seed 56 = .ok (.lastore, 1) := by decide +kernel
theorem dX6_seed_57 : decode cX6_seed 57 = .ok (.aload_n 0, 1) := by decide +kernel
theorem dX6_seed_58 : decode cX6_seed 58 = .ok (.getfield 7, 3) := by decide +kernel
theorem dX6_seed_61 : decode cX6_seed 61 = .ok (.bipush 35, 2) := by decide +kernel
theorem dX6_seed_63 : decode cX6_seed 63 = .ok (.iload_n 2, 1) := by decide +kernel
theorem dX6_seed_64 : decode cX6_seed 64 = .ok (.i2l, 1) := by decide +kernel
theorem dX6_seed_65 : decode cX6_seed 65 = .ok (.lastore, 1) := by decide +kernel
theorem dX6_seed_66 : decode cX6_seed 66 = .ok (.iload_n 3, 1) := by decide +kernel
theorem dX6_seed_67 : decode cX6_seed 67 = .ok (.ireturn, 1) := by decide +kernel
theorem dX6_laysP_0 : decode cX6_laysP 0 = .ok (.iconst 0, 1) := by decide +kernel
theorem dX6_laysP_1 : decode cX6_laysP 1 = .ok (.istore_n 1, 1) := by decide +kernel
theorem dX6_laysP_2 : decode cX6_laysP 2 = .ok (.iload_n 1, 1) := by decide +kernel
theorem dX6_laysP_3 : decode cX6_laysP 3 = .ok (.bipush 9, 2) := by decide +kernel
theorem dX6_laysP_5 : decode cX6_laysP 5 = .ok (.if_icmp .ge 31, 3) := by decide +kernel
theorem dX6_laysP_8 : decode cX6_laysP 8 = .ok (.aload_n 0, 1) := by decide +kernel
theorem dX6_laysP_9 : decode cX6_laysP 9 = .ok (.getfield 7, 3) := by decide +kernel
theorem dX6_laysP_12 : decode cX6_laysP 12 = .ok (.bipush 16, 2) := by decide +kernel
theorem dX6_laysP_14 : decode cX6_laysP 14 = .ok (.iload_n 1, 1) := by decide +kernel
theorem dX6_laysP_15 : decode cX6_laysP 15 = .ok (.iadd, 1) := by decide +kernel
theorem dX6_laysP_16 : decode cX6_laysP 16 = .ok (.iload_n 1, 1) := by decide +kernel
theorem dX6_laysP_17 : decode cX6_laysP 17 = .ok (.iconst 4, 1) := by decide +kernel
theorem dX6_laysP_18 : decode cX6_laysP 18 = .ok (.irem, 1) := by decide +kernel
theorem dX6_laysP_19 : decode cX6_laysP 19 = .ok (.ifCond .ne 9, 3) := by decide +kernel
theorem dX6_laysP_22 : decode cX6_laysP 22 = .ok (.ldc2_w 110, 3) := by decide +kernel
theorem dX6_laysP_25 : decode cX6_laysP 25 = .ok (.goto 4, 3) := by decide +kernel
theorem dX6_laysP_28 : decode cX6_laysP 28 = .ok (.lconst 0, 1) := by decide +kernel
theorem dX6_laysP_29 : decode cX6_laysP 29 = .ok (.lastore, 1) := by decide +kernel
theorem dX6_laysP_30 : decode cX6_laysP 30 = .ok (.iinc 1 1, 3) := by decide +kernel
theorem dX6_laysP_33 : decode cX6_laysP 33 = .ok (.goto (-31), 3) := by decide +kernel
theorem dX6_laysP_36 : decode cX6_laysP 36 = .ok (.return_, 1) := by decide +kernel
set_option maxRecDepth 20000 in
theorem ggX6_begins_X6_boxes : GoodIn wsX6_begins wsX6_boxes := goodIn_r _ [7, 1, 8, 9, 6, 10, 16, 17, 18, 19, 20, 21, 22, 23, 24, 25, 26, 27, 28] (by decide +kernel) (by decide +kernel)
set_option maxRecDepth 20000 in
theorem gX6_begins_X6_boxes : GoodIn wsX6_begins (wsV RX6 94 RX6 yX6_boxes wsX6_boxes) := goodIn_app (goodIn_of _ (by decide +kernel)) ggX6_begins_X6_boxes
set_option maxRecDepth 20000 in
theorem ggX6_begins_X6_laysP : GoodIn wsX6_begins wsX6_laysP := goodIn_r _ [14, 1, 15, 16, 17, 18, 19, 20, 21, 22, 23, 24, 25, 26, 27, 28] (by decide +kernel) (by decide +kernel)
set_option maxRecDepth 20000 in
theorem gX6_begins_X6_laysP : GoodIn wsX6_begins (wsV RX6 112 RX6 yX6_laysP wsX6_laysP) := goodIn_app (goodIn_of _ (by decide +kernel)) ggX6_begins_X6_laysP
theorem dX6_begins_0 : decode cX6_begins 0 = .ok (.aload_n 0, 1) := by decide +kernel
theorem dX6_begins_1 : decode cX6_begins 1 = .ok (.getfield 7, 3) := by decide +kernel
theorem dX6_begins_4 : decode cX6_begins 4 = .ok (.bipush 13, 2) := by decide +kernel
theorem dX6_begins_6 : decode cX6_begins 6 = .ok (.lconst 0, 1) := by decide +kernel
theorem dX6_begins_7 : decode cX6_begins 7 = .ok (.lastore, 1) := by decide +kernel
theorem dX6_begins_8 : decode cX6_begins 8 = .ok (.aload_n 0, 1) := by decide +kernel
theorem dX6_begins_9 : decode cX6_begins 9 = .ok (.getfield 7, 3) := by decide +kernel
theorem dX6_begins_12 : decode cX6_begins 12 = .ok (.bipush 14, 2) := by decide +kernel
theorem dX6_begins_14 : decode cX6_begins 14 = .ok (.ldc2_w 71, 3) := by decide +kernel
theorem dX6_begins_17 : decode cX6_begins 17 = .ok (.lastore, 1) := by decide +kernel
theorem dX6_begins_18 : decode cX6_begins 18 = .ok (.aload_n 0, 1) := by decide +kernel
theorem dX6_begins_19 : decode cX6_begins 19 = .ok (.getfield 7, 3) := by decide +kernel
theorem dX6_begins_22 : decode cX6_begins 22 = .ok (.bipush 15, 2) := by decide +kernel
theorem dX6_begins_24 : decode cX6_begins 24 = .ok (.lconst 0, 1) := by decide +kernel
theorem dX6_begins_25 : decode cX6_begins 25 = .ok (.lastore, 1) := by decide +kernel
theorem dX6_begins_26 : decode cX6_begins 26 = .ok (.iconst 0, 1) := by decide +kernel
theorem dX6_begins_27 : decode cX6_begins 27 = .ok (.istore_n 1, 1) := by decide +kernel
theorem dX6_begins_28 : decode cX6_begins 28 = .ok (.iload_n 1, 1) := by decide +kernel
theorem dX6_begins_29 : decode cX6_begins 29 = .ok (.iconst 3, 1) := by decide +kernel
theorem dX6_begins_30 : decode cX6_begins 30 = .ok (.if_icmp .ge 15, 3) := by decide +kernel
theorem dX6_begins_33 : decode cX6_begins 33 = .ok (.aload_n 0, 1) := by decide +kernel
theorem dX6_begins_34 : decode cX6_begins 34 = .ok (.iload_n 1, 1) := by decide +kernel
theorem dX6_begins_35 : decode cX6_begins 35 = .ok (.invokevirtual 94, 3) := by decide +kernel
theorem dX6_begins_38 : decode cX6_begins 38 = .ok (.istore_n 2, 1) := by decide +kernel
theorem dX6_begins_39 : decode cX6_begins 39 = .ok (.iinc 1 1, 3) := by decide +kernel
theorem dX6_begins_42 : decode cX6_begins 42 = .ok (.goto (-14), 3) := by decide +kernel
theorem dX6_begins_45 : decode cX6_begins 45 = .ok (.aload_n 0, 1) := by decide +kernel
theorem dX6_begins_46 : decode cX6_begins 46 = .ok (.invokevirtual 112, 3) := by decide +kernel
theorem dX6_begins_49 : decode cX6_begins 49 = .ok (.bipush 25, 2) := by decide +kernel
theorem dX6_begins_51 : decode cX6_begins 51 = .ok (.istore_n 1, 1) := by decide +kernel
theorem dX6_begins_52 : decode cX6_begins 52 = .ok (.iload_n 1, 1) := by decide +kernel
theorem dX6_begins_53 : decode cX6_begins 53 = .ok (.bipush 30, 2) := by decide +kernel
theorem dX6_begins_55 : decode cX6_begins 55 = .ok (.if_icmp .ge 16, 3) := by decide +kernel
theorem dX6_begins_58 : decode cX6_begins 58 = .ok (.aload_n 0, 1) := by decide +kernel
theorem dX6_begins_59 : decode cX6_begins 59 = .ok (.getfield 7, 3) := by decide +kernel
theorem dX6_begins_62 : decode cX6_begins 62 = .ok (.iload_n 1, 1) := by decide +kernel
theorem dX6_begins_63 : decode cX6_begins 63 = .ok (.lconst 0, 1) := by decide +kernel
theorem dX6_begins_64 : decode cX6_begins 64 = .ok (.lastore, 1) := by decide +kernel
theorem dX6_begins_65 : decode cX6_begins 65 = .ok (.iinc 1 1, 3) := by decide +kernel
theorem dX6_begins_68 : decode cX6_begins 68 = .ok (.goto (-16), 3) := by decide +kernel
theorem dX6_begins_71 : decode cX6_begins 71 = .ok (.return_, 1) := by decide +kernel
theorem dX6_takesRegressor_0 : decode cX6_takesRegressor 0 = .ok (.aload_n 0, 1) := by decide +kernel
theorem dX6_takesRegressor_1 : decode cX6_takesRegressor 1 = .ok (.getfield 19, 3) := by decide +kernel
theorem dX6_takesRegressor_4 : decode cX6_takesRegressor 4 = .ok (.iconst 0, 1) := by decide +kernel
theorem dX6_takesRegressor_5 : decode cX6_takesRegressor 5 = .ok (.lload_n 1, 1) := by decide +kernel
theorem dX6_takesRegressor_6 : decode cX6_takesRegressor 6 = .ok (.lastore, 1) := by decide +kernel
theorem dX6_takesRegressor_7 : decode cX6_takesRegressor 7 = .ok (.aload_n 0, 1) := by decide +kernel
theorem dX6_takesRegressor_8 : decode cX6_takesRegressor 8 = .ok (.getfield 19, 3) := by decide +kernel
theorem dX6_takesRegressor_11 : decode cX6_takesRegressor 11 = .ok (.iconst 1, 1) := by decide +kernel
theorem dX6_takesRegressor_12 : decode cX6_takesRegressor 12 = .ok (.lload_n 3, 1) := by decide +kernel
theorem dX6_takesRegressor_13 : decode cX6_takesRegressor 13 = .ok (.lastore, 1) := by decide +kernel
theorem dX6_takesRegressor_14 : decode cX6_takesRegressor 14 = .ok (.aload_n 0, 1) := by decide +kernel
theorem dX6_takesRegressor_15 : decode cX6_takesRegressor 15 = .ok (.getfield 19, 3) := by decide +kernel
theorem dX6_takesRegressor_18 : decode cX6_takesRegressor 18 = .ok (.iconst 2, 1) := by decide +kernel
theorem dX6_takesRegressor_19 : decode cX6_takesRegressor 19 = .ok (.lconst 1, 1) := by decide +kernel
theorem dX6_takesRegressor_20 : decode cX6_takesRegressor 20 = .ok (.lastore, 1) := by decide +kernel
theorem dX6_takesRegressor_21 : decode cX6_takesRegressor 21 = .ok (.return_, 1) := by decide +kernel
theorem dX6_sum_0 : decode cX6_sum 0 = .ok (.aload_n 0, 1) := by decide +kernel
theorem dX6_sum_1 : decode cX6_sum 1 = .ok (.getfield 7, 3) := by decide +kernel
theorem dX6_sum_4 : decode cX6_sum 4 = .ok (.bipush 13, 2) := by decide +kernel
theorem dX6_sum_6 : decode cX6_sum 6 = .ok (.laload, 1) := by decide +kernel
theorem dX6_sum_7 : decode cX6_sum 7 = .ok (.aload_n 0, 1) := by decide +kernel
theorem dX6_sum_8 : decode cX6_sum 8 = .ok (.getfield 19, 3) := by decide +kernel
theorem dX6_sum_11 : decode cX6_sum 11 = .ok (.iconst 0, 1) := by decide +kernel
theorem dX6_sum_12 : decode cX6_sum 12 = .ok (.laload, 1) := by decide +kernel
theorem dX6_sum_13 : decode cX6_sum 13 = .ok (.lmul, 1) := by decide +kernel
theorem dX6_sum_14 : decode cX6_sum 14 = .ok (.aload_n 0, 1) := by decide +kernel
theorem dX6_sum_15 : decode cX6_sum 15 = .ok (.getfield 7, 3) := by decide +kernel
theorem dX6_sum_18 : decode cX6_sum 18 = .ok (.bipush 14, 2) := by decide +kernel
theorem dX6_sum_20 : decode cX6_sum 20 = .ok (.laload, 1) := by decide +kernel
theorem dX6_sum_21 : decode cX6_sum 21 = .ok (.aload_n 0, 1) := by decide +kernel
theorem dX6_sum_22 : decode cX6_sum 22 = .ok (.getfield 19, 3) := by decide +kernel
theorem dX6_sum_25 : decode cX6_sum 25 = .ok (.iconst 1, 1) := by decide +kernel
theorem dX6_sum_26 : decode cX6_sum 26 = .ok (.laload, 1) := by decide +kernel
theorem dX6_sum_27 : decode cX6_sum 27 = .ok (.lmul, 1) := by decide +kernel
theorem dX6_sum_28 : decode cX6_sum 28 = .ok (.ladd, 1) := by decide +kernel
theorem dX6_sum_29 : decode cX6_sum 29 = .ok (.aload_n 0, 1) := by decide +kernel
theorem dX6_sum_30 : decode cX6_sum 30 = .ok (.getfield 7, 3) := by decide +kernel
theorem dX6_sum_33 : decode cX6_sum 33 = .ok (.bipush 15, 2) := by decide +kernel
theorem dX6_sum_35 : decode cX6_sum 35 = .ok (.laload, 1) := by decide +kernel
theorem dX6_sum_36 : decode cX6_sum 36 = .ok (.aload_n 0, 1) := by decide +kernel
theorem dX6_sum_37 : decode cX6_sum 37 = .ok (.getfield 19, 3) := by decide +kernel
theorem dX6_sum_40 : decode cX6_sum 40 = .ok (.iconst 2, 1) := by decide +kernel
theorem dX6_sum_41 : decode cX6_sum 41 = .ok (.laload, 1) := by decide +kernel
theorem dX6_sum_42 : decode cX6_sum 42 = .ok (.lmul, 1) := by decide +kernel
theorem dX6_sum_43 : decode cX6_sum 43 = .ok (.ladd, 1) := by decide +kernel
theorem dX6_sum_44 : decode cX6_sum 44 = .ok (.lreturn, 1) := by decide +kernel
theorem dX6_laysGains_0 : decode cX6_laysGains 0 = .ok (.aload_n 0, 1) := by decide +kernel
theorem dX6_laysGains_1 : decode cX6_laysGains 1 = .ok (.lconst 0, 1) := by decide +kernel
theorem dX6_laysGains_2 : decode cX6_laysGains 2 = .ok (.putfield 115, 3) := by decide +kernel
theorem dX6_laysGains_5 : decode cX6_laysGains 5 = .ok (.iconst 0, 1) := by decide +kernel
theorem dX6_laysGains_6 : decode cX6_laysGains 6 = .ok (.istore_n 1, 1) := by decide +kernel
theorem dX6_laysGains_7 : decode cX6_laysGains 7 = .ok (.iload_n 1, 1) := by decide +kernel
theorem dX6_laysGains_8 : decode cX6_laysGains 8 = .ok (.iconst 3, 1) := by decide +kernel
theorem dX6_laysGains_9 : decode cX6_laysGains 9 = .ok (.if_icmp .ge 97, 3) := by decide +kernel
theorem dX6_laysGains_12 : decode cX6_laysGains 12 = .ok (.aload_n 0, 1) := by decide +kernel
theorem dX6_laysGains_13 : decode cX6_laysGains 13 = .ok (.getfield 22, 3) := by decide +kernel
theorem dX6_laysGains_16 : decode cX6_laysGains 16 = .ok (.iload_n 1, 1) := by decide +kernel
theorem dX6_laysGains_17 : decode cX6_laysGains 17 = .ok (.aload_n 0, 1) := by decide +kernel
theorem dX6_laysGains_18 : decode cX6_laysGains 18 = .ok (.getfield 7, 3) := by decide +kernel
theorem dX6_laysGains_21 : decode cX6_laysGains 21 = .ok (.bipush 16, 2) := by decide +kernel
theorem dX6_laysGains_23 : decode cX6_laysGains 23 = .ok (.iconst 3, 1) := by decide +kernel
theorem dX6_laysGains_24 : decode cX6_laysGains 24 = .ok (.iload_n 1, 1) := by decide +kernel
theorem dX6_laysGains_25 : decode cX6_laysGains 25 = .ok (.imul, 1) := by decide +kernel
theorem dX6_laysGains_26 : decode cX6_laysGains 26 = .ok (.iadd, 1) := by decide +kernel
theorem dX6_laysGains_27 : decode cX6_laysGains 27 = .ok (.laload, 1) := by decide +kernel
theorem dX6_laysGains_28 : decode cX6_laysGains 28 = .ok (.aload_n 0, 1) := by decide +kernel
theorem dX6_laysGains_29 : decode cX6_laysGains 29 = .ok (.getfield 19, 3) := by decide +kernel
theorem dX6_laysGains_32 : decode cX6_laysGains 32 = .ok (.iconst 0, 1) := by decide +kernel
theorem dX6_laysGains_33 : decode cX6_laysGains 33 = .ok (.laload, 1) := by decide +kernel
theorem dX6_laysGains_34 : decode cX6_laysGains 34 = .ok (.lmul, 1) := by decide +kernel
theorem dX6_laysGains_35 : decode cX6_laysGains 35 = .ok (.aload_n 0, 1) := by decide +kernel
theorem dX6_laysGains_36 : decode cX6_laysGains 36 = .ok (.getfield 7, 3) := by decide +kernel
theorem dX6_laysGains_39 : decode cX6_laysGains 39 = .ok (.bipush 16, 2) := by decide +kernel
theorem dX6_laysGains_41 : decode cX6_laysGains 41 = .ok (.iconst 3, 1) := by decide +kernel
theorem dX6_laysGains_42 : decode cX6_laysGains 42 = .ok (.iload_n 1, 1) := by decide +kernel
theorem dX6_laysGains_43 : decode cX6_laysGains 43 = .ok (.imul, 1) := by decide +kernel
theorem dX6_laysGains_44 : decode cX6_laysGains 44 = .ok (.iadd, 1) := by decide +kernel
theorem dX6_laysGains_45 : decode cX6_laysGains 45 = .ok (.iconst 1, 1) := by decide +kernel
theorem dX6_laysGains_46 : decode cX6_laysGains 46 = .ok (.iadd, 1) := by decide +kernel
theorem dX6_laysGains_47 : decode cX6_laysGains 47 = .ok (.laload, 1) := by decide +kernel
theorem dX6_laysGains_48 : decode cX6_laysGains 48 = .ok (.aload_n 0, 1) := by decide +kernel
theorem dX6_laysGains_49 : decode cX6_laysGains 49 = .ok (.getfield 19, 3) := by decide +kernel
theorem dX6_laysGains_52 : decode cX6_laysGains 52 = .ok (.iconst 1, 1) := by decide +kernel
theorem dX6_laysGains_53 : decode cX6_laysGains 53 = .ok (.laload, 1) := by decide +kernel
theorem dX6_laysGains_54 : decode cX6_laysGains 54 = .ok (.lmul, 1) := by decide +kernel
theorem dX6_laysGains_55 : decode cX6_laysGains 55 = .ok (.ladd, 1) := by decide +kernel
theorem dX6_laysGains_56 : decode cX6_laysGains 56 = .ok (.aload_n 0, 1) := by decide +kernel
theorem dX6_laysGains_57 : decode cX6_laysGains 57 = .ok (.getfield 7, 3) := by decide +kernel
theorem dX6_laysGains_60 : decode cX6_laysGains 60 = .ok (.bipush 16, 2) := by decide +kernel
theorem dX6_laysGains_62 : decode cX6_laysGains 62 = .ok (.iconst 3, 1) := by decide +kernel
theorem dX6_laysGains_63 : decode cX6_laysGains 63 = .ok (.iload_n 1, 1) := by decide +kernel
theorem dX6_laysGains_64 : decode cX6_laysGains 64 = .ok (.imul, 1) := by decide +kernel
theorem dX6_laysGains_65 : decode cX6_laysGains 65 = .ok (.iadd, 1) := by decide +kernel
theorem dX6_laysGains_66 : decode cX6_laysGains 66 = .ok (.iconst 2, 1) := by decide +kernel
theorem dX6_laysGains_67 : decode cX6_laysGains 67 = .ok (.iadd, 1) := by decide +kernel
theorem dX6_laysGains_68 : decode cX6_laysGains 68 = .ok (.laload, 1) := by decide +kernel
theorem dX6_laysGains_69 : decode cX6_laysGains 69 = .ok (.aload_n 0, 1) := by decide +kernel
theorem dX6_laysGains_70 : decode cX6_laysGains 70 = .ok (.getfield 19, 3) := by decide +kernel
theorem dX6_laysGains_73 : decode cX6_laysGains 73 = .ok (.iconst 2, 1) := by decide +kernel
theorem dX6_laysGains_74 : decode cX6_laysGains 74 = .ok (.laload, 1) := by decide +kernel
theorem dX6_laysGains_75 : decode cX6_laysGains 75 = .ok (.lmul, 1) := by decide +kernel
theorem dX6_laysGains_76 : decode cX6_laysGains 76 = .ok (.ladd, 1) := by decide +kernel
theorem dX6_laysGains_77 : decode cX6_laysGains 77 = .ok (.lastore, 1) := by decide +kernel
theorem dX6_laysGains_78 : decode cX6_laysGains 78 = .ok (.aload_n 0, 1) := by decide +kernel
theorem dX6_laysGains_79 : decode cX6_laysGains 79 = .ok (.dup, 1) := by decide +kernel
theorem dX6_laysGains_80 : decode cX6_laysGains 80 = .ok (.getfield 115, 3) := by decide +kernel
theorem dX6_laysGains_83 : decode cX6_laysGains 83 = .ok (.aload_n 0, 1) := by decide +kernel
theorem dX6_laysGains_84 : decode cX6_laysGains 84 = .ok (.getfield 19, 3) := by decide +kernel
theorem dX6_laysGains_87 : decode cX6_laysGains 87 = .ok (.iload_n 1, 1) := by decide +kernel
theorem dX6_laysGains_88 : decode cX6_laysGains 88 = .ok (.laload, 1) := by decide +kernel
theorem dX6_laysGains_89 : decode cX6_laysGains 89 = .ok (.aload_n 0, 1) := by decide +kernel
theorem dX6_laysGains_90 : decode cX6_laysGains 90 = .ok (.getfield 22, 3) := by decide +kernel
theorem dX6_laysGains_93 : decode cX6_laysGains 93 = .ok (.iload_n 1, 1) := by decide +kernel
theorem dX6_laysGains_94 : decode cX6_laysGains 94 = .ok (.laload, 1) := by decide +kernel
theorem dX6_laysGains_95 : decode cX6_laysGains 95 = .ok (.lmul, 1) := by decide +kernel
theorem dX6_laysGains_96 : decode cX6_laysGains 96 = .ok (.ladd, 1) := by decide +kernel
theorem dX6_laysGains_97 : decode cX6_laysGains 97 = .ok (.putfield 115, 3) := by decide +kernel
theorem dX6_laysGains_100 : decode cX6_laysGains 100 = .ok (.iinc 1 1, 3) := by decide +kernel
theorem dX6_laysGains_103 : decode cX6_laysGains 103 = .ok (.goto (-96), 3) := by decide +kernel
theorem dX6_laysGains_106 : decode cX6_laysGains 106 = .ok (.aload_n 0, 1) := by decide +kernel
theorem dX6_laysGains_107 : decode cX6_laysGains 107 = .ok (.aload_n 0, 1) := by decide +kernel
theorem dX6_laysGains_108 : decode cX6_laysGains 108 = .ok (.getfield 115, 3) := by decide +kernel
theorem dX6_laysGains_111 : decode cX6_laysGains 111 = .ok (.lconst 0, 1) := by decide +kernel
theorem dX6_laysGains_112 : decode cX6_laysGains 112 = .ok (.lcmp, 1) := by decide +kernel
theorem dX6_laysGains_113 : decode cX6_laysGains 113 = .ok (.ifCond .ge 7, 3) := by decide +kernel
theorem dX6_laysGains_116 : decode cX6_laysGains 116 = .ok (.lconst 0, 1) := by decide +kernel
theorem dX6_laysGains_117 : decode cX6_laysGains 117 = .ok (.goto 7, 3) := by decide +kernel
theorem dX6_laysGains_120 : decode cX6_laysGains 120 = .ok (.aload_n 0, 1) := by decide +kernel
theorem dX6_laysGains_121 : decode cX6_laysGains 121 = .ok (.getfield 115, 3) := by decide +kernel
theorem dX6_laysGains_124 : decode cX6_laysGains 124 = .ok (.putfield 115, 3) := by decide +kernel
theorem dX6_laysGains_127 : decode cX6_laysGains 127 = .ok (.return_, 1) := by decide +kernel
theorem dX6_kept_0 : decode cX6_kept 0 = .ok (.aload_n 0, 1) := by decide +kernel
theorem dX6_kept_1 : decode cX6_kept 1 = .ok (.getfield 7, 3) := by decide +kernel
theorem dX6_kept_4 : decode cX6_kept 4 = .ok (.bipush 25, 2) := by decide +kernel
theorem dX6_kept_6 : decode cX6_kept 6 = .ok (.laload, 1) := by decide +kernel
theorem dX6_kept_7 : decode cX6_kept 7 = .ok (.ldc2_w 75, 3) := by decide +kernel
theorem dX6_kept_10 : decode cX6_kept 10 = .ok (.lcmp, 1) := by decide +kernel
theorem dX6_kept_11 : decode cX6_kept 11 = .ok (.ifCond .ge 14, 3) := by decide +kernel
theorem dX6_kept_14 : decode cX6_kept 14 = .ok (.aload_n 0, 1) := by decide +kernel
theorem dX6_kept_15 : decode cX6_kept 15 = .ok (.getfield 7, 3) := by decide +kernel
theorem dX6_kept_18 : decode cX6_kept 18 = .ok (.bipush 25, 2) := by decide +kernel
theorem dX6_kept_20 : decode cX6_kept 20 = .ok (.laload, 1) := by decide +kernel
theorem dX6_kept_21 : decode cX6_kept 21 = .ok (.l2i, 1) := by decide +kernel
theorem dX6_kept_22 : decode cX6_kept 22 = .ok (.goto 5, 3) := by decide +kernel
theorem dX6_kept_25 : decode cX6_kept 25 = .ok (.bipush 20, 2) := by decide +kernel
theorem dX6_kept_27 : decode cX6_kept 27 = .ok (.ireturn, 1) := by decide +kernel
set_option maxRecDepth 20000 in
theorem ggX6_keeps_X6_kept : GoodIn wsX6_keeps wsX6_kept := goodIn_r _ [6, 1, 7, 8, 9, 10, 11, 12, 13, 14, 15, 16, 17, 18, 19, 20] (by decide +kernel) (by decide +kernel)
set_option maxRecDepth 20000 in
theorem gX6_keeps_X6_kept : GoodIn wsX6_keeps (wsV RX6 119 RX6 yX6_kept wsX6_kept) := goodIn_app (goodIn_of _ (by decide +kernel)) ggX6_keeps_X6_kept
theorem dX6_keeps_0 : decode cX6_keeps 0 = .ok (.aload_n 0, 1) := by decide +kernel
theorem dX6_keeps_1 : decode cX6_keeps 1 = .ok (.invokevirtual 119, 3) := by decide +kernel
theorem dX6_keeps_4 : decode cX6_keeps 4 = .ok (.istore 5, 2) := by decide +kernel
theorem dX6_keeps_6 : decode cX6_keeps 6 = .ok (.iload 5, 2) := by decide +kernel
theorem dX6_keeps_8 : decode cX6_keeps 8 = .ok (.bipush 20, 2) := by decide +kernel
theorem dX6_keeps_10 : decode cX6_keeps 10 = .ok (.if_icmp .ne 39, 3) := by decide +kernel
theorem dX6_keeps_13 : decode cX6_keeps 13 = .ok (.bipush 36, 2) := by decide +kernel
theorem dX6_keeps_15 : decode cX6_keeps 15 = .ok (.istore 6, 2) := by decide +kernel
theorem dX6_keeps_17 : decode cX6_keeps 17 = .ok (.iload 6, 2) := by decide +kernel
theorem dX6_keeps_19 : decode cX6_keeps 19 = .ok (.bipush 74, 2) := by decide +kernel
theorem dX6_keeps_21 : decode cX6_keeps 21 = .ok (.if_icmp .ge 25, 3) := by decide +kernel
theorem dX6_keeps_24 : decode cX6_keeps 24 = .ok (.aload_n 0, 1) := by decide +kernel
theorem dX6_keeps_25 : decode cX6_keeps 25 = .ok (.getfield 7, 3) := by decide +kernel
theorem dX6_keeps_28 : decode cX6_keeps 28 = .ok (.iload 6, 2) := by decide +kernel
theorem dX6_keeps_30 : decode cX6_keeps 30 = .ok (.aload_n 0, 1) := by decide +kernel
theorem dX6_keeps_31 : decode cX6_keeps 31 = .ok (.getfield 7, 3) := by decide +kernel
theorem dX6_keeps_34 : decode cX6_keeps 34 = .ok (.iload 6, 2) := by decide +kernel
theorem dX6_keeps_36 : decode cX6_keeps 36 = .ok (.iconst 2, 1) := by decide +kernel
theorem dX6_keeps_37 : decode cX6_keeps 37 = .ok (.iadd, 1) := by decide +kernel
theorem dX6_keeps_38 : decode cX6_keeps 38 = .ok (.laload, 1) := by decide +kernel
theorem dX6_keeps_39 : decode cX6_keeps 39 = .ok (.lastore, 1) := by decide +kernel
theorem dX6_keeps_40 : decode cX6_keeps 40 = .ok (.iinc 6 1, 3) := by decide +kernel
theorem dX6_keeps_43 : decode cX6_keeps 43 = .ok (.goto (-26), 3) := by decide +kernel
theorem dX6_keeps_46 : decode cX6_keeps 46 = .ok (.iinc 5 (-1), 3) := by decide +kernel
theorem dX6_keeps_49 : decode cX6_keeps 49 = .ok (.aload_n 0, 1) := by decide +kernel
theorem dX6_keeps_50 : decode cX6_keeps 50 = .ok (.getfield 7, 3) := by decide +kernel
theorem dX6_keeps_53 : decode cX6_keeps 53 = .ok (.bipush 36, 2) := by decide +kernel
theorem dX6_keeps_55 : decode cX6_keeps 55 = .ok (.iconst 2, 1) := by decide +kernel
theorem dX6_keeps_56 : decode cX6_keeps 56 = .ok (.iload 5, 2) := by decide +kernel
theorem dX6_keeps_58 : decode cX6_keeps 58 = .ok (.imul, 1) := by decide +kernel
theorem dX6_keeps_59 : decode cX6_keeps 59 = .ok (.iadd, 1) := by decide +kernel
theorem dX6_keeps_60 : decode cX6_keeps 60 = .ok (.lload_n 1, 1) := by decide +kernel
theorem dX6_keeps_61 : decode cX6_keeps 61 = .ok (.lastore, 1) := by decide +kernel
theorem dX6_keeps_62 : decode cX6_keeps 62 = .ok (.aload_n 0, 1) := by decide +kernel
theorem dX6_keeps_63 : decode cX6_keeps 63 = .ok (.getfield 7, 3) := by decide +kernel
theorem dX6_keeps_66 : decode cX6_keeps 66 = .ok (.bipush 36, 2) := by decide +kernel
theorem dX6_keeps_68 : decode cX6_keeps 68 = .ok (.iconst 2, 1) := by decide +kernel
theorem dX6_keeps_69 : decode cX6_keeps 69 = .ok (.iload 5, 2) := by decide +kernel
theorem dX6_keeps_71 : decode cX6_keeps 71 = .ok (.imul, 1) := by decide +kernel
theorem dX6_keeps_72 : decode cX6_keeps 72 = .ok (.iadd, 1) := by decide +kernel
theorem dX6_keeps_73 : decode cX6_keeps 73 = .ok (.iconst 1, 1) := by decide +kernel
theorem dX6_keeps_74 : decode cX6_keeps 74 = .ok (.iadd, 1) := by decide +kernel
theorem dX6_keeps_75 : decode cX6_keeps 75 = .ok (.lload_n 3, 1) := by decide +kernel
theorem dX6_keeps_76 : decode cX6_keeps 76 = .ok (.lastore, 1) := by decide +kernel
theorem dX6_keeps_77 : decode cX6_keeps 77 = .ok (.return_, 1) := by decide +kernel
set_option maxRecDepth 20000 in
theorem ggX6_updatesP_X6_floor : GoodIn wsX6_updatesP wsX6_floor := goodIn_r _ [11] (by decide +kernel) (by decide +kernel)
set_option maxRecDepth 20000 in
theorem gX6_updatesP_X6_floor : GoodIn wsX6_updatesP (va_wsS RX6 123 yX6_floor wsX6_floor) := goodIn_app (goodIn_of _ (by decide +kernel)) ggX6_updatesP_X6_floor
set_option maxRecDepth 20000 in
theorem ggX6_updatesP_X6_within : GoodIn wsX6_updatesP wsX6_within := goodIn_r _ [14] (by decide +kernel) (by decide +kernel)
set_option maxRecDepth 20000 in
theorem gX6_updatesP_X6_within : GoodIn wsX6_updatesP (va_wsS RX6 90 yX6_within wsX6_within) := goodIn_app (goodIn_of _ (by decide +kernel)) ggX6_updatesP_X6_within
set_option maxRecDepth 20000 in
theorem ggX6_updatesP_X6_laysP : GoodIn wsX6_updatesP wsX6_laysP := goodIn_r _ [18, 1, 19, 20, 21, 22, 23, 24, 25, 26, 27, 28, 29, 30, 31, 32] (by decide +kernel) (by decide +kernel)
set_option maxRecDepth 20000 in
theorem gX6_updatesP_X6_laysP : GoodIn wsX6_updatesP (wsV RX6 112 RX6 yX6_laysP wsX6_laysP) := goodIn_app (goodIn_of _ (by decide +kernel)) ggX6_updatesP_X6_laysP
theorem dX6_updatesP_0 : decode cX6_updatesP 0 = .ok (.iconst 0, 1) := by decide +kernel
theorem dX6_updatesP_1 : decode cX6_updatesP 1 = .ok (.istore_n 3, 1) := by decide +kernel
theorem dX6_updatesP_2 : decode cX6_updatesP 2 = .ok (.iload_n 3, 1) := by decide +kernel
theorem dX6_updatesP_3 : decode cX6_updatesP 3 = .ok (.iconst 3, 1) := by decide +kernel
theorem dX6_updatesP_4 : decode cX6_updatesP 4 = .ok (.if_icmp .ge 135, 3) := by decide +kernel
theorem dX6_updatesP_7 : decode cX6_updatesP 7 = .ok (.iload_n 3, 1) := by decide +kernel
theorem dX6_updatesP_8 : decode cX6_updatesP 8 = .ok (.istore 4, 2) := by decide +kernel
theorem dX6_updatesP_10 : decode cX6_updatesP 10 = .ok (.iload 4, 2) := by decide +kernel
theorem dX6_updatesP_12 : decode cX6_updatesP 12 = .ok (.iconst 3, 1) := by decide +kernel
theorem dX6_updatesP_13 : decode cX6_updatesP 13 = .ok (.if_icmp .ge 120, 3) := by decide +kernel
theorem dX6_updatesP_16 : decode cX6_updatesP 16 = .ok (.aload_n 0, 1) := by decide +kernel
theorem dX6_updatesP_17 : decode cX6_updatesP 17 = .ok (.getfield 7, 3) := by decide +kernel
theorem dX6_updatesP_20 : decode cX6_updatesP 20 = .ok (.bipush 16, 2) := by decide +kernel
theorem dX6_updatesP_22 : decode cX6_updatesP 22 = .ok (.iconst 3, 1) := by decide +kernel
theorem dX6_updatesP_23 : decode cX6_updatesP 23 = .ok (.iload_n 3, 1) := by decide +kernel
theorem dX6_updatesP_24 : decode cX6_updatesP 24 = .ok (.imul, 1) := by decide +kernel
theorem dX6_updatesP_25 : decode cX6_updatesP 25 = .ok (.iadd, 1) := by decide +kernel
theorem dX6_updatesP_26 : decode cX6_updatesP 26 = .ok (.iload 4, 2) := by decide +kernel
theorem dX6_updatesP_28 : decode cX6_updatesP 28 = .ok (.iadd, 1) := by decide +kernel
theorem dX6_updatesP_29 : decode cX6_updatesP 29 = .ok (.laload, 1) := by decide +kernel
theorem dX6_updatesP_30 : decode cX6_updatesP 30 = .ok (.aload_n 0, 1) := by decide +kernel
theorem dX6_updatesP_31 : decode cX6_updatesP 31 = .ok (.getfield 25, 3) := by decide +kernel
theorem dX6_updatesP_34 : decode cX6_updatesP 34 = .ok (.iload_n 3, 1) := by decide +kernel
theorem dX6_updatesP_35 : decode cX6_updatesP 35 = .ok (.laload, 1) := by decide +kernel
theorem dX6_updatesP_36 : decode cX6_updatesP 36 = .ok (.aload_n 0, 1) := by decide +kernel
theorem dX6_updatesP_37 : decode cX6_updatesP 37 = .ok (.getfield 22, 3) := by decide +kernel
theorem dX6_updatesP_40 : decode cX6_updatesP 40 = .ok (.iload 4, 2) := by decide +kernel
theorem dX6_updatesP_42 : decode cX6_updatesP 42 = .ok (.laload, 1) := by decide +kernel
theorem dX6_updatesP_43 : decode cX6_updatesP 43 = .ok (.lmul, 1) := by decide +kernel
theorem dX6_updatesP_44 : decode cX6_updatesP 44 = .ok (.ldc2_w 71, 3) := by decide +kernel
theorem dX6_updatesP_47 : decode cX6_updatesP 47 = .ok (.invokestatic 123, 3) := by decide +kernel
theorem dX6_updatesP_50 : decode cX6_updatesP 50 = .ok (.lsub, 1) := by decide +kernel
theorem dX6_updatesP_51 : decode cX6_updatesP 51 = .ok (.ldc2_w 71, 3) := by decide +kernel
theorem dX6_updatesP_54 : decode cX6_updatesP 54 = .ok (.lmul, 1) := by decide +kernel
theorem dX6_updatesP_55 : decode cX6_updatesP 55 = .ok (.lload_n 1, 1) := by decide +kernel
theorem dX6_updatesP_56 : decode cX6_updatesP 56 = .ok (.invokestatic 123, 3) := by decide +kernel
theorem dX6_updatesP_59 : decode cX6_updatesP 59 = .ok (.lstore 5, 2) := by decide +kernel
theorem dX6_updatesP_61 : decode cX6_updatesP 61 = .ok (.lload 5, 2) := by decide +kernel
theorem dX6_updatesP_63 : decode cX6_updatesP 63 = .ok (.ldc2_w 127, 3) := by decide +kernel
theorem dX6_updatesP_66 : decode cX6_updatesP 66 = .ok (.ldc2_w 129, 3) := by decide +kernel
theorem dX6_updatesP_69 : decode cX6_updatesP 69 = .ok (.invokestatic 90, 3) := by decide +kernel
theorem dX6_updatesP_72 : decode cX6_updatesP 72 = .ok (.lstore 5, 2) := by decide +kernel
theorem dX6_updatesP_74 : decode cX6_updatesP 74 = .ok (.iload_n 3, 1) := by decide +kernel
theorem dX6_updatesP_75 : decode cX6_updatesP 75 = .ok (.iload 4, 2) := by decide +kernel
theorem dX6_updatesP_77 : decode cX6_updatesP 77 = .ok (.if_icmp .ne 14, 3) := by decide +kernel
theorem dX6_updatesP_80 : decode cX6_updatesP 80 = .ok (.lload 5, 2) := by decide +kernel
theorem dX6_updatesP_82 : decode cX6_updatesP 82 = .ok (.lconst 1, 1) := by decide +kernel
theorem dX6_updatesP_83 : decode cX6_updatesP 83 = .ok (.lcmp, 1) := by decide +kernel
theorem dX6_updatesP_84 : decode cX6_updatesP 84 = .ok (.ifCond .ge 7, 3) := by decide +kernel
theorem dX6_updatesP_87 : decode cX6_updatesP 87 = .ok (.lconst 1, 1) := by decide +kernel
theorem dX6_updatesP_88 : decode cX6_updatesP 88 = .ok (.goto 5, 3) := by decide +kernel
theorem dX6_updatesP_91 : decode cX6_updatesP 91 = .ok (.lload 5, 2) := by decide +kernel
theorem dX6_updatesP_93 : decode cX6_updatesP 93 = .ok (.lstore 5, 2) := by decide +kernel
theorem dX6_updatesP_95 : decode cX6_updatesP 95 = .ok (.aload_n 0, 1) := by decide +kernel
theorem dX6_updatesP_96 : decode cX6_updatesP 96 = .ok (.getfield 7, 3) := by decide +kernel
theorem dX6_updatesP_99 : decode cX6_updatesP 99 = .ok (.bipush 16, 2) := by decide +kernel
theorem dX6_updatesP_101 : decode cX6_updatesP 101 = .ok (.iconst 3, 1) := by decide +kernel
theorem dX6_updatesP_102 : decode cX6_updatesP 102 = .ok (.iload_n 3, 1) := by decide +kernel
theorem dX6_updatesP_103 : decode cX6_updatesP 103 = .ok (.imul, 1) := by decide +kernel
theorem dX6_updatesP_104 : decode cX6_updatesP 104 = .ok (.iadd, 1) := by decide +kernel
theorem dX6_updatesP_105 : decode cX6_updatesP 105 = .ok (.iload 4, 2) := by decide +kernel
theorem dX6_updatesP_107 : decode cX6_updatesP 107 = .ok (.iadd, 1) := by decide +kernel
theorem dX6_updatesP_108 : decode cX6_updatesP 108 = .ok (.lload 5, 2) := by decide +kernel
theorem dX6_updatesP_110 : decode cX6_updatesP 110 = .ok (.lastore, 1) := by decide +kernel
theorem dX6_updatesP_111 : decode cX6_updatesP 111 = .ok (.aload_n 0, 1) := by decide +kernel
theorem dX6_updatesP_112 : decode cX6_updatesP 112 = .ok (.getfield 7, 3) := by decide +kernel
theorem dX6_updatesP_115 : decode cX6_updatesP 115 = .ok (.bipush 16, 2) := by decide +kernel
theorem dX6_updatesP_117 : decode cX6_updatesP 117 = .ok (.iconst 3, 1) := by decide +kernel
theorem dX6_updatesP_118 : decode cX6_updatesP 118 = .ok (.iload 4, 2) := by decide +kernel
theorem dX6_updatesP_120 : decode cX6_updatesP 120 = .ok (.imul, 1) := by decide +kernel
theorem dX6_updatesP_121 : decode cX6_updatesP 121 = .ok (.iadd, 1) := by decide +kernel
theorem dX6_updatesP_122 : decode cX6_updatesP 122 = .ok (.iload_n 3, 1) := by decide +kernel
theorem dX6_updatesP_123 : decode cX6_updatesP 123 = .ok (.iadd, 1) := by decide +kernel
theorem dX6_updatesP_124 : decode cX6_updatesP 124 = .ok (.lload 5, 2) := by decide +kernel
theorem dX6_updatesP_126 : decode cX6_updatesP 126 = .ok (.lastore, 1) := by decide +kernel
theorem dX6_updatesP_127 : decode cX6_updatesP 127 = .ok (.iinc 4 1, 3) := by decide +kernel
theorem dX6_updatesP_130 : decode cX6_updatesP 130 = .ok (.goto (-120), 3) := by decide +kernel
theorem dX6_updatesP_133 : decode cX6_updatesP 133 = .ok (.iinc 3 1, 3) := by decide +kernel
theorem dX6_updatesP_136 : decode cX6_updatesP 136 = .ok (.goto (-134), 3) := by decide +kernel
theorem dX6_updatesP_139 : decode cX6_updatesP 139 = .ok (.aload_n 0, 1) := by decide +kernel
theorem dX6_updatesP_140 : decode cX6_updatesP 140 = .ok (.getfield 7, 3) := by decide +kernel
theorem dX6_updatesP_143 : decode cX6_updatesP 143 = .ok (.bipush 16, 2) := by decide +kernel
theorem dX6_updatesP_145 : decode cX6_updatesP 145 = .ok (.laload, 1) := by decide +kernel
theorem dX6_updatesP_146 : decode cX6_updatesP 146 = .ok (.aload_n 0, 1) := by decide +kernel
theorem dX6_updatesP_147 : decode cX6_updatesP 147 = .ok (.getfield 7, 3) := by decide +kernel
theorem dX6_updatesP_150 : decode cX6_updatesP 150 = .ok (.bipush 20, 2) := by decide +kernel
theorem dX6_updatesP_152 : decode cX6_updatesP 152 = .ok (.laload, 1) := by decide +kernel
theorem dX6_updatesP_153 : decode cX6_updatesP 153 = .ok (.ladd, 1) := by decide +kernel
theorem dX6_updatesP_154 : decode cX6_updatesP 154 = .ok (.aload_n 0, 1) := by decide +kernel
theorem dX6_updatesP_155 : decode cX6_updatesP 155 = .ok (.getfield 7, 3) := by decide +kernel
theorem dX6_updatesP_158 : decode cX6_updatesP 158 = .ok (.bipush 24, 2) := by decide +kernel
theorem dX6_updatesP_160 : decode cX6_updatesP 160 = .ok (.laload, 1) := by decide +kernel
theorem dX6_updatesP_161 : decode cX6_updatesP 161 = .ok (.ladd, 1) := by decide +kernel
theorem dX6_updatesP_162 : decode cX6_updatesP 162 = .ok (.ldc2_w 131, 3) := by decide +kernel
theorem dX6_updatesP_165 : decode cX6_updatesP 165 = .ok (.lcmp, 1) := by decide +kernel
theorem dX6_updatesP_166 : decode cX6_updatesP 166 = .ok (.ifCond .le 18, 3) := by decide +kernel
theorem dX6_updatesP_169 : decode cX6_updatesP 169 = .ok (.aload_n 0, 1) := by decide +kernel
theorem dX6_updatesP_170 : decode cX6_updatesP 170 = .ok (.invokevirtual 112, 3) := by decide +kernel
theorem dX6_updatesP_173 : decode cX6_updatesP 173 = .ok (.aload_n 0, 1) := by decide +kernel
theorem dX6_updatesP_174 : decode cX6_updatesP 174 = .ok (.getfield 7, 3) := by decide +kernel
theorem dX6_updatesP_177 : decode cX6_updatesP 177 = .ok (.bipush 27, 2) := by decide +kernel
theorem dX6_updatesP_179 : decode cX6_updatesP 179 = .ok (.dup2, 1) := by decide +kernel
theorem dX6_updatesP_180 : decode cX6_updatesP 180 = .ok (.laload, 1) := by decide +kernel
theorem dX6_updatesP_181 : decode cX6_updatesP 181 = .ok (.lconst 1, 1) := by decide +kernel
theorem dX6_updatesP_182 : decode cX6_updatesP 182 = .ok (.ladd, 1) := by decide +kernel
theorem dX6_updatesP_183 : decode cX6_updatesP 183 = .ok (.lastore, 1) := by decide +kernel
theorem dX6_updatesP_184 : decode cX6_updatesP 184 = .ok (.return_, 1) := by decide +kernel
set_option maxRecDepth 20000 in
theorem ggX6_takes_X6_takesRegressor : GoodIn wsX6_takes wsX6_takesRegressor := goodIn_r _ [13, 14, 56, 57, 58, 59, 60, 61, 62, 63, 64, 65, 66, 67, 68] (by decide +kernel) (by decide +kernel)
set_option maxRecDepth 20000 in
theorem gX6_takes_X6_takesRegressor : GoodIn wsX6_takes (wsV RX6 133 RX6 yX6_takesRegressor wsX6_takesRegressor) := goodIn_app (goodIn_of _ (by decide +kernel)) ggX6_takes_X6_takesRegressor
set_option maxRecDepth 20000 in
theorem ggX6_takes_X6_sum : GoodIn wsX6_takes wsX6_sum := goodIn_r _ [18, 2, 14, 56, 57, 58, 59, 60, 61, 62, 63, 64, 65, 66, 67, 68] (by decide +kernel) (by decide +kernel)
set_option maxRecDepth 20000 in
theorem gX6_takes_X6_sum : GoodIn wsX6_takes (wsV RX6 137 RX6 yX6_sum wsX6_sum) := goodIn_app (goodIn_of _ (by decide +kernel)) ggX6_takes_X6_sum
set_option maxRecDepth 20000 in
theorem ggX6_takes_X6_keeps : GoodIn wsX6_takes wsX6_keeps := goodIn_r _ [22, 2, 23, 24, 25, 12, 26, 27, 56, 57, 58, 59, 60, 61, 62, 63, 64, 65, 66, 67, 68] (by decide +kernel) (by decide +kernel)
set_option maxRecDepth 20000 in
theorem gX6_takes_X6_keeps : GoodIn wsX6_takes (wsV RX6 141 RX6 yX6_keeps wsX6_keeps) := goodIn_app (goodIn_of _ (by decide +kernel)) ggX6_takes_X6_keeps
set_option maxRecDepth 20000 in
theorem ggX6_takes_X6_in : GoodIn wsX6_takes wsX6_in := goodIn_r _ [30] (by decide +kernel) (by decide +kernel)
set_option maxRecDepth 20000 in
theorem gX6_takes_X6_in : GoodIn wsX6_takes (va_wsS RX6 65 yX6_in wsX6_in) := goodIn_app (goodIn_of _ (by decide +kernel)) ggX6_takes_X6_in
set_option maxRecDepth 20000 in
theorem ggX6_takes_X6_laysGains : GoodIn wsX6_takes wsX6_laysGains := goodIn_r _ [34, 4, 6, 2, 14, 56, 57, 58, 59, 60, 61, 62, 63, 64, 65, 66, 67, 68] (by decide +kernel) (by decide +kernel)
set_option maxRecDepth 20000 in
theorem gX6_takes_X6_laysGains : GoodIn wsX6_takes (wsV RX6 146 RX6 yX6_laysGains wsX6_laysGains) := goodIn_app (goodIn_of _ (by decide +kernel)) ggX6_takes_X6_laysGains
set_option maxRecDepth 20000 in
theorem ggX6_takes_X6_floor : GoodIn wsX6_takes wsX6_floor := goodIn_r _ [37] (by decide +kernel) (by decide +kernel)
set_option maxRecDepth 20000 in
theorem gX6_takes_X6_floor : GoodIn wsX6_takes (va_wsS RX6 123 yX6_floor wsX6_floor) := goodIn_app (goodIn_of _ (by decide +kernel)) ggX6_takes_X6_floor
set_option maxRecDepth 20000 in
theorem ggX6_takes_X6_within : GoodIn wsX6_takes wsX6_within := goodIn_r _ [40] (by decide +kernel) (by decide +kernel)
set_option maxRecDepth 20000 in
theorem gX6_takes_X6_within : GoodIn wsX6_takes (va_wsS RX6 90 yX6_within wsX6_within) := goodIn_app (goodIn_of _ (by decide +kernel)) ggX6_takes_X6_within
set_option maxRecDepth 20000 in
theorem ggX6_takes_X6_boxes : GoodIn wsX6_takes wsX6_boxes := goodIn_r _ [44, 2, 38, 39, 12, 40, 56, 57, 58, 59, 60, 61, 62, 63, 64, 65, 66, 67, 68] (by decide +kernel) (by decide +kernel)
set_option maxRecDepth 20000 in
theorem gX6_takes_X6_boxes : GoodIn wsX6_takes (wsV RX6 94 RX6 yX6_boxes wsX6_boxes) := goodIn_app (goodIn_of _ (by decide +kernel)) ggX6_takes_X6_boxes
set_option maxRecDepth 20000 in
theorem ggX6_takes_X6_updatesP : GoodIn wsX6_takes wsX6_updatesP := goodIn_r _ [48, 2, 5, 6, 1, 49, 50, 51, 35, 36, 12, 37, 38, 39, 40, 52, 53, 54, 55, 8, 56, 57, 58, 59, 60, 61, 62, 63, 64, 65, 66, 67, 68] (by decide +kernel) (by decide +kernel)
set_option maxRecDepth 20000 in
theorem gX6_takes_X6_updatesP : GoodIn wsX6_takes (wsV RX6 151 RX6 yX6_updatesP wsX6_updatesP) := goodIn_app (goodIn_of _ (by decide +kernel)) ggX6_takes_X6_updatesP
theorem dX6_takes_0 : decode cX6_takes 0 = .ok (.aload_n 0, 1) := by decide +kernel
theorem dX6_takes_1 : decode cX6_takes 1 = .ok (.lload_n 1, 1) := by decide +kernel
theorem dX6_takes_2 : decode cX6_takes 2 = .ok (.lload_n 3, 1) := by decide +kernel
theorem dX6_takes_3 : decode cX6_takes 3 = .ok (.invokevirtual 133, 3) := by decide +kernel
theorem dX6_takes_6 : decode cX6_takes 6 = .ok (.ldc2_w 71, 3) := by decide +kernel
theorem dX6_takes_9 : decode cX6_takes 9 = .ok (.lload 5, 2) := by decide +kernel
theorem dX6_takes_11 : decode cX6_takes 11 = .ok (.lmul, 1) := by decide +kernel
theorem dX6_takes_12 : decode cX6_takes 12 = .ok (.aload_n 0, 1) := by decide +kernel
theorem dX6_takes_13 : decode cX6_takes 13 = .ok (.invokevirtual 137, 3) := by decide +kernel
theorem dX6_takes_16 : decode cX6_takes 16 = .ok (.lsub, 1) := by decide +kernel
theorem dX6_takes_17 : decode cX6_takes 17 = .ok (.lstore 7, 2) := by decide +kernel
theorem dX6_takes_19 : decode cX6_takes 19 = .ok (.aload_n 0, 1) := by decide +kernel
theorem dX6_takes_20 : decode cX6_takes 20 = .ok (.lload_n 1, 1) := by decide +kernel
theorem dX6_takes_21 : decode cX6_takes 21 = .ok (.lload_n 3, 1) := by decide +kernel
theorem dX6_takes_22 : decode cX6_takes 22 = .ok (.invokevirtual 141, 3) := by decide +kernel
theorem dX6_takes_25 : decode cX6_takes 25 = .ok (.aload_n 0, 1) := by decide +kernel
theorem dX6_takes_26 : decode cX6_takes 26 = .ok (.getfield 7, 3) := by decide +kernel
theorem dX6_takes_29 : decode cX6_takes 29 = .ok (.bipush 25, 2) := by decide +kernel
theorem dX6_takes_31 : decode cX6_takes 31 = .ok (.dup2, 1) := by decide +kernel
theorem dX6_takes_32 : decode cX6_takes 32 = .ok (.laload, 1) := by decide +kernel
theorem dX6_takes_33 : decode cX6_takes 33 = .ok (.lconst 1, 1) := by decide +kernel
theorem dX6_takes_34 : decode cX6_takes 34 = .ok (.ladd, 1) := by decide +kernel
theorem dX6_takes_35 : decode cX6_takes 35 = .ok (.lastore, 1) := by decide +kernel
theorem dX6_takes_36 : decode cX6_takes 36 = .ok (.lload 7, 2) := by decide +kernel
theorem dX6_takes_38 : decode cX6_takes 38 = .ok (.ldc2_w 144, 3) := by decide +kernel
theorem dX6_takes_41 : decode cX6_takes 41 = .ok (.aload_n 0, 1) := by decide +kernel
theorem dX6_takes_42 : decode cX6_takes 42 = .ok (.getfield 7, 3) := by decide +kernel
theorem dX6_takes_45 : decode cX6_takes 45 = .ok (.iconst 1, 1) := by decide +kernel
theorem dX6_takes_46 : decode cX6_takes 46 = .ok (.laload, 1) := by decide +kernel
theorem dX6_takes_47 : decode cX6_takes 47 = .ok (.lmul, 1) := by decide +kernel
theorem dX6_takes_48 : decode cX6_takes 48 = .ok (.ldc2_w 71, 3) := by decide +kernel
theorem dX6_takes_51 : decode cX6_takes 51 = .ok (.aload_n 0, 1) := by decide +kernel
theorem dX6_takes_52 : decode cX6_takes 52 = .ok (.getfield 7, 3) := by decide +kernel
theorem dX6_takes_55 : decode cX6_takes 55 = .ok (.iconst 1, 1) := by decide +kernel
theorem dX6_takes_56 : decode cX6_takes 56 = .ok (.laload, 1) := by decide +kernel
theorem dX6_takes_57 : decode cX6_takes 57 = .ok (.lmul, 1) := by decide +kernel
theorem dX6_takes_58 : decode cX6_takes 58 = .ok (.invokestatic 65, 3) := by decide +kernel
theorem dX6_takes_61 : decode cX6_takes 61 = .ok (.ifCond .eq 17, 3) := by decide +kernel
theorem dX6_takes_64 : decode cX6_takes 64 = .ok (.aload_n 0, 1) := by decide +kernel
theorem dX6_takes_65 : decode cX6_takes 65 = .ok (.getfield 7, 3) := by decide +kernel
theorem dX6_takes_68 : decode cX6_takes 68 = .ok (.bipush 26, 2) := by decide +kernel
theorem dX6_takes_70 : decode cX6_takes 70 = .ok (.dup2, 1) := by decide +kernel
theorem dX6_takes_71 : decode cX6_takes 71 = .ok (.laload, 1) := by decide +kernel
theorem dX6_takes_72 : decode cX6_takes 72 = .ok (.lconst 1, 1) := by decide +kernel
theorem dX6_takes_73 : decode cX6_takes 73 = .ok (.ladd, 1) := by decide +kernel
theorem dX6_takes_74 : decode cX6_takes 74 = .ok (.lastore, 1) := by decide +kernel
theorem dX6_takes_75 : decode cX6_takes 75 = .ok (.lload 7, 2) := by decide +kernel
theorem dX6_takes_77 : decode cX6_takes 77 = .ok (.lreturn, 1) := by decide +kernel
theorem dX6_takes_78 : decode cX6_takes 78 = .ok (.aload_n 0, 1) := by decide +kernel
theorem dX6_takes_79 : decode cX6_takes 79 = .ok (.invokevirtual 146, 3) := by decide +kernel
theorem dX6_takes_82 : decode cX6_takes 82 = .ok (.aload_n 0, 1) := by decide +kernel
theorem dX6_takes_83 : decode cX6_takes 83 = .ok (.getfield 115, 3) := by decide +kernel
theorem dX6_takes_86 : decode cX6_takes 86 = .ok (.aload_n 0, 1) := by decide +kernel
theorem dX6_takes_87 : decode cX6_takes 87 = .ok (.getfield 7, 3) := by decide +kernel
theorem dX6_takes_90 : decode cX6_takes 90 = .ok (.iconst 2, 1) := by decide +kernel
theorem dX6_takes_91 : decode cX6_takes 91 = .ok (.laload, 1) := by decide +kernel
theorem dX6_takes_92 : decode cX6_takes 92 = .ok (.ldc2_w 71, 3) := by decide +kernel
theorem dX6_takes_95 : decode cX6_takes 95 = .ok (.lmul, 1) := by decide +kernel
theorem dX6_takes_96 : decode cX6_takes 96 = .ok (.lcmp, 1) := by decide +kernel
theorem dX6_takes_97 : decode cX6_takes 97 = .ok (.ifCond .ge 7, 3) := by decide +kernel
theorem dX6_takes_100 : decode cX6_takes 100 = .ok (.iconst 1, 1) := by decide +kernel
theorem dX6_takes_101 : decode cX6_takes 101 = .ok (.goto 4, 3) := by decide +kernel
theorem dX6_takes_104 : decode cX6_takes 104 = .ok (.iconst 0, 1) := by decide +kernel
theorem dX6_takes_105 : decode cX6_takes 105 = .ok (.istore 9, 2) := by decide +kernel
theorem dX6_takes_107 : decode cX6_takes 107 = .ok (.iload 9, 2) := by decide +kernel
theorem dX6_takes_109 : decode cX6_takes 109 = .ok (.ifCond .eq 9, 3) := by decide +kernel
theorem dX6_takes_112 : decode cX6_takes 112 = .ok (.ldc2_w 71, 3) := by decide +kernel
theorem dX6_takes_115 : decode cX6_takes 115 = .ok (.goto 9, 3) := by decide +kernel
theorem dX6_takes_118 : decode cX6_takes 118 = .ok (.aload_n 0, 1) := by decide +kernel
theorem dX6_takes_119 : decode cX6_takes 119 = .ok (.getfield 7, 3) := by decide +kernel
theorem dX6_takes_122 : decode cX6_takes 122 = .ok (.iconst 0, 1) := by decide +kernel
theorem dX6_takes_123 : decode cX6_takes 123 = .ok (.laload, 1) := by decide +kernel
theorem dX6_takes_124 : decode cX6_takes 124 = .ok (.lstore 10, 2) := by decide +kernel
theorem dX6_takes_126 : decode cX6_takes 126 = .ok (.aload_n 0, 1) := by decide +kernel
theorem dX6_takes_127 : decode cX6_takes 127 = .ok (.getfield 7, 3) := by decide +kernel
theorem dX6_takes_130 : decode cX6_takes 130 = .ok (.bipush 29, 2) := by decide +kernel
theorem dX6_takes_132 : decode cX6_takes 132 = .ok (.dup2, 1) := by decide +kernel
theorem dX6_takes_133 : decode cX6_takes 133 = .ok (.laload, 1) := by decide +kernel
theorem dX6_takes_134 : decode cX6_takes 134 = .ok (.iload 9, 2) := by decide +kernel
theorem dX6_takes_136 : decode cX6_takes 136 = .ok (.ifCond .eq 7, 3) := by decide +kernel
theorem dX6_takes_139 : decode cX6_takes 139 = .ok (.lconst 1, 1) := by decide +kernel
theorem dX6_takes_140 : decode cX6_takes 140 = .ok (.goto 4, 3) := by decide +kernel
theorem dX6_takes_143 : decode cX6_takes 143 = .ok (.lconst 0, 1) := by decide +kernel
theorem dX6_takes_144 : decode cX6_takes 144 = .ok (.ladd, 1) := by decide +kernel
theorem dX6_takes_145 : decode cX6_takes 145 = .ok (.lastore, 1) := by decide +kernel
theorem dX6_takes_146 : decode cX6_takes 146 = .ok (.iconst 0, 1) := by decide +kernel
theorem dX6_takes_147 : decode cX6_takes 147 = .ok (.istore 12, 2) := by decide +kernel
theorem dX6_takes_149 : decode cX6_takes 149 = .ok (.iconst 0, 1) := by decide +kernel
theorem dX6_takes_150 : decode cX6_takes 150 = .ok (.istore 13, 2) := by decide +kernel
theorem dX6_takes_152 : decode cX6_takes 152 = .ok (.iload 13, 2) := by decide +kernel
theorem dX6_takes_154 : decode cX6_takes 154 = .ok (.iconst 3, 1) := by decide +kernel
theorem dX6_takes_155 : decode cX6_takes 155 = .ok (.if_icmp .ge 96, 3) := by decide +kernel
theorem dX6_takes_158 : decode cX6_takes 158 = .ok (.aload_n 0, 1) := by decide +kernel
theorem dX6_takes_159 : decode cX6_takes 159 = .ok (.getfield 25, 3) := by decide +kernel
theorem dX6_takes_162 : decode cX6_takes 162 = .ok (.iload 13, 2) := by decide +kernel
theorem dX6_takes_164 : decode cX6_takes 164 = .ok (.ldc2_w 71, 3) := by decide +kernel
theorem dX6_takes_167 : decode cX6_takes 167 = .ok (.aload_n 0, 1) := by decide +kernel
theorem dX6_takes_168 : decode cX6_takes 168 = .ok (.getfield 22, 3) := by decide +kernel
theorem dX6_takes_171 : decode cX6_takes 171 = .ok (.iload 13, 2) := by decide +kernel
theorem dX6_takes_173 : decode cX6_takes 173 = .ok (.laload, 1) := by decide +kernel
theorem dX6_takes_174 : decode cX6_takes 174 = .ok (.lmul, 1) := by decide +kernel
theorem dX6_takes_175 : decode cX6_takes 175 = .ok (.lload 10, 2) := by decide +kernel
theorem dX6_takes_177 : decode cX6_takes 177 = .ok (.aload_n 0, 1) := by decide +kernel
theorem dX6_takes_178 : decode cX6_takes 178 = .ok (.getfield 115, 3) := by decide +kernel
theorem dX6_takes_181 : decode cX6_takes 181 = .ok (.ladd, 1) := by decide +kernel
theorem dX6_takes_182 : decode cX6_takes 182 = .ok (.invokestatic 123, 3) := by decide +kernel
theorem dX6_takes_185 : decode cX6_takes 185 = .ok (.ldc2_w 149, 3) := by decide +kernel
theorem dX6_takes_188 : decode cX6_takes 188 = .ok (.ldc2_w 110, 3) := by decide +kernel
theorem dX6_takes_191 : decode cX6_takes 191 = .ok (.invokestatic 90, 3) := by decide +kernel
theorem dX6_takes_194 : decode cX6_takes 194 = .ok (.lastore, 1) := by decide +kernel
theorem dX6_takes_195 : decode cX6_takes 195 = .ok (.aload_n 0, 1) := by decide +kernel
theorem dX6_takes_196 : decode cX6_takes 196 = .ok (.getfield 7, 3) := by decide +kernel
theorem dX6_takes_199 : decode cX6_takes 199 = .ok (.bipush 13, 2) := by decide +kernel
theorem dX6_takes_201 : decode cX6_takes 201 = .ok (.iload 13, 2) := by decide +kernel
theorem dX6_takes_203 : decode cX6_takes 203 = .ok (.iadd, 1) := by decide +kernel
theorem dX6_takes_204 : decode cX6_takes 204 = .ok (.dup2, 1) := by decide +kernel
theorem dX6_takes_205 : decode cX6_takes 205 = .ok (.laload, 1) := by decide +kernel
theorem dX6_takes_206 : decode cX6_takes 206 = .ok (.aload_n 0, 1) := by decide +kernel
theorem dX6_takes_207 : decode cX6_takes 207 = .ok (.getfield 25, 3) := by decide +kernel
theorem dX6_takes_210 : decode cX6_takes 210 = .ok (.iload 13, 2) := by decide +kernel
theorem dX6_takes_212 : decode cX6_takes 212 = .ok (.laload, 1) := by decide +kernel
theorem dX6_takes_213 : decode cX6_takes 213 = .ok (.lload 7, 2) := by decide +kernel
theorem dX6_takes_215 : decode cX6_takes 215 = .ok (.lmul, 1) := by decide +kernel
theorem dX6_takes_216 : decode cX6_takes 216 = .ok (.ldc2_w 71, 3) := by decide +kernel
theorem dX6_takes_219 : decode cX6_takes 219 = .ok (.invokestatic 123, 3) := by decide +kernel
theorem dX6_takes_222 : decode cX6_takes 222 = .ok (.ladd, 1) := by decide +kernel
theorem dX6_takes_223 : decode cX6_takes 223 = .ok (.lastore, 1) := by decide +kernel
theorem dX6_takes_224 : decode cX6_takes 224 = .ok (.aload_n 0, 1) := by decide +kernel
theorem dX6_takes_225 : decode cX6_takes 225 = .ok (.iload 13, 2) := by decide +kernel
theorem dX6_takes_227 : decode cX6_takes 227 = .ok (.invokevirtual 94, 3) := by decide +kernel
theorem dX6_takes_230 : decode cX6_takes 230 = .ok (.ifCond .ne 8, 3) := by decide +kernel
theorem dX6_takes_233 : decode cX6_takes 233 = .ok (.iload 12, 2) := by decide +kernel
theorem dX6_takes_235 : decode cX6_takes 235 = .ok (.ifCond .eq 7, 3) := by decide +kernel
theorem dX6_takes_238 : decode cX6_takes 238 = .ok (.iconst 1, 1) := by decide +kernel
theorem dX6_takes_239 : decode cX6_takes 239 = .ok (.goto 4, 3) := by decide +kernel
theorem dX6_takes_242 : decode cX6_takes 242 = .ok (.iconst 0, 1) := by decide +kernel
theorem dX6_takes_243 : decode cX6_takes 243 = .ok (.istore 12, 2) := by decide +kernel
theorem dX6_takes_245 : decode cX6_takes 245 = .ok (.iinc 13 1, 3) := by decide +kernel
theorem dX6_takes_248 : decode cX6_takes 248 = .ok (.goto (-96), 3) := by decide +kernel
theorem dX6_takes_251 : decode cX6_takes 251 = .ok (.aload_n 0, 1) := by decide +kernel
theorem dX6_takes_252 : decode cX6_takes 252 = .ok (.getfield 7, 3) := by decide +kernel
theorem dX6_takes_255 : decode cX6_takes 255 = .ok (.bipush 28, 2) := by decide +kernel
theorem dX6_takes_257 : decode cX6_takes 257 = .ok (.dup2, 1) := by decide +kernel
theorem dX6_takes_258 : decode cX6_takes 258 = .ok (.laload, 1) := by decide +kernel
theorem dX6_takes_259 : decode cX6_takes 259 = .ok (.iload 12, 2) := by decide +kernel
theorem dX6_takes_261 : decode cX6_takes 261 = .ok (.ifCond .eq 7, 3) := by decide +kernel
theorem dX6_takes_264 : decode cX6_takes 264 = .ok (.lconst 1, 1) := by decide +kernel
theorem dX6_takes_265 : decode cX6_takes 265 = .ok (.goto 4, 3) := by decide +kernel
theorem dX6_takes_268 : decode cX6_takes 268 = .ok (.lconst 0, 1) := by decide +kernel
theorem dX6_takes_269 : decode cX6_takes 269 = .ok (.ladd, 1) := by decide +kernel
theorem dX6_takes_270 : decode cX6_takes 270 = .ok (.lastore, 1) := by decide +kernel
theorem dX6_takes_271 : decode cX6_takes 271 = .ok (.aload_n 0, 1) := by decide +kernel
theorem dX6_takes_272 : decode cX6_takes 272 = .ok (.lload 10, 2) := by decide +kernel
theorem dX6_takes_274 : decode cX6_takes 274 = .ok (.invokevirtual 151, 3) := by decide +kernel
theorem dX6_takes_277 : decode cX6_takes 277 = .ok (.lload 7, 2) := by decide +kernel
theorem dX6_takes_279 : decode cX6_takes 279 = .ok (.lreturn, 1) := by decide +kernel
set_option maxRecDepth 20000 in
theorem ggX6_sample_X6_isSignal : GoodIn wsX6_sample wsX6_isSignal := goodIn_r _ [7, 8, 9, 10, 11, 6, 12] (by decide +kernel) (by decide +kernel)
set_option maxRecDepth 20000 in
theorem gX6_sample_X6_isSignal : GoodIn wsX6_sample (va_wsS RX6 106 yX6_isSignal wsX6_isSignal) := goodIn_app (goodIn_of _ (by decide +kernel)) ggX6_sample_X6_isSignal
set_option maxRecDepth 20000 in
theorem ggX6_sample_X6_in : GoodIn wsX6_sample wsX6_in := goodIn_r _ [12] (by decide +kernel) (by decide +kernel)
set_option maxRecDepth 20000 in
theorem gX6_sample_X6_in : GoodIn wsX6_sample (va_wsS RX6 65 yX6_in wsX6_in) := goodIn_app (goodIn_of _ (by decide +kernel)) ggX6_sample_X6_in
set_option maxRecDepth 20000 in
theorem ggX6_sample_X6_goes : GoodIn wsX6_sample wsX6_goes := goodIn_r _ [16, 17, 78, 79, 80, 81, 82, 83, 84, 85, 86, 87, 88, 89, 90] (by decide +kernel) (by decide +kernel)
set_option maxRecDepth 20000 in
theorem gX6_sample_X6_goes : GoodIn wsX6_sample (wsV RX6 83 RX6 yX6_goes wsX6_goes) := goodIn_app (goodIn_of _ (by decide +kernel)) ggX6_sample_X6_goes
set_option maxRecDepth 20000 in
theorem ggX6_sample_X6_save : GoodIn wsX6_sample wsX6_save := goodIn_r _ [21, 22, 23, 24, 78, 79, 80, 81, 82, 83, 84, 85, 86, 87, 88, 89, 90] (by decide +kernel) (by decide +kernel)
set_option maxRecDepth 20000 in
theorem gX6_sample_X6_save : GoodIn wsX6_sample (wsV RX6 87 RX6 yX6_save wsX6_save) := goodIn_app (goodIn_of _ (by decide +kernel)) ggX6_sample_X6_save
set_option maxRecDepth 20000 in
theorem ggX6_sample_X6_takes : GoodIn wsX6_sample wsX6_takes := goodIn_r _ [28, 3, 24, 29, 30, 31, 32, 33, 34, 35, 36, 37, 6, 38, 39, 40, 41, 42, 43, 44, 45, 46, 47, 48, 49, 50, 51, 52, 10, 11, 12, 53, 54, 55, 56, 57, 58, 59, 60, 61, 62, 63, 64, 65, 66, 67, 68, 69, 70, 71, 72, 73, 74, 75, 76, 77, 78, 79, 80, 81, 82, 83, 84, 85, 86, 87, 88, 89, 90] (by decide +kernel) (by decide +kernel)
set_option maxRecDepth 20000 in
theorem gX6_sample_X6_takes : GoodIn wsX6_sample (wsV RX6 159 RX6 yX6_takes wsX6_takes) := goodIn_app (goodIn_of _ (by decide +kernel)) ggX6_sample_X6_takes
set_option maxRecDepth 20000 in
theorem ggX6_sample_X6_floor : GoodIn wsX6_sample wsX6_floor := goodIn_r _ [59] (by decide +kernel) (by decide +kernel)
set_option maxRecDepth 20000 in
theorem gX6_sample_X6_floor : GoodIn wsX6_sample (va_wsS RX6 123 yX6_floor wsX6_floor) := goodIn_app (goodIn_of _ (by decide +kernel)) ggX6_sample_X6_floor
theorem dX6_sample_0 : decode cX6_sample 0 = .ok (.aload_n 0, 1) := by decide +kernel
theorem dX6_sample_1 : decode cX6_sample 1 = .ok (.iload_n 1, 1) := by decide +kernel
theorem dX6_sample_2 : decode cX6_sample 2 = .ok (.i2l, 1) := by decide +kernel
theorem dX6_sample_3 : decode cX6_sample 3 = .ok (.invokestatic 106, 3) := by decide +kernel
theorem dX6_sample_6 : decode cX6_sample 6 = .ok (.ifCond .eq 29, 3) := by decide +kernel
theorem dX6_sample_9 : decode cX6_sample 9 = .ok (.iload_n 2, 1) := by decide +kernel
theorem dX6_sample_10 : decode cX6_sample 10 = .ok (.i2l, 1) := by decide +kernel
theorem dX6_sample_11 : decode cX6_sample 11 = .ok (.invokestatic 106, 3) := by decide +kernel
theorem dX6_sample_14 : decode cX6_sample 14 = .ok (.ifCond .eq 21, 3) := by decide +kernel
theorem dX6_sample_17 : decode cX6_sample 17 = .ok (.iload_n 3, 1) := by decide +kernel
theorem dX6_sample_18 : decode cX6_sample 18 = .ok (.i2l, 1) := by decide +kernel
theorem dX6_sample_19 : decode cX6_sample 19 = .ok (.ldc2_w 155, 3) := by decide +kernel
theorem dX6_sample_22 : decode cX6_sample 22 = .ok (.ldc2_w 157, 3) := by decide +kernel
theorem dX6_sample_25 : decode cX6_sample 25 = .ok (.invokestatic 65, 3) := by decide +kernel
theorem dX6_sample_28 : decode cX6_sample 28 = .ok (.ifCond .eq 7, 3) := by decide +kernel
theorem dX6_sample_31 : decode cX6_sample 31 = .ok (.iconst 1, 1) := by decide +kernel
theorem dX6_sample_32 : decode cX6_sample 32 = .ok (.goto 4, 3) := by decide +kernel
theorem dX6_sample_35 : decode cX6_sample 35 = .ok (.iconst 0, 1) := by decide +kernel
theorem dX6_sample_36 : decode cX6_sample 36 = .ok (.iconst 1, 1) := by decide +kernel
theorem dX6_sample_37 : decode cX6_sample 37 = .ok (.invokevirtual 83, 3) := by decide +kernel
theorem dX6_sample_40 : decode cX6_sample 40 = .ok (.ifCond .ne 5, 3) := by decide +kernel
theorem dX6_sample_43 : decode cX6_sample 43 = .ok (.lconst 0, 1) := by decide +kernel
theorem dX6_sample_44 : decode cX6_sample 44 = .ok (.lreturn, 1) := by decide +kernel
theorem dX6_sample_45 : decode cX6_sample 45 = .ok (.aload_n 0, 1) := by decide +kernel
theorem dX6_sample_46 : decode cX6_sample 46 = .ok (.invokevirtual 87, 3) := by decide +kernel
theorem dX6_sample_49 : decode cX6_sample 49 = .ok (.aload_n 0, 1) := by decide +kernel
theorem dX6_sample_50 : decode cX6_sample 50 = .ok (.iload_n 1, 1) := by decide +kernel
theorem dX6_sample_51 : decode cX6_sample 51 = .ok (.i2l, 1) := by decide +kernel
theorem dX6_sample_52 : decode cX6_sample 52 = .ok (.iload_n 2, 1) := by decide +kernel
theorem dX6_sample_53 : decode cX6_sample 53 = .ok (.i2l, 1) := by decide +kernel
theorem dX6_sample_54 : decode cX6_sample 54 = .ok (.iload_n 3, 1) := by decide +kernel
theorem dX6_sample_55 : decode cX6_sample 55 = .ok (.i2l, 1) := by decide +kernel
theorem dX6_sample_56 : decode cX6_sample 56 = .ok (.invokevirtual 159, 3) := by decide +kernel
theorem dX6_sample_59 : decode cX6_sample 59 = .ok (.ldc2_w 71, 3) := by decide +kernel
theorem dX6_sample_62 : decode cX6_sample 62 = .ok (.invokestatic 123, 3) := by decide +kernel
theorem dX6_sample_65 : decode cX6_sample 65 = .ok (.lreturn, 1) := by decide +kernel
set_option maxRecDepth 20000 in
theorem ggX6_restart_X6_save : GoodIn wsX6_restart wsX6_save := goodIn_r _ [7, 8, 9, 2, 27, 28, 29, 30, 31, 32, 33, 34, 35, 36, 37, 38, 39] (by decide +kernel) (by decide +kernel)
set_option maxRecDepth 20000 in
theorem gX6_restart_X6_save : GoodIn wsX6_restart (wsV RX6 87 RX6 yX6_save wsX6_save) := goodIn_app (goodIn_of _ (by decide +kernel)) ggX6_restart_X6_save
set_option maxRecDepth 20000 in
theorem ggX6_restart_X6_begins : GoodIn wsX6_restart wsX6_begins := goodIn_r _ [13, 2, 14, 15, 16, 17, 6, 18, 19, 20, 21, 22, 23, 24, 25, 26, 27, 28, 29, 30, 31, 32, 33, 34, 35, 36, 37, 38, 39] (by decide +kernel) (by decide +kernel)
set_option maxRecDepth 20000 in
theorem gX6_restart_X6_begins : GoodIn wsX6_restart (wsV RX6 51 RX6 yX6_begins wsX6_begins) := goodIn_app (goodIn_of _ (by decide +kernel)) ggX6_restart_X6_begins
theorem dX6_restart_0 : decode cX6_restart 0 = .ok (.aload_n 0, 1) := by decide +kernel
theorem dX6_restart_1 : decode cX6_restart 1 = .ok (.iconst 0, 1) := by decide +kernel
theorem dX6_restart_2 : decode cX6_restart 2 = .ok (.putfield 54, 3) := by decide +kernel
theorem dX6_restart_5 : decode cX6_restart 5 = .ok (.aload_n 0, 1) := by decide +kernel
theorem dX6_restart_6 : decode cX6_restart 6 = .ok (.invokevirtual 87, 3) := by decide +kernel
theorem dX6_restart_9 : decode cX6_restart 9 = .ok (.aload_n 0, 1) := by decide +kernel
theorem dX6_restart_10 : decode cX6_restart 10 = .ok (.getfield 7, 3) := by decide +kernel
theorem dX6_restart_13 : decode cX6_restart 13 = .ok (.bipush 25, 2) := by decide +kernel
theorem dX6_restart_15 : decode cX6_restart 15 = .ok (.laload, 1) := by decide +kernel
theorem dX6_restart_16 : decode cX6_restart 16 = .ok (.l2i, 1) := by decide +kernel
theorem dX6_restart_17 : decode cX6_restart 17 = .ok (.istore_n 1, 1) := by decide +kernel
theorem dX6_restart_18 : decode cX6_restart 18 = .ok (.aload_n 0, 1) := by decide +kernel
theorem dX6_restart_19 : decode cX6_restart 19 = .ok (.invokevirtual 51, 3) := by decide +kernel
theorem dX6_restart_22 : decode cX6_restart 22 = .ok (.iload_n 1, 1) := by decide +kernel
theorem dX6_restart_23 : decode cX6_restart 23 = .ok (.ireturn, 1) := by decide +kernel
set_option maxRecDepth 20000 in
theorem ggX6_parameter_X6_in : GoodIn wsX6_parameter wsX6_in := goodIn_r _ [6] (by decide +kernel) (by decide +kernel)
set_option maxRecDepth 20000 in
theorem gX6_parameter_X6_in : GoodIn wsX6_parameter (va_wsS RX6 65 yX6_in wsX6_in) := goodIn_app (goodIn_of _ (by decide +kernel)) ggX6_parameter_X6_in
set_option maxRecDepth 20000 in
theorem ggX6_parameter_X6_goes : GoodIn wsX6_parameter wsX6_goes := goodIn_r _ [10, 11, 12, 13, 14, 15, 16, 17, 18, 19, 20, 21, 22, 23, 24] (by decide +kernel) (by decide +kernel)
set_option maxRecDepth 20000 in
theorem gX6_parameter_X6_goes : GoodIn wsX6_parameter (wsV RX6 83 RX6 yX6_goes wsX6_goes) := goodIn_app (goodIn_of _ (by decide +kernel)) ggX6_parameter_X6_goes
theorem dX6_parameter_0 : decode cX6_parameter 0 = .ok (.aload_n 0, 1) := by decide +kernel
theorem dX6_parameter_1 : decode cX6_parameter 1 = .ok (.iload_n 1, 1) := by decide +kernel
theorem dX6_parameter_2 : decode cX6_parameter 2 = .ok (.i2l, 1) := by decide +kernel
theorem dX6_parameter_3 : decode cX6_parameter 3 = .ok (.lconst 0, 1) := by decide +kernel
theorem dX6_parameter_4 : decode cX6_parameter 4 = .ok (.ldc2_w 37, 3) := by decide +kernel
theorem dX6_parameter_7 : decode cX6_parameter 7 = .ok (.invokestatic 65, 3) := by decide +kernel
theorem dX6_parameter_10 : decode cX6_parameter 10 = .ok (.iconst 1, 1) := by decide +kernel
theorem dX6_parameter_11 : decode cX6_parameter 11 = .ok (.invokevirtual 83, 3) := by decide +kernel
theorem dX6_parameter_14 : decode cX6_parameter 14 = .ok (.ifCond .eq 16, 3) := by decide +kernel
theorem dX6_parameter_17 : decode cX6_parameter 17 = .ok (.aload_n 0, 1) := by decide +kernel
theorem dX6_parameter_18 : decode cX6_parameter 18 = .ok (.getfield 7, 3) := by decide +kernel
theorem dX6_parameter_21 : decode cX6_parameter 21 = .ok (.bipush 13, 2) := by decide +kernel
theorem dX6_parameter_23 : decode cX6_parameter 23 = .ok (.iload_n 1, 1) := by decide +kernel
theorem dX6_parameter_24 : decode cX6_parameter 24 = .ok (.iadd, 1) := by decide +kernel
theorem dX6_parameter_25 : decode cX6_parameter 25 = .ok (.laload, 1) := by decide +kernel
theorem dX6_parameter_26 : decode cX6_parameter 26 = .ok (.l2i, 1) := by decide +kernel
theorem dX6_parameter_27 : decode cX6_parameter 27 = .ok (.goto 4, 3) := by decide +kernel
theorem dX6_parameter_30 : decode cX6_parameter 30 = .ok (.iconst 0, 1) := by decide +kernel
theorem dX6_parameter_31 : decode cX6_parameter 31 = .ok (.ireturn, 1) := by decide +kernel
set_option maxRecDepth 20000 in
theorem ggX6_covariance_X6_in : GoodIn wsX6_covariance wsX6_in := goodIn_r _ [6] (by decide +kernel) (by decide +kernel)
set_option maxRecDepth 20000 in
theorem gX6_covariance_X6_in : GoodIn wsX6_covariance (va_wsS RX6 65 yX6_in wsX6_in) := goodIn_app (goodIn_of _ (by decide +kernel)) ggX6_covariance_X6_in
set_option maxRecDepth 20000 in
theorem ggX6_covariance_X6_goes : GoodIn wsX6_covariance wsX6_goes := goodIn_r _ [10, 11, 12, 13, 14, 15, 16, 17, 18, 19, 20, 21, 22, 23, 24] (by decide +kernel) (by decide +kernel)
set_option maxRecDepth 20000 in
theorem gX6_covariance_X6_goes : GoodIn wsX6_covariance (wsV RX6 83 RX6 yX6_goes wsX6_goes) := goodIn_app (goodIn_of _ (by decide +kernel)) ggX6_covariance_X6_goes
theorem dX6_covariance_0 : decode cX6_covariance 0 = .ok (.aload_n 0, 1) := by decide +kernel
theorem dX6_covariance_1 : decode cX6_covariance 1 = .ok (.iload_n 1, 1) := by decide +kernel
theorem dX6_covariance_2 : decode cX6_covariance 2 = .ok (.i2l, 1) := by decide +kernel
theorem dX6_covariance_3 : decode cX6_covariance 3 = .ok (.lconst 0, 1) := by decide +kernel
theorem dX6_covariance_4 : decode cX6_covariance 4 = .ok (.ldc2_w 37, 3) := by decide +kernel
theorem dX6_covariance_7 : decode cX6_covariance 7 = .ok (.invokestatic 65, 3) := by decide +kernel
theorem dX6_covariance_10 : decode cX6_covariance 10 = .ok (.ifCond .eq 19, 3) := by decide +kernel
theorem dX6_covariance_13 : decode cX6_covariance 13 = .ok (.iload_n 2, 1) := by decide +kernel
theorem dX6_covariance_14 : decode cX6_covariance 14 = .ok (.i2l, 1) := by decide +kernel
theorem dX6_covariance_15 : decode cX6_covariance 15 = .ok (.lconst 0, 1) := by decide +kernel
theorem dX6_covariance_16 : decode cX6_covariance 16 = .ok (.ldc2_w 37, 3) := by decide +kernel
theorem dX6_covariance_19 : decode cX6_covariance 19 = .ok (.invokestatic 65, 3) := by decide +kernel
theorem dX6_covariance_22 : decode cX6_covariance 22 = .ok (.ifCond .eq 7, 3) := by decide +kernel
theorem dX6_covariance_25 : decode cX6_covariance 25 = .ok (.iconst 1, 1) := by decide +kernel
theorem dX6_covariance_26 : decode cX6_covariance 26 = .ok (.goto 4, 3) := by decide +kernel
theorem dX6_covariance_29 : decode cX6_covariance 29 = .ok (.iconst 0, 1) := by decide +kernel
theorem dX6_covariance_30 : decode cX6_covariance 30 = .ok (.iconst 1, 1) := by decide +kernel
theorem dX6_covariance_31 : decode cX6_covariance 31 = .ok (.invokevirtual 83, 3) := by decide +kernel
theorem dX6_covariance_34 : decode cX6_covariance 34 = .ok (.ifCond .eq 19, 3) := by decide +kernel
theorem dX6_covariance_37 : decode cX6_covariance 37 = .ok (.aload_n 0, 1) := by decide +kernel
theorem dX6_covariance_38 : decode cX6_covariance 38 = .ok (.getfield 7, 3) := by decide +kernel
theorem dX6_covariance_41 : decode cX6_covariance 41 = .ok (.bipush 16, 2) := by decide +kernel
theorem dX6_covariance_43 : decode cX6_covariance 43 = .ok (.iconst 3, 1) := by decide +kernel
theorem dX6_covariance_44 : decode cX6_covariance 44 = .ok (.iload_n 1, 1) := by decide +kernel
theorem dX6_covariance_45 : decode cX6_covariance 45 = .ok (.imul, 1) := by decide +kernel
theorem dX6_covariance_46 : decode cX6_covariance 46 = .ok (.iadd, 1) := by decide +kernel
theorem dX6_covariance_47 : decode cX6_covariance 47 = .ok (.iload_n 2, 1) := by decide +kernel
theorem dX6_covariance_48 : decode cX6_covariance 48 = .ok (.iadd, 1) := by decide +kernel
theorem dX6_covariance_49 : decode cX6_covariance 49 = .ok (.laload, 1) := by decide +kernel
theorem dX6_covariance_50 : decode cX6_covariance 50 = .ok (.goto 4, 3) := by decide +kernel
theorem dX6_covariance_53 : decode cX6_covariance 53 = .ok (.lconst 0, 1) := by decide +kernel
theorem dX6_covariance_54 : decode cX6_covariance 54 = .ok (.lreturn, 1) := by decide +kernel
set_option maxRecDepth 20000 in
theorem ggX6_count_X6_in : GoodIn wsX6_count wsX6_in := goodIn_r _ [6] (by decide +kernel) (by decide +kernel)
set_option maxRecDepth 20000 in
theorem gX6_count_X6_in : GoodIn wsX6_count (va_wsS RX6 65 yX6_in wsX6_in) := goodIn_app (goodIn_of _ (by decide +kernel)) ggX6_count_X6_in
set_option maxRecDepth 20000 in
theorem ggX6_count_X6_goes : GoodIn wsX6_count wsX6_goes := goodIn_r _ [10, 11, 12, 13, 14, 15, 16, 17, 18, 19, 20, 21, 22, 23, 24] (by decide +kernel) (by decide +kernel)
set_option maxRecDepth 20000 in
theorem gX6_count_X6_goes : GoodIn wsX6_count (wsV RX6 83 RX6 yX6_goes wsX6_goes) := goodIn_app (goodIn_of _ (by decide +kernel)) ggX6_count_X6_goes
theorem dX6_count_0 : decode cX6_count 0 = .ok (.aload_n 0, 1) := by decide +kernel
theorem dX6_count_1 : decode cX6_count 1 = .ok (.iload_n 1, 1) := by decide +kernel
theorem dX6_count_2 : decode cX6_count 2 = .ok (.i2l, 1) := by decide +kernel
theorem dX6_count_3 : decode cX6_count 3 = .ok (.lconst 0, 1) := by decide +kernel
theorem dX6_count_4 : decode cX6_count 4 = .ok (.ldc2_w 162, 3) := by decide +kernel
theorem dX6_count_7 : decode cX6_count 7 = .ok (.invokestatic 65, 3) := by decide +kernel
theorem dX6_count_10 : decode cX6_count 10 = .ok (.iconst 1, 1) := by decide +kernel
theorem dX6_count_11 : decode cX6_count 11 = .ok (.invokevirtual 83, 3) := by decide +kernel
theorem dX6_count_14 : decode cX6_count 14 = .ok (.ifCond .eq 16, 3) := by decide +kernel
theorem dX6_count_17 : decode cX6_count 17 = .ok (.aload_n 0, 1) := by decide +kernel
theorem dX6_count_18 : decode cX6_count 18 = .ok (.getfield 7, 3) := by decide +kernel
theorem dX6_count_21 : decode cX6_count 21 = .ok (.bipush 25, 2) := by decide +kernel
theorem dX6_count_23 : decode cX6_count 23 = .ok (.iload_n 1, 1) := by decide +kernel
theorem dX6_count_24 : decode cX6_count 24 = .ok (.iadd, 1) := by decide +kernel
theorem dX6_count_25 : decode cX6_count 25 = .ok (.laload, 1) := by decide +kernel
theorem dX6_count_26 : decode cX6_count 26 = .ok (.l2i, 1) := by decide +kernel
theorem dX6_count_27 : decode cX6_count 27 = .ok (.goto 4, 3) := by decide +kernel
theorem dX6_count_30 : decode cX6_count 30 = .ok (.iconst 0, 1) := by decide +kernel
theorem dX6_count_31 : decode cX6_count 31 = .ok (.ireturn, 1) := by decide +kernel
set_option maxRecDepth 20000 in
theorem ggX6_predict_X6_isSignal : GoodIn wsX6_predict wsX6_isSignal := goodIn_r _ [5, 6, 7, 8, 9, 4, 10] (by decide +kernel) (by decide +kernel)
set_option maxRecDepth 20000 in
theorem gX6_predict_X6_isSignal : GoodIn wsX6_predict (va_wsS RX6 106 yX6_isSignal wsX6_isSignal) := goodIn_app (goodIn_of _ (by decide +kernel)) ggX6_predict_X6_isSignal
set_option maxRecDepth 20000 in
theorem ggX6_predict_X6_goes : GoodIn wsX6_predict wsX6_goes := goodIn_r _ [14, 15, 29, 30, 31, 32, 33, 34, 35, 36, 37, 38, 39, 40, 41] (by decide +kernel) (by decide +kernel)
set_option maxRecDepth 20000 in
theorem gX6_predict_X6_goes : GoodIn wsX6_predict (wsV RX6 83 RX6 yX6_goes wsX6_goes) := goodIn_app (goodIn_of _ (by decide +kernel)) ggX6_predict_X6_goes
set_option maxRecDepth 20000 in
theorem ggX6_predict_X6_takesRegressor : GoodIn wsX6_predict wsX6_takesRegressor := goodIn_r _ [19, 20, 29, 30, 31, 32, 33, 34, 35, 36, 37, 38, 39, 40, 41] (by decide +kernel) (by decide +kernel)
set_option maxRecDepth 20000 in
theorem gX6_predict_X6_takesRegressor : GoodIn wsX6_predict (wsV RX6 133 RX6 yX6_takesRegressor wsX6_takesRegressor) := goodIn_app (goodIn_of _ (by decide +kernel)) ggX6_predict_X6_takesRegressor
set_option maxRecDepth 20000 in
theorem ggX6_predict_X6_sum : GoodIn wsX6_predict wsX6_sum := goodIn_r _ [24, 25, 20, 29, 30, 31, 32, 33, 34, 35, 36, 37, 38, 39, 40, 41] (by decide +kernel) (by decide +kernel)
set_option maxRecDepth 20000 in
theorem gX6_predict_X6_sum : GoodIn wsX6_predict (wsV RX6 137 RX6 yX6_sum wsX6_sum) := goodIn_app (goodIn_of _ (by decide +kernel)) ggX6_predict_X6_sum
set_option maxRecDepth 20000 in
theorem ggX6_predict_X6_floor : GoodIn wsX6_predict wsX6_floor := goodIn_r _ [28] (by decide +kernel) (by decide +kernel)
set_option maxRecDepth 20000 in
theorem gX6_predict_X6_floor : GoodIn wsX6_predict (va_wsS RX6 123 yX6_floor wsX6_floor) := goodIn_app (goodIn_of _ (by decide +kernel)) ggX6_predict_X6_floor
theorem dX6_predict_0 : decode cX6_predict 0 = .ok (.aload_n 0, 1) := by decide +kernel
theorem dX6_predict_1 : decode cX6_predict 1 = .ok (.iload_n 1, 1) := by decide +kernel
theorem dX6_predict_2 : decode cX6_predict 2 = .ok (.i2l, 1) := by decide +kernel
theorem dX6_predict_3 : decode cX6_predict 3 = .ok (.invokestatic 106, 3) := by decide +kernel
theorem dX6_predict_6 : decode cX6_predict 6 = .ok (.ifCond .eq 15, 3) := by decide +kernel
theorem dX6_predict_9 : decode cX6_predict 9 = .ok (.iload_n 2, 1) := by decide +kernel
theorem dX6_predict_10 : decode cX6_predict 10 = .ok (.i2l, 1) := by decide +kernel
theorem dX6_predict_11 : decode cX6_predict 11 = .ok (.invokestatic 106, 3) := by decide +kernel
theorem dX6_predict_14 : decode cX6_predict 14 = .ok (.ifCond .eq 7, 3) := by decide +kernel
theorem dX6_predict_17 : decode cX6_predict 17 = .ok (.iconst 1, 1) := by decide +kernel
theorem dX6_predict_18 : decode cX6_predict 18 = .ok (.goto 4, 3) := by decide +kernel
theorem dX6_predict_21 : decode cX6_predict 21 = .ok (.iconst 0, 1) := by decide +kernel
theorem dX6_predict_22 : decode cX6_predict 22 = .ok (.iconst 1, 1) := by decide +kernel
theorem dX6_predict_23 : decode cX6_predict 23 = .ok (.invokevirtual 83, 3) := by decide +kernel
theorem dX6_predict_26 : decode cX6_predict 26 = .ok (.ifCond .ne 5, 3) := by decide +kernel
theorem dX6_predict_29 : decode cX6_predict 29 = .ok (.lconst 0, 1) := by decide +kernel
theorem dX6_predict_30 : decode cX6_predict 30 = .ok (.lreturn, 1) := by decide +kernel
theorem dX6_predict_31 : decode cX6_predict 31 = .ok (.aload_n 0, 1) := by decide +kernel
theorem dX6_predict_32 : decode cX6_predict 32 = .ok (.iload_n 1, 1) := by decide +kernel
theorem dX6_predict_33 : decode cX6_predict 33 = .ok (.i2l, 1) := by decide +kernel
theorem dX6_predict_34 : decode cX6_predict 34 = .ok (.iload_n 2, 1) := by decide +kernel
theorem dX6_predict_35 : decode cX6_predict 35 = .ok (.i2l, 1) := by decide +kernel
theorem dX6_predict_36 : decode cX6_predict 36 = .ok (.invokevirtual 133, 3) := by decide +kernel
theorem dX6_predict_39 : decode cX6_predict 39 = .ok (.aload_n 0, 1) := by decide +kernel
theorem dX6_predict_40 : decode cX6_predict 40 = .ok (.invokevirtual 137, 3) := by decide +kernel
theorem dX6_predict_43 : decode cX6_predict 43 = .ok (.ldc2_w 71, 3) := by decide +kernel
theorem dX6_predict_46 : decode cX6_predict 46 = .ok (.invokestatic 123, 3) := by decide +kernel
theorem dX6_predict_49 : decode cX6_predict 49 = .ok (.lreturn, 1) := by decide +kernel
set_option maxRecDepth 20000 in
theorem ggX6_uncertainty_X6_isSignal : GoodIn wsX6_uncertainty wsX6_isSignal := goodIn_r _ [6, 7, 8, 9, 10, 5, 11] (by decide +kernel) (by decide +kernel)
set_option maxRecDepth 20000 in
theorem gX6_uncertainty_X6_isSignal : GoodIn wsX6_uncertainty (va_wsS RX6 106 yX6_isSignal wsX6_isSignal) := goodIn_app (goodIn_of _ (by decide +kernel)) ggX6_uncertainty_X6_isSignal
set_option maxRecDepth 20000 in
theorem ggX6_uncertainty_X6_goes : GoodIn wsX6_uncertainty wsX6_goes := goodIn_r _ [15, 16, 28, 29, 30, 31, 32, 33, 34, 35, 36, 37, 38, 39, 40] (by decide +kernel) (by decide +kernel)
set_option maxRecDepth 20000 in
theorem gX6_uncertainty_X6_goes : GoodIn wsX6_uncertainty (wsV RX6 83 RX6 yX6_goes wsX6_goes) := goodIn_app (goodIn_of _ (by decide +kernel)) ggX6_uncertainty_X6_goes
set_option maxRecDepth 20000 in
theorem ggX6_uncertainty_X6_takesRegressor : GoodIn wsX6_uncertainty wsX6_takesRegressor := goodIn_r _ [20, 21, 28, 29, 30, 31, 32, 33, 34, 35, 36, 37, 38, 39, 40] (by decide +kernel) (by decide +kernel)
set_option maxRecDepth 20000 in
theorem gX6_uncertainty_X6_takesRegressor : GoodIn wsX6_uncertainty (wsV RX6 133 RX6 yX6_takesRegressor wsX6_takesRegressor) := goodIn_app (goodIn_of _ (by decide +kernel)) ggX6_uncertainty_X6_takesRegressor
set_option maxRecDepth 20000 in
theorem ggX6_uncertainty_X6_laysGains : GoodIn wsX6_uncertainty wsX6_laysGains := goodIn_r _ [25, 1, 26, 27, 21, 28, 29, 30, 31, 32, 33, 34, 35, 36, 37, 38, 39, 40] (by decide +kernel) (by decide +kernel)
set_option maxRecDepth 20000 in
theorem gX6_uncertainty_X6_laysGains : GoodIn wsX6_uncertainty (wsV RX6 146 RX6 yX6_laysGains wsX6_laysGains) := goodIn_app (goodIn_of _ (by decide +kernel)) ggX6_uncertainty_X6_laysGains
theorem dX6_uncertainty_0 : decode cX6_uncertainty 0 = .ok (.aload_n 0, 1) := by decide +kernel
theorem dX6_uncertainty_1 : decode cX6_uncertainty 1 = .ok (.iload_n 1, 1) := by decide +kernel
theorem dX6_uncertainty_2 : decode cX6_uncertainty 2 = .ok (.i2l, 1) := by decide +kernel
theorem dX6_uncertainty_3 : decode cX6_uncertainty 3 = .ok (.invokestatic 106, 3) := by decide +kernel
theorem dX6_uncertainty_6 : decode cX6_uncertainty 6 = .ok (.ifCond .eq 15, 3) := by decide +kernel
theorem dX6_uncertainty_9 : decode cX6_uncertainty 9 = .ok (.iload_n 2, 1) := by decide +kernel
theorem dX6_uncertainty_10 : decode cX6_uncertainty 10 = .ok (.i2l, 1) := by decide +kernel
theorem dX6_uncertainty_11 : decode cX6_uncertainty 11 = .ok (.invokestatic 106, 3) := by decide +kernel
theorem dX6_uncertainty_14 : decode cX6_uncertainty 14 = .ok (.ifCond .eq 7, 3) := by decide +kernel
theorem dX6_uncertainty_17 : decode cX6_uncertainty 17 = .ok (.iconst 1, 1) := by decide +kernel
theorem dX6_uncertainty_18 : decode cX6_uncertainty 18 = .ok (.goto 4, 3) := by decide +kernel
theorem dX6_uncertainty_21 : decode cX6_uncertainty 21 = .ok (.iconst 0, 1) := by decide +kernel
theorem dX6_uncertainty_22 : decode cX6_uncertainty 22 = .ok (.iconst 1, 1) := by decide +kernel
theorem dX6_uncertainty_23 : decode cX6_uncertainty 23 = .ok (.invokevirtual 83, 3) := by decide +kernel
theorem dX6_uncertainty_26 : decode cX6_uncertainty 26 = .ok (.ifCond .ne 5, 3) := by decide +kernel
theorem dX6_uncertainty_29 : decode cX6_uncertainty 29 = .ok (.dconst 0, 1) := by decide +kernel
theorem dX6_uncertainty_30 : decode cX6_uncertainty 30 = .ok (.dreturn, 1) := by decide +kernel
theorem dX6_uncertainty_31 : decode cX6_uncertainty 31 = .ok (.aload_n 0, 1) := by decide +kernel
theorem dX6_uncertainty_32 : decode cX6_uncertainty 32 = .ok (.iload_n 1, 1) := by decide +kernel
theorem dX6_uncertainty_33 : decode cX6_uncertainty 33 = .ok (.i2l, 1) := by decide +kernel
theorem dX6_uncertainty_34 : decode cX6_uncertainty 34 = .ok (.iload_n 2, 1) := by decide +kernel
theorem dX6_uncertainty_35 : decode cX6_uncertainty 35 = .ok (.i2l, 1) := by decide +kernel
