theorem dX2_next_23 : decode cX2_next 23 = .ok (.iconst (-1), 1) := by decide +kernel
theorem dX2_next_24 : decode cX2_next 24 = .ok (.ireturn, 1) := by decide +kernel
theorem dX2_number_0 : decode cX2_number 0 = .ok (.aload_n 0, 1) := by decide +kernel
theorem dX2_number_1 : decode cX2_number 1 = .ok (.getfield 19, 3) := by decide +kernel
theorem dX2_number_4 : decode cX2_number 4 = .ok (.iconst 3, 1) := by decide +kernel
theorem dX2_number_5 : decode cX2_number 5 = .ok (.iload_n 1, 1) := by decide +kernel
theorem dX2_number_6 : decode cX2_number 6 = .ok (.imul, 1) := by decide +kernel
theorem dX2_number_7 : decode cX2_number 7 = .ok (.iload_n 2, 1) := by decide +kernel
theorem dX2_number_8 : decode cX2_number 8 = .ok (.iadd, 1) := by decide +kernel
theorem dX2_number_9 : decode cX2_number 9 = .ok (.iaload, 1) := by decide +kernel
theorem dX2_number_10 : decode cX2_number 10 = .ok (.ireturn, 1) := by decide +kernel
set_option maxRecDepth 20000 in
theorem ggX2_firstOutOfRange_X2_number : GoodIn wsX2_firstOutOfRange wsX2_number := goodIn_r _ [6, 7, 11, 12, 13, 14, 15] (by decide +kernel) (by decide +kernel)
set_option maxRecDepth 20000 in
theorem gX2_firstOutOfRange_X2_number : GoodIn wsX2_firstOutOfRange (wsV RX2 44 RX2 yX2_number wsX2_number) := goodIn_app (goodIn_of _ (by decide +kernel)) ggX2_firstOutOfRange_X2_number
set_option maxRecDepth 20000 in
theorem ggX2_firstOutOfRange_X5_isWithin : GoodIn wsX2_firstOutOfRange wsX5_isWithin := goodIn_r _ [10] (by decide +kernel) (by decide +kernel)
set_option maxRecDepth 20000 in
theorem gX2_firstOutOfRange_X5_isWithin_n40 : GoodIn wsX2_firstOutOfRange (wsX5_isWithin) := ggX2_firstOutOfRange_X5_isWithin
theorem dX2_firstOutOfRange_0 : decode cX2_firstOutOfRange 0 = .ok (.iconst 0, 1) := by decide +kernel
theorem dX2_firstOutOfRange_1 : decode cX2_firstOutOfRange 1 = .ok (.istore_n 1, 1) := by decide +kernel
theorem dX2_firstOutOfRange_2 : decode cX2_firstOutOfRange 2 = .ok (.iload_n 1, 1) := by decide +kernel
theorem dX2_firstOutOfRange_3 : decode cX2_firstOutOfRange 3 = .ok (.aload_n 0, 1) := by decide +kernel
theorem dX2_firstOutOfRange_4 : decode cX2_firstOutOfRange 4 = .ok (.getfield 23, 3) := by decide +kernel
theorem dX2_firstOutOfRange_7 : decode cX2_firstOutOfRange 7 = .ok (.if_icmp .ge 65, 3) := by decide +kernel
theorem dX2_firstOutOfRange_10 : decode cX2_firstOutOfRange 10 = .ok (.aload_n 0, 1) := by decide +kernel
theorem dX2_firstOutOfRange_11 : decode cX2_firstOutOfRange 11 = .ok (.iload_n 1, 1) := by decide +kernel
theorem dX2_firstOutOfRange_12 : decode cX2_firstOutOfRange 12 = .ok (.iconst 0, 1) := by decide +kernel
theorem dX2_firstOutOfRange_13 : decode cX2_firstOutOfRange 13 = .ok (.invokevirtual 44, 3) := by decide +kernel
theorem dX2_firstOutOfRange_16 : decode cX2_firstOutOfRange 16 = .ok (.sipush (-2000), 3) := by decide +kernel
theorem dX2_firstOutOfRange_19 : decode cX2_firstOutOfRange 19 = .ok (.sipush 2000, 3) := by decide +kernel
theorem dX2_firstOutOfRange_22 : decode cX2_firstOutOfRange 22 = .ok (.invokestatic 40, 3) := by decide +kernel
theorem dX2_firstOutOfRange_25 : decode cX2_firstOutOfRange 25 = .ok (.ifCond .eq 39, 3) := by decide +kernel
theorem dX2_firstOutOfRange_28 : decode cX2_firstOutOfRange 28 = .ok (.aload_n 0, 1) := by decide +kernel
theorem dX2_firstOutOfRange_29 : decode cX2_firstOutOfRange 29 = .ok (.iload_n 1, 1) := by decide +kernel
theorem dX2_firstOutOfRange_30 : decode cX2_firstOutOfRange 30 = .ok (.iconst 1, 1) := by decide +kernel
theorem dX2_firstOutOfRange_31 : decode cX2_firstOutOfRange 31 = .ok (.invokevirtual 44, 3) := by decide +kernel
theorem dX2_firstOutOfRange_34 : decode cX2_firstOutOfRange 34 = .ok (.sipush (-2000), 3) := by decide +kernel
theorem dX2_firstOutOfRange_37 : decode cX2_firstOutOfRange 37 = .ok (.sipush 2000, 3) := by decide +kernel
theorem dX2_firstOutOfRange_40 : decode cX2_firstOutOfRange 40 = .ok (.invokestatic 40, 3) := by decide +kernel
theorem dX2_firstOutOfRange_43 : decode cX2_firstOutOfRange 43 = .ok (.ifCond .eq 21, 3) := by decide +kernel
theorem dX2_firstOutOfRange_46 : decode cX2_firstOutOfRange 46 = .ok (.aload_n 0, 1) := by decide +kernel
theorem dX2_firstOutOfRange_47 : decode cX2_firstOutOfRange 47 = .ok (.iload_n 1, 1) := by decide +kernel
theorem dX2_firstOutOfRange_48 : decode cX2_firstOutOfRange 48 = .ok (.iconst 2, 1) := by decide +kernel
theorem dX2_firstOutOfRange_49 : decode cX2_firstOutOfRange 49 = .ok (.invokevirtual 44, 3) := by decide +kernel
theorem dX2_firstOutOfRange_52 : decode cX2_firstOutOfRange 52 = .ok (.sipush (-4000), 3) := by decide +kernel
theorem dX2_firstOutOfRange_55 : decode cX2_firstOutOfRange 55 = .ok (.sipush 4000, 3) := by decide +kernel
theorem dX2_firstOutOfRange_58 : decode cX2_firstOutOfRange 58 = .ok (.invokestatic 40, 3) := by decide +kernel
theorem dX2_firstOutOfRange_61 : decode cX2_firstOutOfRange 61 = .ok (.ifCond .ne 5, 3) := by decide +kernel
theorem dX2_firstOutOfRange_64 : decode cX2_firstOutOfRange 64 = .ok (.iload_n 1, 1) := by decide +kernel
theorem dX2_firstOutOfRange_65 : decode cX2_firstOutOfRange 65 = .ok (.ireturn, 1) := by decide +kernel
theorem dX2_firstOutOfRange_66 : decode cX2_firstOutOfRange 66 = .ok (.iinc 1 1, 3) := by decide +kernel
theorem dX2_firstOutOfRange_69 : decode cX2_firstOutOfRange 69 = .ok (.goto (-67), 3) := by decide +kernel
theorem dX2_firstOutOfRange_72 : decode cX2_firstOutOfRange 72 = .ok (.iconst (-1), 1) := by decide +kernel
theorem dX2_firstOutOfRange_73 : decode cX2_firstOutOfRange 73 = .ok (.ireturn, 1) := by decide +kernel
set_option maxRecDepth 20000 in
theorem ggX3_init_X0_init : GoodIn wsX3_init wsX0_init := goodIn_r _ [16, 17, 2, 3, 4, 18, 19, 20, 21, 22, 23, 24, 25, 26, 27, 28, 29, 30, 31, 32, 33, 34, 35, 36, 37, 38, 39, 40, 9, 41, 42, 43, 44, 45, 46, 47, 48, 49, 50, 51, 52, 53, 54, 65, 66, 67, 68, 69, 70, 71, 72, 77, 78, 79] (by decide +kernel) (by decide +kernel)
set_option maxRecDepth 20000 in
theorem gX3_init_X0_init_n18 : GoodIn wsX3_init (wsX0_init) := ggX3_init_X0_init
set_option maxRecDepth 20000 in
theorem ggX3_init_X1_init : GoodIn wsX3_init wsX1_init := goodIn_r _ [56, 57, 2, 3, 4, 58, 59, 60, 61, 73, 74, 75, 76] (by decide +kernel) (by decide +kernel)
set_option maxRecDepth 20000 in
theorem gX3_init_X1_init_n25 : GoodIn wsX3_init (wsX1_init) := ggX3_init_X1_init
theorem dX3_init_0 : decode cX3_init 0 = .ok (.aload_n 0, 1) := by decide +kernel
theorem dX3_init_1 : decode cX3_init 1 = .ok (.invokespecial 3, 3) := by decide +kernel
theorem dX3_init_4 : decode cX3_init 4 = .ok (.aload_n 0, 1) := by decide +kernel
theorem dX3_init_5 : decode cX3_init 5 = .ok (.bipush 7, 2) := by decide +kernel
theorem dX3_init_7 : decode cX3_init 7 = .ok (.newarray .int, 2) := by decide +kernel
theorem dX3_init_9 : decode cX3_init 9 = .ok (.dup, 1) := by decide +kernel
theorem dX3_init_10 : decode cX3_init 10 = .ok (.iconst 0, 1) := by decide +kernel
theorem dX3_init_11 : decode cX3_init 11 = .ok (.ldc 9, 2) := by decide +kernel
theorem dX3_init_13 : decode cX3_init 13 = .ok (.iastore, 1) := by decide +kernel
theorem dX3_init_14 : decode cX3_init 14 = .ok (.dup, 1) := by decide +kernel
theorem dX3_init_15 : decode cX3_init 15 = .ok (.iconst 1, 1) := by decide +kernel
theorem dX3_init_16 : decode cX3_init 16 = .ok (.iconst 2, 1) := by decide +kernel
theorem dX3_init_17 : decode cX3_init 17 = .ok (.iastore, 1) := by decide +kernel
theorem dX3_init_18 : decode cX3_init 18 = .ok (.dup, 1) := by decide +kernel
theorem dX3_init_19 : decode cX3_init 19 = .ok (.iconst 2, 1) := by decide +kernel
theorem dX3_init_20 : decode cX3_init 20 = .ok (.iconst 1, 1) := by decide +kernel
theorem dX3_init_21 : decode cX3_init 21 = .ok (.iastore, 1) := by decide +kernel
theorem dX3_init_22 : decode cX3_init 22 = .ok (.dup, 1) := by decide +kernel
theorem dX3_init_23 : decode cX3_init 23 = .ok (.iconst 3, 1) := by decide +kernel
theorem dX3_init_24 : decode cX3_init 24 = .ok (.bipush 8, 2) := by decide +kernel
theorem dX3_init_26 : decode cX3_init 26 = .ok (.iastore, 1) := by decide +kernel
theorem dX3_init_27 : decode cX3_init 27 = .ok (.dup, 1) := by decide +kernel
theorem dX3_init_28 : decode cX3_init 28 = .ok (.iconst 4, 1) := by decide +kernel
theorem dX3_init_29 : decode cX3_init 29 = .ok (.sipush 500, 3) := by decide +kernel
theorem dX3_init_32 : decode cX3_init 32 = .ok (.iastore, 1) := by decide +kernel
theorem dX3_init_33 : decode cX3_init 33 = .ok (.dup, 1) := by decide +kernel
theorem dX3_init_34 : decode cX3_init 34 = .ok (.iconst 5, 1) := by decide +kernel
theorem dX3_init_35 : decode cX3_init 35 = .ok (.iconst 0, 1) := by decide +kernel
theorem dX3_init_36 : decode cX3_init 36 = .ok (.iastore, 1) := by decide +kernel
theorem dX3_init_37 : decode cX3_init 37 = .ok (.dup, 1) := by decide +kernel
theorem dX3_init_38 : decode cX3_init 38 = .ok (.bipush 6, 2) := by decide +kernel
theorem dX3_init_40 : decode cX3_init 40 = .ok (.sipush 3277, 3) := by decide +kernel
theorem dX3_init_43 : decode cX3_init 43 = .ok (.iastore, 1) := by decide +kernel
theorem dX3_init_44 : decode cX3_init 44 = .ok (.putfield 10, 3) := by decide +kernel
theorem dX3_init_47 : decode cX3_init 47 = .ok (.aload_n 0, 1) := by decide +kernel
theorem dX3_init_48 : decode cX3_init 48 = .ok (.new 16, 3) := by decide +kernel
theorem dX3_init_51 : decode cX3_init 51 = .ok (.dup, 1) := by decide +kernel
theorem dX3_init_52 : decode cX3_init 52 = .ok (.invokespecial 18, 3) := by decide +kernel
theorem dX3_init_55 : decode cX3_init 55 = .ok (.putfield 19, 3) := by decide +kernel
theorem dX3_init_58 : decode cX3_init 58 = .ok (.aload_n 0, 1) := by decide +kernel
theorem dX3_init_59 : decode cX3_init 59 = .ok (.new 23, 3) := by decide +kernel
theorem dX3_init_62 : decode cX3_init 62 = .ok (.dup, 1) := by decide +kernel
theorem dX3_init_63 : decode cX3_init 63 = .ok (.invokespecial 25, 3) := by decide +kernel
theorem dX3_init_66 : decode cX3_init 66 = .ok (.putfield 26, 3) := by decide +kernel
theorem dX3_init_69 : decode cX3_init 69 = .ok (.return_, 1) := by decide +kernel
set_option maxRecDepth 20000 in
theorem ggX3_copyFrom_X0_copyFrom : GoodIn wsX3_copyFrom wsX0_copyFrom := goodIn_r _ [11, 12, 13, 3, 4, 5, 14, 15, 16, 17, 18, 19, 20, 21, 22, 23, 24, 25, 26, 39, 40, 41, 42, 43, 44, 45, 46, 47, 48, 49] (by decide +kernel) (by decide +kernel)
set_option maxRecDepth 20000 in
theorem gX3_copyFrom_X0_copyFrom_n36 : GoodIn wsX3_copyFrom (wsX0_copyFrom) := ggX3_copyFrom_X0_copyFrom
set_option maxRecDepth 20000 in
theorem ggX3_copyFrom_X1_copyFrom : GoodIn wsX3_copyFrom wsX1_copyFrom := goodIn_r _ [30, 31, 32, 3, 4, 5, 33, 34, 35, 50, 51, 52, 53] (by decide +kernel) (by decide +kernel)
set_option maxRecDepth 20000 in
theorem gX3_copyFrom_X1_copyFrom_n40 : GoodIn wsX3_copyFrom (wsX1_copyFrom) := ggX3_copyFrom_X1_copyFrom
theorem dX3_copyFrom_0 : decode cX3_copyFrom 0 = .ok (.aload_n 1, 1) := by decide +kernel
theorem dX3_copyFrom_1 : decode cX3_copyFrom 1 = .ok (.getfield 10, 3) := by decide +kernel
theorem dX3_copyFrom_4 : decode cX3_copyFrom 4 = .ok (.iconst 0, 1) := by decide +kernel
theorem dX3_copyFrom_5 : decode cX3_copyFrom 5 = .ok (.aload_n 0, 1) := by decide +kernel
theorem dX3_copyFrom_6 : decode cX3_copyFrom 6 = .ok (.getfield 10, 3) := by decide +kernel
theorem dX3_copyFrom_9 : decode cX3_copyFrom 9 = .ok (.iconst 0, 1) := by decide +kernel
theorem dX3_copyFrom_10 : decode cX3_copyFrom 10 = .ok (.bipush 7, 2) := by decide +kernel
theorem dX3_copyFrom_12 : decode cX3_copyFrom 12 = .ok (.invokestatic 30, 3) := by decide +kernel
theorem dX3_copyFrom_15 : decode cX3_copyFrom 15 = .ok (.aload_n 0, 1) := by decide +kernel
theorem dX3_copyFrom_16 : decode cX3_copyFrom 16 = .ok (.getfield 19, 3) := by decide +kernel
theorem dX3_copyFrom_19 : decode cX3_copyFrom 19 = .ok (.aload_n 1, 1) := by decide +kernel
theorem dX3_copyFrom_20 : decode cX3_copyFrom 20 = .ok (.getfield 19, 3) := by decide +kernel
theorem dX3_copyFrom_23 : decode cX3_copyFrom 23 = .ok (.invokevirtual 36, 3) := by decide +kernel
theorem dX3_copyFrom_26 : decode cX3_copyFrom 26 = .ok (.aload_n 0, 1) := by decide +kernel
theorem dX3_copyFrom_27 : decode cX3_copyFrom 27 = .ok (.getfield 26, 3) := by decide +kernel
theorem dX3_copyFrom_30 : decode cX3_copyFrom 30 = .ok (.aload_n 1, 1) := by decide +kernel
theorem dX3_copyFrom_31 : decode cX3_copyFrom 31 = .ok (.getfield 26, 3) := by decide +kernel
theorem dX3_copyFrom_34 : decode cX3_copyFrom 34 = .ok (.invokevirtual 40, 3) := by decide +kernel
theorem dX3_copyFrom_37 : decode cX3_copyFrom 37 = .ok (.return_, 1) := by decide +kernel
set_option maxRecDepth 20000 in
theorem ggX3_inputFor_X5_divideDown : GoodIn wsX3_inputFor wsX5_divideDown := goodIn_r _ [13, 14, 15, 16, 17] (by decide +kernel) (by decide +kernel)
set_option maxRecDepth 20000 in
theorem gX3_inputFor_X5_divideDown_n58 : GoodIn wsX3_inputFor (wsX5_divideDown) := ggX3_inputFor_X5_divideDown
set_option maxRecDepth 20000 in
theorem ggX3_inputFor_X5_bring : GoodIn wsX3_inputFor wsX5_bring := goodIn_r _ [19] (by decide +kernel) (by decide +kernel)
set_option maxRecDepth 20000 in
theorem gX3_inputFor_X5_bring_n64 : GoodIn wsX3_inputFor (wsX5_bring) := ggX3_inputFor_X5_bring
theorem dX3_inputFor_0 : decode cX3_inputFor 0 = .ok (.ldc2_w 43, 3) := by decide +kernel
theorem dX3_inputFor_3 : decode cX3_inputFor 3 = .ok (.iload_n 1, 1) := by decide +kernel
theorem dX3_inputFor_4 : decode cX3_inputFor 4 = .ok (.i2l, 1) := by decide +kernel
theorem dX3_inputFor_5 : decode cX3_inputFor 5 = .ok (.lmul, 1) := by decide +kernel
theorem dX3_inputFor_6 : decode cX3_inputFor 6 = .ok (.aload_n 0, 1) := by decide +kernel
theorem dX3_inputFor_7 : decode cX3_inputFor 7 = .ok (.getfield 19, 3) := by decide +kernel
theorem dX3_inputFor_10 : decode cX3_inputFor 10 = .ok (.getfield 45, 3) := by decide +kernel
theorem dX3_inputFor_13 : decode cX3_inputFor 13 = .ok (.iconst 0, 1) := by decide +kernel
theorem dX3_inputFor_14 : decode cX3_inputFor 14 = .ok (.iaload, 1) := by decide +kernel
theorem dX3_inputFor_15 : decode cX3_inputFor 15 = .ok (.i2l, 1) := by decide +kernel
theorem dX3_inputFor_16 : decode cX3_inputFor 16 = .ok (.iload_n 2, 1) := by decide +kernel
theorem dX3_inputFor_17 : decode cX3_inputFor 17 = .ok (.i2l, 1) := by decide +kernel
theorem dX3_inputFor_18 : decode cX3_inputFor 18 = .ok (.lmul, 1) := by decide +kernel
theorem dX3_inputFor_19 : decode cX3_inputFor 19 = .ok (.lsub, 1) := by decide +kernel
theorem dX3_inputFor_20 : decode cX3_inputFor 20 = .ok (.aload_n 0, 1) := by decide +kernel
theorem dX3_inputFor_21 : decode cX3_inputFor 21 = .ok (.getfield 19, 3) := by decide +kernel
theorem dX3_inputFor_24 : decode cX3_inputFor 24 = .ok (.getfield 45, 3) := by decide +kernel
theorem dX3_inputFor_27 : decode cX3_inputFor 27 = .ok (.iconst 2, 1) := by decide +kernel
theorem dX3_inputFor_28 : decode cX3_inputFor 28 = .ok (.iaload, 1) := by decide +kernel
theorem dX3_inputFor_29 : decode cX3_inputFor 29 = .ok (.i2l, 1) := by decide +kernel
theorem dX3_inputFor_30 : decode cX3_inputFor 30 = .ok (.lsub, 1) := by decide +kernel
theorem dX3_inputFor_31 : decode cX3_inputFor 31 = .ok (.lstore_n 3, 1) := by decide +kernel
theorem dX3_inputFor_32 : decode cX3_inputFor 32 = .ok (.aload_n 0, 1) := by decide +kernel
theorem dX3_inputFor_33 : decode cX3_inputFor 33 = .ok (.getfield 19, 3) := by decide +kernel
theorem dX3_inputFor_36 : decode cX3_inputFor 36 = .ok (.getfield 45, 3) := by decide +kernel
theorem dX3_inputFor_39 : decode cX3_inputFor 39 = .ok (.iconst 1, 1) := by decide +kernel
theorem dX3_inputFor_40 : decode cX3_inputFor 40 = .ok (.iaload, 1) := by decide +kernel
theorem dX3_inputFor_41 : decode cX3_inputFor 41 = .ok (.i2l, 1) := by decide +kernel
theorem dX3_inputFor_42 : decode cX3_inputFor 42 = .ok (.lstore 5, 2) := by decide +kernel
theorem dX3_inputFor_44 : decode cX3_inputFor 44 = .ok (.lload 5, 2) := by decide +kernel
theorem dX3_inputFor_46 : decode cX3_inputFor 46 = .ok (.lconst 0, 1) := by decide +kernel
theorem dX3_inputFor_47 : decode cX3_inputFor 47 = .ok (.lcmp, 1) := by decide +kernel
theorem dX3_inputFor_48 : decode cX3_inputFor 48 = .ok (.ifCond .ge 7, 3) := by decide +kernel
theorem dX3_inputFor_51 : decode cX3_inputFor 51 = .ok (.iconst 1, 1) := by decide +kernel
theorem dX3_inputFor_52 : decode cX3_inputFor 52 = .ok (.goto 4, 3) := by decide +kernel
theorem dX3_inputFor_55 : decode cX3_inputFor 55 = .ok (.iconst 0, 1) := by decide +kernel
theorem dX3_inputFor_56 : decode cX3_inputFor 56 = .ok (.istore 7, 2) := by decide +kernel
theorem dX3_inputFor_58 : decode cX3_inputFor 58 = .ok (.lload 5, 2) := by decide +kernel
theorem dX3_inputFor_60 : decode cX3_inputFor 60 = .ok (.invokestatic 48, 3) := by decide +kernel
theorem dX3_inputFor_63 : decode cX3_inputFor 63 = .ok (.aload_n 0, 1) := by decide +kernel
theorem dX3_inputFor_64 : decode cX3_inputFor 64 = .ok (.getfield 10, 3) := by decide +kernel
theorem dX3_inputFor_67 : decode cX3_inputFor 67 = .ok (.bipush 6, 2) := by decide +kernel
theorem dX3_inputFor_69 : decode cX3_inputFor 69 = .ok (.iaload, 1) := by decide +kernel
theorem dX3_inputFor_70 : decode cX3_inputFor 70 = .ok (.i2l, 1) := by decide +kernel
theorem dX3_inputFor_71 : decode cX3_inputFor 71 = .ok (.invokestatic 54, 3) := by decide +kernel
theorem dX3_inputFor_74 : decode cX3_inputFor 74 = .ok (.lstore 8, 2) := by decide +kernel
theorem dX3_inputFor_76 : decode cX3_inputFor 76 = .ok (.iload 7, 2) := by decide +kernel
theorem dX3_inputFor_78 : decode cX3_inputFor 78 = .ok (.ifCond .eq 8, 3) := by decide +kernel
theorem dX3_inputFor_81 : decode cX3_inputFor 81 = .ok (.lload_n 3, 1) := by decide +kernel
theorem dX3_inputFor_82 : decode cX3_inputFor 82 = .ok (.lneg, 1) := by decide +kernel
theorem dX3_inputFor_83 : decode cX3_inputFor 83 = .ok (.goto 4, 3) := by decide +kernel
theorem dX3_inputFor_86 : decode cX3_inputFor 86 = .ok (.lload_n 3, 1) := by decide +kernel
theorem dX3_inputFor_87 : decode cX3_inputFor 87 = .ok (.lload 8, 2) := by decide +kernel
theorem dX3_inputFor_89 : decode cX3_inputFor 89 = .ok (.invokestatic 58, 3) := by decide +kernel
theorem dX3_inputFor_92 : decode cX3_inputFor 92 = .ok (.lstore 10, 2) := by decide +kernel
theorem dX3_inputFor_94 : decode cX3_inputFor 94 = .ok (.aload_n 0, 1) := by decide +kernel
theorem dX3_inputFor_95 : decode cX3_inputFor 95 = .ok (.getfield 19, 3) := by decide +kernel
theorem dX3_inputFor_98 : decode cX3_inputFor 98 = .ok (.getfield 61, 3) := by decide +kernel
theorem dX3_inputFor_101 : decode cX3_inputFor 101 = .ok (.iconst 0, 1) := by decide +kernel
theorem dX3_inputFor_102 : decode cX3_inputFor 102 = .ok (.iaload, 1) := by decide +kernel
theorem dX3_inputFor_103 : decode cX3_inputFor 103 = .ok (.iconst 2, 1) := by decide +kernel
theorem dX3_inputFor_104 : decode cX3_inputFor 104 = .ok (.irem, 1) := by decide +kernel
theorem dX3_inputFor_105 : decode cX3_inputFor 105 = .ok (.ifCond .ne 7, 3) := by decide +kernel
theorem dX3_inputFor_108 : decode cX3_inputFor 108 = .ok (.iconst 1, 1) := by decide +kernel
theorem dX3_inputFor_109 : decode cX3_inputFor 109 = .ok (.goto 4, 3) := by decide +kernel
theorem dX3_inputFor_112 : decode cX3_inputFor 112 = .ok (.iconst 0, 1) := by decide +kernel
theorem dX3_inputFor_113 : decode cX3_inputFor 113 = .ok (.istore 12, 2) := by decide +kernel
theorem dX3_inputFor_115 : decode cX3_inputFor 115 = .ok (.lload 10, 2) := by decide +kernel
theorem dX3_inputFor_117 : decode cX3_inputFor 117 = .ok (.iload 12, 2) := by decide +kernel
theorem dX3_inputFor_119 : decode cX3_inputFor 119 = .ok (.ifCond .eq 13, 3) := by decide +kernel
theorem dX3_inputFor_122 : decode cX3_inputFor 122 = .ok (.aload_n 0, 1) := by decide +kernel
theorem dX3_inputFor_123 : decode cX3_inputFor 123 = .ok (.getfield 10, 3) := by decide +kernel
theorem dX3_inputFor_126 : decode cX3_inputFor 126 = .ok (.iconst 5, 1) := by decide +kernel
theorem dX3_inputFor_127 : decode cX3_inputFor 127 = .ok (.iaload, 1) := by decide +kernel
theorem dX3_inputFor_128 : decode cX3_inputFor 128 = .ok (.i2l, 1) := by decide +kernel
theorem dX3_inputFor_129 : decode cX3_inputFor 129 = .ok (.goto 11, 3) := by decide +kernel
theorem dX3_inputFor_132 : decode cX3_inputFor 132 = .ok (.aload_n 0, 1) := by decide +kernel
theorem dX3_inputFor_133 : decode cX3_inputFor 133 = .ok (.getfield 10, 3) := by decide +kernel
theorem dX3_inputFor_136 : decode cX3_inputFor 136 = .ok (.iconst 5, 1) := by decide +kernel
theorem dX3_inputFor_137 : decode cX3_inputFor 137 = .ok (.iaload, 1) := by decide +kernel
theorem dX3_inputFor_138 : decode cX3_inputFor 138 = .ok (.ineg, 1) := by decide +kernel
theorem dX3_inputFor_139 : decode cX3_inputFor 139 = .ok (.i2l, 1) := by decide +kernel
theorem dX3_inputFor_140 : decode cX3_inputFor 140 = .ok (.ladd, 1) := by decide +kernel
theorem dX3_inputFor_141 : decode cX3_inputFor 141 = .ok (.lstore 10, 2) := by decide +kernel
theorem dX3_inputFor_143 : decode cX3_inputFor 143 = .ok (.lload 10, 2) := by decide +kernel
theorem dX3_inputFor_145 : decode cX3_inputFor 145 = .ok (.aload_n 0, 1) := by decide +kernel
theorem dX3_inputFor_146 : decode cX3_inputFor 146 = .ok (.getfield 10, 3) := by decide +kernel
theorem dX3_inputFor_149 : decode cX3_inputFor 149 = .ok (.iconst 4, 1) := by decide +kernel
theorem dX3_inputFor_150 : decode cX3_inputFor 150 = .ok (.iaload, 1) := by decide +kernel
theorem dX3_inputFor_151 : decode cX3_inputFor 151 = .ok (.ineg, 1) := by decide +kernel
theorem dX3_inputFor_152 : decode cX3_inputFor 152 = .ok (.i2l, 1) := by decide +kernel
theorem dX3_inputFor_153 : decode cX3_inputFor 153 = .ok (.aload_n 0, 1) := by decide +kernel
theorem dX3_inputFor_154 : decode cX3_inputFor 154 = .ok (.getfield 10, 3) := by decide +kernel
theorem dX3_inputFor_157 : decode cX3_inputFor 157 = .ok (.iconst 4, 1) := by decide +kernel
theorem dX3_inputFor_158 : decode cX3_inputFor 158 = .ok (.iaload, 1) := by decide +kernel
theorem dX3_inputFor_159 : decode cX3_inputFor 159 = .ok (.i2l, 1) := by decide +kernel
theorem dX3_inputFor_160 : decode cX3_inputFor 160 = .ok (.invokestatic 64, 3) := by decide +kernel
theorem dX3_inputFor_163 : decode cX3_inputFor 163 = .ok (.l2i, 1) := by decide +kernel
theorem dX3_inputFor_164 : decode cX3_inputFor 164 = .ok (.ireturn, 1) := by decide +kernel
set_option maxRecDepth 20000 in
theorem ggX3_step_X1_move : GoodIn wsX3_step wsX1_move := goodIn_r _ [7, 8, 9, 10, 11, 12, 13, 14, 15, 16, 17, 18, 19, 20, 21, 22, 23, 24, 25, 26, 27, 28, 29, 5, 30, 31, 32, 33, 34, 35, 106, 107, 108, 109] (by decide +kernel) (by decide +kernel)
set_option maxRecDepth 20000 in
theorem gX3_step_X1_move_n72 : GoodIn wsX3_step (wsX1_move) := ggX3_step_X1_move
set_option maxRecDepth 20000 in
theorem ggX3_step_X0_take : GoodIn wsX3_step wsX0_take := goodIn_r _ [39, 40, 41, 42, 43, 44, 45, 46, 47, 48, 49, 50, 51, 37, 52, 53, 54, 55, 56, 57, 58, 59, 60, 61, 62, 63, 64, 65, 66, 67, 68, 69, 70, 71, 72, 73, 74, 75, 76, 77, 78, 79, 80, 81, 82, 21, 22, 23, 24, 25, 19, 26, 34, 35, 83, 84, 85, 86, 87, 88, 89, 90, 91, 92, 93, 94, 95, 96, 97, 98, 99, 100, 101, 102, 110, 111, 112, 113, 114, 115, 116, 117, 118, 119, 120] (by decide +kernel) (by decide +kernel)
set_option maxRecDepth 20000 in
theorem gX3_step_X0_take_n76 : GoodIn wsX3_step (wsX0_take) := ggX3_step_X0_take
theorem dX3_step_0 : decode cX3_step 0 = .ok (.aload_n 0, 1) := by decide +kernel
theorem dX3_step_1 : decode cX3_step 1 = .ok (.getfield 26, 3) := by decide +kernel
theorem dX3_step_4 : decode cX3_step 4 = .ok (.getfield 68, 3) := by decide +kernel
theorem dX3_step_7 : decode cX3_step 7 = .ok (.istore_n 2, 1) := by decide +kernel
theorem dX3_step_8 : decode cX3_step 8 = .ok (.aload_n 0, 1) := by decide +kernel
theorem dX3_step_9 : decode cX3_step 9 = .ok (.getfield 26, 3) := by decide +kernel
theorem dX3_step_12 : decode cX3_step 12 = .ok (.iload_n 1, 1) := by decide +kernel
theorem dX3_step_13 : decode cX3_step 13 = .ok (.invokevirtual 72, 3) := by decide +kernel
theorem dX3_step_16 : decode cX3_step 16 = .ok (.aload_n 0, 1) := by decide +kernel
theorem dX3_step_17 : decode cX3_step 17 = .ok (.getfield 19, 3) := by decide +kernel
theorem dX3_step_20 : decode cX3_step 20 = .ok (.aload_n 0, 1) := by decide +kernel
theorem dX3_step_21 : decode cX3_step 21 = .ok (.getfield 10, 3) := by decide +kernel
theorem dX3_step_24 : decode cX3_step 24 = .ok (.iload_n 2, 1) := by decide +kernel
theorem dX3_step_25 : decode cX3_step 25 = .ok (.iload_n 1, 1) := by decide +kernel
theorem dX3_step_26 : decode cX3_step 26 = .ok (.aload_n 0, 1) := by decide +kernel
theorem dX3_step_27 : decode cX3_step 27 = .ok (.getfield 26, 3) := by decide +kernel
theorem dX3_step_30 : decode cX3_step 30 = .ok (.getfield 68, 3) := by decide +kernel
theorem dX3_step_33 : decode cX3_step 33 = .ok (.invokevirtual 76, 3) := by decide +kernel
theorem dX3_step_36 : decode cX3_step 36 = .ok (.pop2, 1) := by decide +kernel
theorem dX3_step_37 : decode cX3_step 37 = .ok (.return_, 1) := by decide +kernel
set_option maxRecDepth 20000 in
theorem ggX3_costOfSteps_X3_inputFor : GoodIn wsX3_costOfSteps wsX3_inputFor := goodIn_r _ [10, 11, 12, 13, 14, 4, 15, 16, 17, 18, 19, 20, 21, 22, 23, 24, 25, 26, 27, 28, 118, 119, 120, 125, 126, 127, 128, 129, 130, 131, 132] (by decide +kernel) (by decide +kernel)
set_option maxRecDepth 20000 in
theorem gX3_costOfSteps_X3_inputFor : GoodIn wsX3_costOfSteps (wsV RX3 80 RX3 yX3_inputFor wsX3_inputFor) := goodIn_app (goodIn_of _ (by decide +kernel)) ggX3_costOfSteps_X3_inputFor
set_option maxRecDepth 20000 in
theorem ggX3_costOfSteps_X3_step : GoodIn wsX3_costOfSteps wsX3_step := goodIn_r _ [32, 1, 12, 16, 33, 34, 35, 36, 37, 38, 39, 40, 41, 42, 43, 44, 45, 46, 47, 25, 48, 20, 21, 22, 23, 24, 26, 49, 50, 51, 52, 53, 54, 55, 27, 28, 56, 57, 58, 59, 60, 61, 62, 63, 14, 4, 15, 64, 65, 66, 67, 68, 69, 70, 71, 72, 73, 74, 75, 76, 77, 78, 79, 80, 81, 82, 83, 84, 85, 86, 87, 88, 89, 90, 18, 19, 91, 92, 93, 94, 95, 96, 97, 98, 99, 100, 101, 102, 103, 104, 105, 106, 107, 108, 109, 110, 111, 112, 113, 114, 115, 116, 117, 118, 119, 120, 121, 122, 123, 124, 125, 126, 127, 128, 129, 130, 131, 132, 133, 134, 135] (by decide +kernel) (by decide +kernel)
set_option maxRecDepth 20000 in
theorem gX3_costOfSteps_X3_step : GoodIn wsX3_costOfSteps (wsV RX3 84 RX3 yX3_step wsX3_step) := goodIn_app (goodIn_of _ (by decide +kernel)) ggX3_costOfSteps_X3_step
theorem dX3_costOfSteps_0 : decode cX3_costOfSteps 0 = .ok (.lconst 0, 1) := by decide +kernel
theorem dX3_costOfSteps_1 : decode cX3_costOfSteps 1 = .ok (.lstore_n 3, 1) := by decide +kernel
theorem dX3_costOfSteps_2 : decode cX3_costOfSteps 2 = .ok (.iconst 0, 1) := by decide +kernel
theorem dX3_costOfSteps_3 : decode cX3_costOfSteps 3 = .ok (.istore 5, 2) := by decide +kernel
theorem dX3_costOfSteps_5 : decode cX3_costOfSteps 5 = .ok (.iload 5, 2) := by decide +kernel
theorem dX3_costOfSteps_7 : decode cX3_costOfSteps 7 = .ok (.iload_n 2, 1) := by decide +kernel
theorem dX3_costOfSteps_8 : decode cX3_costOfSteps 8 = .ok (.if_icmp .ge 41, 3) := by decide +kernel
theorem dX3_costOfSteps_11 : decode cX3_costOfSteps 11 = .ok (.aload_n 0, 1) := by decide +kernel
theorem dX3_costOfSteps_12 : decode cX3_costOfSteps 12 = .ok (.aload_n 0, 1) := by decide +kernel
theorem dX3_costOfSteps_13 : decode cX3_costOfSteps 13 = .ok (.iload_n 1, 1) := by decide +kernel
theorem dX3_costOfSteps_14 : decode cX3_costOfSteps 14 = .ok (.aload_n 0, 1) := by decide +kernel
theorem dX3_costOfSteps_15 : decode cX3_costOfSteps 15 = .ok (.getfield 26, 3) := by decide +kernel
theorem dX3_costOfSteps_18 : decode cX3_costOfSteps 18 = .ok (.getfield 68, 3) := by decide +kernel
theorem dX3_costOfSteps_21 : decode cX3_costOfSteps 21 = .ok (.invokevirtual 80, 3) := by decide +kernel
theorem dX3_costOfSteps_24 : decode cX3_costOfSteps 24 = .ok (.invokevirtual 84, 3) := by decide +kernel
theorem dX3_costOfSteps_27 : decode cX3_costOfSteps 27 = .ok (.lload_n 3, 1) := by decide +kernel
theorem dX3_costOfSteps_28 : decode cX3_costOfSteps 28 = .ok (.iload_n 1, 1) := by decide +kernel
theorem dX3_costOfSteps_29 : decode cX3_costOfSteps 29 = .ok (.aload_n 0, 1) := by decide +kernel
theorem dX3_costOfSteps_30 : decode cX3_costOfSteps 30 = .ok (.getfield 26, 3) := by decide +kernel
theorem dX3_costOfSteps_33 : decode cX3_costOfSteps 33 = .ok (.getfield 68, 3) := by decide +kernel
theorem dX3_costOfSteps_36 : decode cX3_costOfSteps 36 = .ok (.isub, 1) := by decide +kernel
theorem dX3_costOfSteps_37 : decode cX3_costOfSteps 37 = .ok (.invokestatic 87, 3) := by decide +kernel
theorem dX3_costOfSteps_40 : decode cX3_costOfSteps 40 = .ok (.i2l, 1) := by decide +kernel
theorem dX3_costOfSteps_41 : decode cX3_costOfSteps 41 = .ok (.ladd, 1) := by decide +kernel
theorem dX3_costOfSteps_42 : decode cX3_costOfSteps 42 = .ok (.lstore_n 3, 1) := by decide +kernel
theorem dX3_costOfSteps_43 : decode cX3_costOfSteps 43 = .ok (.iinc 5 1, 3) := by decide +kernel
theorem dX3_costOfSteps_46 : decode cX3_costOfSteps 46 = .ok (.goto (-41), 3) := by decide +kernel
theorem dX3_costOfSteps_49 : decode cX3_costOfSteps 49 = .ok (.lload_n 3, 1) := by decide +kernel
theorem dX3_costOfSteps_50 : decode cX3_costOfSteps 50 = .ok (.lreturn, 1) := by decide +kernel
set_option maxRecDepth 20000 in
theorem ggX3_mixedSettings_X5_mixed : GoodIn wsX3_mixedSettings wsX5_mixed := goodIn_r _ [4, 5] (by decide +kernel) (by decide +kernel)
set_option maxRecDepth 20000 in
theorem gX3_mixedSettings_X5_mixed_n90 : GoodIn wsX3_mixedSettings (wsX5_mixed) := ggX3_mixedSettings_X5_mixed
theorem dX3_mixedSettings_0 : decode cX3_mixedSettings 0 = .ok (.lload_n 1, 1) := by decide +kernel
theorem dX3_mixedSettings_1 : decode cX3_mixedSettings 1 = .ok (.lstore_n 3, 1) := by decide +kernel
theorem dX3_mixedSettings_2 : decode cX3_mixedSettings 2 = .ok (.iconst 0, 1) := by decide +kernel
theorem dX3_mixedSettings_3 : decode cX3_mixedSettings 3 = .ok (.istore 5, 2) := by decide +kernel
theorem dX3_mixedSettings_5 : decode cX3_mixedSettings 5 = .ok (.iload 5, 2) := by decide +kernel
theorem dX3_mixedSettings_7 : decode cX3_mixedSettings 7 = .ok (.bipush 7, 2) := by decide +kernel
theorem dX3_mixedSettings_9 : decode cX3_mixedSettings 9 = .ok (.if_icmp .ge 22, 3) := by decide +kernel
theorem dX3_mixedSettings_12 : decode cX3_mixedSettings 12 = .ok (.lload_n 3, 1) := by decide +kernel
theorem dX3_mixedSettings_13 : decode cX3_mixedSettings 13 = .ok (.aload_n 0, 1) := by decide +kernel
theorem dX3_mixedSettings_14 : decode cX3_mixedSettings 14 = .ok (.getfield 10, 3) := by decide +kernel
theorem dX3_mixedSettings_17 : decode cX3_mixedSettings 17 = .ok (.iload 5, 2) := by decide +kernel
theorem dX3_mixedSettings_19 : decode cX3_mixedSettings 19 = .ok (.iaload, 1) := by decide +kernel
theorem dX3_mixedSettings_20 : decode cX3_mixedSettings 20 = .ok (.i2l, 1) := by decide +kernel
theorem dX3_mixedSettings_21 : decode cX3_mixedSettings 21 = .ok (.invokestatic 90, 3) := by decide +kernel
theorem dX3_mixedSettings_24 : decode cX3_mixedSettings 24 = .ok (.lstore_n 3, 1) := by decide +kernel
theorem dX3_mixedSettings_25 : decode cX3_mixedSettings 25 = .ok (.iinc 5 1, 3) := by decide +kernel
theorem dX3_mixedSettings_28 : decode cX3_mixedSettings 28 = .ok (.goto (-23), 3) := by decide +kernel
theorem dX3_mixedSettings_31 : decode cX3_mixedSettings 31 = .ok (.lload_n 3, 1) := by decide +kernel
theorem dX3_mixedSettings_32 : decode cX3_mixedSettings 32 = .ok (.lreturn, 1) := by decide +kernel
theorem dX4_init_0 : decode cX4_init 0 = .ok (.aload_n 0, 1) := by decide +kernel
theorem dX4_init_1 : decode cX4_init 1 = .ok (.invokespecial 3, 3) := by decide +kernel
theorem dX4_init_4 : decode cX4_init 4 = .ok (.aload_n 0, 1) := by decide +kernel
theorem dX4_init_5 : decode cX4_init 5 = .ok (.bipush 20, 2) := by decide +kernel
theorem dX4_init_7 : decode cX4_init 7 = .ok (.newarray .int, 2) := by decide +kernel
theorem dX4_init_9 : decode cX4_init 9 = .ok (.putfield 9, 3) := by decide +kernel
theorem dX4_init_12 : decode cX4_init 12 = .ok (.aload_n 0, 1) := by decide +kernel
theorem dX4_init_13 : decode cX4_init 13 = .ok (.bipush 20, 2) := by decide +kernel
theorem dX4_init_15 : decode cX4_init 15 = .ok (.newarray .int, 2) := by decide +kernel
theorem dX4_init_17 : decode cX4_init 17 = .ok (.putfield 15, 3) := by decide +kernel
theorem dX4_init_20 : decode cX4_init 20 = .ok (.aload_n 0, 1) := by decide +kernel
theorem dX4_init_21 : decode cX4_init 21 = .ok (.iconst 0, 1) := by decide +kernel
theorem dX4_init_22 : decode cX4_init 22 = .ok (.putfield 18, 3) := by decide +kernel
theorem dX4_init_25 : decode cX4_init 25 = .ok (.return_, 1) := by decide +kernel
theorem dX4_copyFrom_0 : decode cX4_copyFrom 0 = .ok (.aload_n 1, 1) := by decide +kernel
theorem dX4_copyFrom_1 : decode cX4_copyFrom 1 = .ok (.getfield 9, 3) := by decide +kernel
theorem dX4_copyFrom_4 : decode cX4_copyFrom 4 = .ok (.iconst 0, 1) := by decide +kernel
theorem dX4_copyFrom_5 : decode cX4_copyFrom 5 = .ok (.aload_n 0, 1) := by decide +kernel
theorem dX4_copyFrom_6 : decode cX4_copyFrom 6 = .ok (.getfield 9, 3) := by decide +kernel
theorem dX4_copyFrom_9 : decode cX4_copyFrom 9 = .ok (.iconst 0, 1) := by decide +kernel
theorem dX4_copyFrom_10 : decode cX4_copyFrom 10 = .ok (.bipush 20, 2) := by decide +kernel
theorem dX4_copyFrom_12 : decode cX4_copyFrom 12 = .ok (.invokestatic 22, 3) := by decide +kernel
theorem dX4_copyFrom_15 : decode cX4_copyFrom 15 = .ok (.aload_n 1, 1) := by decide +kernel
theorem dX4_copyFrom_16 : decode cX4_copyFrom 16 = .ok (.getfield 15, 3) := by decide +kernel
theorem dX4_copyFrom_19 : decode cX4_copyFrom 19 = .ok (.iconst 0, 1) := by decide +kernel
theorem dX4_copyFrom_20 : decode cX4_copyFrom 20 = .ok (.aload_n 0, 1) := by decide +kernel
theorem dX4_copyFrom_21 : decode cX4_copyFrom 21 = .ok (.getfield 15, 3) := by decide +kernel
theorem dX4_copyFrom_24 : decode cX4_copyFrom 24 = .ok (.iconst 0, 1) := by decide +kernel
theorem dX4_copyFrom_25 : decode cX4_copyFrom 25 = .ok (.bipush 20, 2) := by decide +kernel
theorem dX4_copyFrom_27 : decode cX4_copyFrom 27 = .ok (.invokestatic 22, 3) := by decide +kernel
theorem dX4_copyFrom_30 : decode cX4_copyFrom 30 = .ok (.aload_n 0, 1) := by decide +kernel
theorem dX4_copyFrom_31 : decode cX4_copyFrom 31 = .ok (.aload_n 1, 1) := by decide +kernel
theorem dX4_copyFrom_32 : decode cX4_copyFrom 32 = .ok (.getfield 18, 3) := by decide +kernel
theorem dX4_copyFrom_35 : decode cX4_copyFrom 35 = .ok (.putfield 18, 3) := by decide +kernel
theorem dX4_copyFrom_38 : decode cX4_copyFrom 38 = .ok (.return_, 1) := by decide +kernel
theorem dX4_add_0 : decode cX4_add 0 = .ok (.aload_n 0, 1) := by decide +kernel
theorem dX4_add_1 : decode cX4_add 1 = .ok (.getfield 9, 3) := by decide +kernel
theorem dX4_add_4 : decode cX4_add 4 = .ok (.iconst 0, 1) := by decide +kernel
theorem dX4_add_5 : decode cX4_add 5 = .ok (.aload_n 0, 1) := by decide +kernel
theorem dX4_add_6 : decode cX4_add 6 = .ok (.getfield 9, 3) := by decide +kernel
theorem dX4_add_9 : decode cX4_add 9 = .ok (.iconst 1, 1) := by decide +kernel
theorem dX4_add_10 : decode cX4_add 10 = .ok (.bipush 19, 2) := by decide +kernel
theorem dX4_add_12 : decode cX4_add 12 = .ok (.invokestatic 22, 3) := by decide +kernel
theorem dX4_add_15 : decode cX4_add 15 = .ok (.aload_n 0, 1) := by decide +kernel
theorem dX4_add_16 : decode cX4_add 16 = .ok (.getfield 15, 3) := by decide +kernel
theorem dX4_add_19 : decode cX4_add 19 = .ok (.iconst 0, 1) := by decide +kernel
theorem dX4_add_20 : decode cX4_add 20 = .ok (.aload_n 0, 1) := by decide +kernel
theorem dX4_add_21 : decode cX4_add 21 = .ok (.getfield 15, 3) := by decide +kernel
theorem dX4_add_24 : decode cX4_add 24 = .ok (.iconst 1, 1) := by decide +kernel
theorem dX4_add_25 : decode cX4_add 25 = .ok (.bipush 19, 2) := by decide +kernel
theorem dX4_add_27 : decode cX4_add 27 = .ok (.invokestatic 22, 3) := by decide +kernel
theorem dX4_add_30 : decode cX4_add 30 = .ok (.aload_n 0, 1) := by decide +kernel
theorem dX4_add_31 : decode cX4_add 31 = .ok (.getfield 9, 3) := by decide +kernel
theorem dX4_add_34 : decode cX4_add 34 = .ok (.iconst 0, 1) := by decide +kernel
theorem dX4_add_35 : decode cX4_add 35 = .ok (.iload_n 1, 1) := by decide +kernel
theorem dX4_add_36 : decode cX4_add 36 = .ok (.iastore, 1) := by decide +kernel
theorem dX4_add_37 : decode cX4_add 37 = .ok (.aload_n 0, 1) := by decide +kernel
theorem dX4_add_38 : decode cX4_add 38 = .ok (.getfield 15, 3) := by decide +kernel
theorem dX4_add_41 : decode cX4_add 41 = .ok (.iconst 0, 1) := by decide +kernel
theorem dX4_add_42 : decode cX4_add 42 = .ok (.iload_n 2, 1) := by decide +kernel
theorem dX4_add_43 : decode cX4_add 43 = .ok (.iastore, 1) := by decide +kernel
theorem dX4_add_44 : decode cX4_add 44 = .ok (.aload_n 0, 1) := by decide +kernel
theorem dX4_add_45 : decode cX4_add 45 = .ok (.aload_n 0, 1) := by decide +kernel
theorem dX4_add_46 : decode cX4_add 46 = .ok (.getfield 18, 3) := by decide +kernel
theorem dX4_add_49 : decode cX4_add 49 = .ok (.iconst 1, 1) := by decide +kernel
theorem dX4_add_50 : decode cX4_add 50 = .ok (.iadd, 1) := by decide +kernel
theorem dX4_add_51 : decode cX4_add 51 = .ok (.bipush 20, 2) := by decide +kernel
theorem dX4_add_53 : decode cX4_add 53 = .ok (.invokestatic 28, 3) := by decide +kernel
theorem dX4_add_56 : decode cX4_add 56 = .ok (.putfield 18, 3) := by decide +kernel
theorem dX4_add_59 : decode cX4_add 59 = .ok (.return_, 1) := by decide +kernel
theorem dX4_size_0 : decode cX4_size 0 = .ok (.aload_n 0, 1) := by decide +kernel
theorem dX4_size_1 : decode cX4_size 1 = .ok (.getfield 18, 3) := by decide +kernel
theorem dX4_size_4 : decode cX4_size 4 = .ok (.iload_n 1, 1) := by decide +kernel
theorem dX4_size_5 : decode cX4_size 5 = .ok (.invokestatic 28, 3) := by decide +kernel
theorem dX4_size_8 : decode cX4_size 8 = .ok (.ireturn, 1) := by decide +kernel
set_option maxRecDepth 20000 in
theorem ggX4_excitation_X4_size : GoodIn wsX4_excitation wsX4_size := goodIn_r _ [7, 8, 9, 10, 11, 12, 13, 14, 15] (by decide +kernel) (by decide +kernel)
set_option maxRecDepth 20000 in
theorem gX4_excitation_X4_size : GoodIn wsX4_excitation (wsV RX4 34 RX4 yX4_size wsX4_size) := goodIn_app (goodIn_of _ (by decide +kernel)) ggX4_excitation_X4_size
theorem dX4_excitation_0 : decode cX4_excitation 0 = .ok (.lconst 0, 1) := by decide +kernel
theorem dX4_excitation_1 : decode cX4_excitation 1 = .ok (.lstore_n 2, 1) := by decide +kernel
theorem dX4_excitation_2 : decode cX4_excitation 2 = .ok (.lconst 0, 1) := by decide +kernel
theorem dX4_excitation_3 : decode cX4_excitation 3 = .ok (.lstore 4, 2) := by decide +kernel
theorem dX4_excitation_5 : decode cX4_excitation 5 = .ok (.lconst 0, 1) := by decide +kernel
theorem dX4_excitation_6 : decode cX4_excitation 6 = .ok (.lstore 6, 2) := by decide +kernel
theorem dX4_excitation_8 : decode cX4_excitation 8 = .ok (.aload_n 0, 1) := by decide +kernel
theorem dX4_excitation_9 : decode cX4_excitation 9 = .ok (.iload_n 1, 1) := by decide +kernel
theorem dX4_excitation_10 : decode cX4_excitation 10 = .ok (.invokevirtual 34, 3) := by decide +kernel
theorem dX4_excitation_13 : decode cX4_excitation 13 = .ok (.istore 8, 2) := by decide +kernel
theorem dX4_excitation_15 : decode cX4_excitation 15 = .ok (.iconst 0, 1) := by decide +kernel
theorem dX4_excitation_16 : decode cX4_excitation 16 = .ok (.istore 9, 2) := by decide +kernel
theorem dX4_excitation_18 : decode cX4_excitation 18 = .ok (.iload 9, 2) := by decide +kernel
theorem dX4_excitation_20 : decode cX4_excitation 20 = .ok (.iload 8, 2) := by decide +kernel
theorem dX4_excitation_22 : decode cX4_excitation 22 = .ok (.if_icmp .ge 57, 3) := by decide +kernel
theorem dX4_excitation_25 : decode cX4_excitation 25 = .ok (.aload_n 0, 1) := by decide +kernel
theorem dX4_excitation_26 : decode cX4_excitation 26 = .ok (.getfield 9, 3) := by decide +kernel
theorem dX4_excitation_29 : decode cX4_excitation 29 = .ok (.iload 9, 2) := by decide +kernel
theorem dX4_excitation_31 : decode cX4_excitation 31 = .ok (.iaload, 1) := by decide +kernel
theorem dX4_excitation_32 : decode cX4_excitation 32 = .ok (.i2l, 1) := by decide +kernel
theorem dX4_excitation_33 : decode cX4_excitation 33 = .ok (.lstore 10, 2) := by decide +kernel
theorem dX4_excitation_35 : decode cX4_excitation 35 = .ok (.aload_n 0, 1) := by decide +kernel
theorem dX4_excitation_36 : decode cX4_excitation 36 = .ok (.getfield 15, 3) := by decide +kernel
theorem dX4_excitation_39 : decode cX4_excitation 39 = .ok (.iload 9, 2) := by decide +kernel
theorem dX4_excitation_41 : decode cX4_excitation 41 = .ok (.iaload, 1) := by decide +kernel
theorem dX4_excitation_42 : decode cX4_excitation 42 = .ok (.i2l, 1) := by decide +kernel
theorem dX4_excitation_43 : decode cX4_excitation 43 = .ok (.lstore 12, 2) := by decide +kernel
theorem dX4_excitation_45 : decode cX4_excitation 45 = .ok (.lload_n 2, 1) := by decide +kernel
theorem dX4_excitation_46 : decode cX4_excitation 46 = .ok (.lload 10, 2) := by decide +kernel
theorem dX4_excitation_48 : decode cX4_excitation 48 = .ok (.lload 10, 2) := by decide +kernel
theorem dX4_excitation_50 : decode cX4_excitation 50 = .ok (.lmul, 1) := by decide +kernel
theorem dX4_excitation_51 : decode cX4_excitation 51 = .ok (.ladd, 1) := by decide +kernel
theorem dX4_excitation_52 : decode cX4_excitation 52 = .ok (.lstore_n 2, 1) := by decide +kernel
theorem dX4_excitation_53 : decode cX4_excitation 53 = .ok (.lload 4, 2) := by decide +kernel
theorem dX4_excitation_55 : decode cX4_excitation 55 = .ok (.lload 12, 2) := by decide +kernel
theorem dX4_excitation_57 : decode cX4_excitation 57 = .ok (.lload 12, 2) := by decide +kernel
theorem dX4_excitation_59 : decode cX4_excitation 59 = .ok (.lmul, 1) := by decide +kernel
theorem dX4_excitation_60 : decode cX4_excitation 60 = .ok (.ladd, 1) := by decide +kernel
theorem dX4_excitation_61 : decode cX4_excitation 61 = .ok (.lstore 4, 2) := by decide +kernel
theorem dX4_excitation_63 : decode cX4_excitation 63 = .ok (.lload 6, 2) := by decide +kernel
theorem dX4_excitation_65 : decode cX4_excitation 65 = .ok (.lload 10, 2) := by decide +kernel
theorem dX4_excitation_67 : decode cX4_excitation 67 = .ok (.lload 12, 2) := by decide +kernel
theorem dX4_excitation_69 : decode cX4_excitation 69 = .ok (.lmul, 1) := by decide +kernel
theorem dX4_excitation_70 : decode cX4_excitation 70 = .ok (.ladd, 1) := by decide +kernel
theorem dX4_excitation_71 : decode cX4_excitation 71 = .ok (.lstore 6, 2) := by decide +kernel
theorem dX4_excitation_73 : decode cX4_excitation 73 = .ok (.iinc 9 1, 3) := by decide +kernel
theorem dX4_excitation_76 : decode cX4_excitation 76 = .ok (.goto (-58), 3) := by decide +kernel
theorem dX4_excitation_79 : decode cX4_excitation 79 = .ok (.lload_n 2, 1) := by decide +kernel
theorem dX4_excitation_80 : decode cX4_excitation 80 = .ok (.lload 4, 2) := by decide +kernel
theorem dX4_excitation_82 : decode cX4_excitation 82 = .ok (.lmul, 1) := by decide +kernel
theorem dX4_excitation_83 : decode cX4_excitation 83 = .ok (.lload 6, 2) := by decide +kernel
theorem dX4_excitation_85 : decode cX4_excitation 85 = .ok (.lload 6, 2) := by decide +kernel
theorem dX4_excitation_87 : decode cX4_excitation 87 = .ok (.lmul, 1) := by decide +kernel
theorem dX4_excitation_88 : decode cX4_excitation 88 = .ok (.lsub, 1) := by decide +kernel
theorem dX4_excitation_89 : decode cX4_excitation 89 = .ok (.lreturn, 1) := by decide +kernel
set_option maxRecDepth 20000 in
theorem ggX5_init_X3_init : GoodIn wsX5_init wsX3_init := goodIn_r _ [16, 17, 2, 3, 18, 19, 20, 21, 22, 23, 24, 25, 26, 27, 28, 29, 30, 31, 32, 33, 34, 35, 36, 37, 38, 39, 40, 41, 42, 43, 44, 45, 46, 47, 48, 49, 50, 51, 52, 53, 54, 55, 56, 57, 58, 59, 60, 61, 62, 63, 64, 65, 66, 67, 68, 69, 70, 71, 72, 73, 74, 75, 85, 86, 87, 98, 99, 100, 101, 102, 103, 104, 105, 106, 107, 108, 109, 110, 111, 112] (by decide +kernel) (by decide +kernel)
set_option maxRecDepth 20000 in
theorem gX5_init_X3_init_n11 : GoodIn wsX5_init (wsX3_init) := ggX5_init_X3_init
set_option maxRecDepth 20000 in
theorem ggX5_init_X2_init : GoodIn wsX5_init wsX2_init := goodIn_r _ [77, 78, 2, 3, 79, 80, 81, 18, 82, 83, 84, 93, 94, 95, 96, 97] (by decide +kernel) (by decide +kernel)
set_option maxRecDepth 20000 in
theorem gX5_init_X2_init_n29 : GoodIn wsX5_init (wsX2_init) := ggX5_init_X2_init
theorem dX5_init_0 : decode cX5_init 0 = .ok (.aload_n 0, 1) := by decide +kernel
theorem dX5_init_1 : decode cX5_init 1 = .ok (.invokespecial 3, 3) := by decide +kernel
theorem dX5_init_4 : decode cX5_init 4 = .ok (.aload_n 0, 1) := by decide +kernel
theorem dX5_init_5 : decode cX5_init 5 = .ok (.new 9, 3) := by decide +kernel
theorem dX5_init_8 : decode cX5_init 8 = .ok (.dup, 1) := by decide +kernel
theorem dX5_init_9 : decode cX5_init 9 = .ok (.invokespecial 11, 3) := by decide +kernel
theorem dX5_init_12 : decode cX5_init 12 = .ok (.putfield 12, 3) := by decide +kernel
theorem dX5_init_15 : decode cX5_init 15 = .ok (.aload_n 0, 1) := by decide +kernel
theorem dX5_init_16 : decode cX5_init 16 = .ok (.new 9, 3) := by decide +kernel
theorem dX5_init_19 : decode cX5_init 19 = .ok (.dup, 1) := by decide +kernel
theorem dX5_init_20 : decode cX5_init 20 = .ok (.invokespecial 11, 3) := by decide +kernel
theorem dX5_init_23 : decode cX5_init 23 = .ok (.putfield 16, 3) := by decide +kernel
theorem dX5_init_26 : decode cX5_init 26 = .ok (.aload_n 0, 1) := by decide +kernel
theorem dX5_init_27 : decode cX5_init 27 = .ok (.iconst 4, 1) := by decide +kernel
theorem dX5_init_28 : decode cX5_init 28 = .ok (.anewarray 9, 3) := by decide +kernel
theorem dX5_init_31 : decode cX5_init 31 = .ok (.putfield 19, 3) := by decide +kernel
theorem dX5_init_34 : decode cX5_init 34 = .ok (.aload_n 0, 1) := by decide +kernel
theorem dX5_init_35 : decode cX5_init 35 = .ok (.iconst 0, 1) := by decide +kernel
theorem dX5_init_36 : decode cX5_init 36 = .ok (.putfield 23, 3) := by decide +kernel
theorem dX5_init_39 : decode cX5_init 39 = .ok (.aload_n 0, 1) := by decide +kernel
theorem dX5_init_40 : decode cX5_init 40 = .ok (.new 27, 3) := by decide +kernel
theorem dX5_init_43 : decode cX5_init 43 = .ok (.dup, 1) := by decide +kernel
theorem dX5_init_44 : decode cX5_init 44 = .ok (.invokespecial 29, 3) := by decide +kernel
theorem dX5_init_47 : decode cX5_init 47 = .ok (.putfield 30, 3) := by decide +kernel
theorem dX5_init_50 : decode cX5_init 50 = .ok (.iconst 0, 1) := by decide +kernel
theorem dX5_init_51 : decode cX5_init 51 = .ok (.istore_n 1, 1) := by decide +kernel
theorem dX5_init_52 : decode cX5_init 52 = .ok (.iload_n 1, 1) := by decide +kernel
theorem dX5_init_53 : decode cX5_init 53 = .ok (.iconst 4, 1) := by decide +kernel
theorem dX5_init_54 : decode cX5_init 54 = .ok (.if_icmp .ge 22, 3) := by decide +kernel
theorem dX5_init_57 : decode cX5_init 57 = .ok (.aload_n 0, 1) := by decide +kernel
theorem dX5_init_58 : decode cX5_init 58 = .ok (.getfield 19, 3) := by decide +kernel
theorem dX5_init_61 : decode cX5_init 61 = .ok (.iload_n 1, 1) := by decide +kernel
theorem dX5_init_62 : decode cX5_init 62 = .ok (.new 9, 3) := by decide +kernel
theorem dX5_init_65 : decode cX5_init 65 = .ok (.dup, 1) := by decide +kernel
theorem dX5_init_66 : decode cX5_init 66 = .ok (.invokespecial 11, 3) := by decide +kernel
theorem dX5_init_69 : decode cX5_init 69 = .ok (.aastore, 1) := by decide +kernel
theorem dX5_init_70 : decode cX5_init 70 = .ok (.iinc 1 1, 3) := by decide +kernel
theorem dX5_init_73 : decode cX5_init 73 = .ok (.goto (-21), 3) := by decide +kernel
theorem dX5_init_76 : decode cX5_init 76 = .ok (.return_, 1) := by decide +kernel
set_option maxRecDepth 20000 in
theorem ggX5_set_X5_demandRange : GoodIn wsX5_set wsX5_demandRange := goodIn_ca (goodIn_r _ [7, 8, 9, 10, 11, 6, 12] (by decide +kernel) (by decide +kernel)) (goodIn_sub (fun _ h => List.mem_cons_of_mem _ (List.mem_append_right _ h)) (by decide +kernel))
set_option maxRecDepth 20000 in
theorem gX5_set_X5_demandRange : GoodIn wsX5_set (va_wsS RX5 34 yX5_demandRange wsX5_demandRange) := goodIn_app (goodIn_of _ (by decide +kernel)) ggX5_set_X5_demandRange
set_option maxRecDepth 20000 in
theorem ggX5_set_X5_saveState : GoodIn wsX5_set wsX5_saveState := goodIn_r _ [16, 17, 18, 3, 19, 20, 21, 6, 22, 23, 24, 25, 26, 27, 28, 29, 30, 31, 32, 33, 34, 35, 36, 37, 38, 39, 40, 41, 42, 43, 44, 45, 46, 47, 48, 49, 50, 51, 52, 53, 54, 55, 56, 57, 58, 59, 60, 61, 62, 63, 64, 65, 66, 67, 68, 69, 70, 71, 72, 73, 74, 75, 76, 77, 78, 79, 80, 81, 82, 83, 84] (by decide +kernel) (by decide +kernel)
set_option maxRecDepth 20000 in
theorem gX5_set_X5_saveState : GoodIn wsX5_set (wsV RX5 45 RX5 yX5_saveState wsX5_saveState) := goodIn_app (goodIn_of _ (by decide +kernel)) ggX5_set_X5_saveState
theorem dX5_set_0 : decode cX5_set 0 = .ok (.iload_n 1, 1) := by decide +kernel
theorem dX5_set_1 : decode cX5_set 1 = .ok (.iconst 0, 1) := by decide +kernel
theorem dX5_set_2 : decode cX5_set 2 = .ok (.bipush 6, 2) := by decide +kernel
theorem dX5_set_4 : decode cX5_set 4 = .ok (.invokestatic 34, 3) := by decide +kernel
theorem dX5_set_7 : decode cX5_set 7 = .ok (.iload_n 2, 1) := by decide +kernel
theorem dX5_set_8 : decode cX5_set 8 = .ok (.getstatic 38, 3) := by decide +kernel
theorem dX5_set_11 : decode cX5_set 11 = .ok (.iload_n 1, 1) := by decide +kernel
theorem dX5_set_12 : decode cX5_set 12 = .ok (.iaload, 1) := by decide +kernel
theorem dX5_set_13 : decode cX5_set 13 = .ok (.getstatic 42, 3) := by decide +kernel
theorem dX5_set_16 : decode cX5_set 16 = .ok (.iload_n 1, 1) := by decide +kernel
theorem dX5_set_17 : decode cX5_set 17 = .ok (.iaload, 1) := by decide +kernel
theorem dX5_set_18 : decode cX5_set 18 = .ok (.invokestatic 34, 3) := by decide +kernel
theorem dX5_set_21 : decode cX5_set 21 = .ok (.aload_n 0, 1) := by decide +kernel
theorem dX5_set_22 : decode cX5_set 22 = .ok (.invokevirtual 45, 3) := by decide +kernel
theorem dX5_set_25 : decode cX5_set 25 = .ok (.aload_n 0, 1) := by decide +kernel
theorem dX5_set_26 : decode cX5_set 26 = .ok (.getfield 12, 3) := by decide +kernel
theorem dX5_set_29 : decode cX5_set 29 = .ok (.getfield 48, 3) := by decide +kernel
theorem dX5_set_32 : decode cX5_set 32 = .ok (.iload_n 1, 1) := by decide +kernel
theorem dX5_set_33 : decode cX5_set 33 = .ok (.iaload, 1) := by decide +kernel
theorem dX5_set_34 : decode cX5_set 34 = .ok (.istore_n 3, 1) := by decide +kernel
theorem dX5_set_35 : decode cX5_set 35 = .ok (.aload_n 0, 1) := by decide +kernel
theorem dX5_set_36 : decode cX5_set 36 = .ok (.getfield 12, 3) := by decide +kernel
theorem dX5_set_39 : decode cX5_set 39 = .ok (.getfield 48, 3) := by decide +kernel
theorem dX5_set_42 : decode cX5_set 42 = .ok (.iload_n 1, 1) := by decide +kernel
theorem dX5_set_43 : decode cX5_set 43 = .ok (.iload_n 2, 1) := by decide +kernel
theorem dX5_set_44 : decode cX5_set 44 = .ok (.iastore, 1) := by decide +kernel
theorem dX5_set_45 : decode cX5_set 45 = .ok (.iload_n 3, 1) := by decide +kernel
theorem dX5_set_46 : decode cX5_set 46 = .ok (.ireturn, 1) := by decide +kernel
set_option maxRecDepth 20000 in
theorem ggX5_value_X5_demandRange : GoodIn wsX5_value wsX5_demandRange := goodIn_ca (goodIn_r _ [5, 6, 7, 8, 9, 4, 10] (by decide +kernel) (by decide +kernel)) (goodIn_sub (fun _ h => List.mem_cons_of_mem _ (List.mem_append_right _ h)) (by decide +kernel))
set_option maxRecDepth 20000 in
theorem gX5_value_X5_demandRange : GoodIn wsX5_value (va_wsS RX5 34 yX5_demandRange wsX5_demandRange) := goodIn_app (goodIn_of _ (by decide +kernel)) ggX5_value_X5_demandRange
theorem dX5_value_0 : decode cX5_value 0 = .ok (.iload_n 1, 1) := by decide +kernel
theorem dX5_value_1 : decode cX5_value 1 = .ok (.iconst 0, 1) := by decide +kernel
theorem dX5_value_2 : decode cX5_value 2 = .ok (.bipush 6, 2) := by decide +kernel
theorem dX5_value_4 : decode cX5_value 4 = .ok (.invokestatic 34, 3) := by decide +kernel
theorem dX5_value_7 : decode cX5_value 7 = .ok (.aload_n 0, 1) := by decide +kernel
theorem dX5_value_8 : decode cX5_value 8 = .ok (.getfield 12, 3) := by decide +kernel
theorem dX5_value_11 : decode cX5_value 11 = .ok (.getfield 48, 3) := by decide +kernel
theorem dX5_value_14 : decode cX5_value 14 = .ok (.iload_n 1, 1) := by decide +kernel
theorem dX5_value_15 : decode cX5_value 15 = .ok (.iaload, 1) := by decide +kernel
theorem dX5_value_16 : decode cX5_value 16 = .ok (.ireturn, 1) := by decide +kernel
set_option maxRecDepth 20000 in
theorem ggX5_setBox_X5_demandParameter : GoodIn wsX5_setBox wsX5_demandParameter := goodIn_ca (goodIn_r _ [7, 8, 9] (by decide +kernel) (by decide +kernel)) (goodIn_sub (fun _ h => List.mem_cons_of_mem _ (List.mem_append_left _ (List.mem_append_right _ h))) (by decide +kernel))
set_option maxRecDepth 20000 in
theorem gX5_setBox_X5_demandParameter : GoodIn wsX5_setBox (va_wsS RX5 51 yX5_demandParameter wsX5_demandParameter) := goodIn_app (goodIn_of _ (by decide +kernel)) ggX5_setBox_X5_demandParameter
set_option maxRecDepth 20000 in
theorem ggX5_setBox_X5_demandRange : GoodIn wsX5_setBox wsX5_demandRange := goodIn_ca (goodIn_r _ [12, 13, 14, 15, 16, 6, 17] (by decide +kernel) (by decide +kernel)) (goodIn_sub (fun _ h => List.mem_cons_of_mem _ (List.mem_append_right _ h)) (by decide +kernel))
set_option maxRecDepth 20000 in
theorem gX5_setBox_X5_demandRange : GoodIn wsX5_setBox (va_wsS RX5 34 yX5_demandRange wsX5_demandRange) := goodIn_app (goodIn_of _ (by decide +kernel)) ggX5_setBox_X5_demandRange
set_option maxRecDepth 20000 in
theorem ggX5_setBox_X5_saveState : GoodIn wsX5_setBox wsX5_saveState := goodIn_r _ [21, 22, 23, 3, 24, 25, 26, 6, 27, 28, 29, 30, 31, 32, 33, 34, 35, 36, 37, 38, 39, 40, 41, 42, 43, 44, 45, 46, 47, 48, 49, 50, 51, 52, 53, 54, 55, 56, 57, 58, 59, 60, 61, 62, 63, 64, 65, 66, 72, 73, 74, 75, 76, 77, 78, 79, 80, 81, 82, 83, 84, 85, 86, 87, 88, 89, 90, 91, 92, 93, 94] (by decide +kernel) (by decide +kernel)
set_option maxRecDepth 20000 in
theorem gX5_setBox_X5_saveState : GoodIn wsX5_setBox (wsV RX5 45 RX5 yX5_saveState wsX5_saveState) := goodIn_app (goodIn_of _ (by decide +kernel)) ggX5_setBox_X5_saveState
set_option maxRecDepth 20000 in
theorem ggX5_setBox_X0_bringIntoBox : GoodIn wsX5_setBox wsX0_bringIntoBox := goodIn_r _ [69, 43, 45, 46, 70, 6, 71, 80, 81, 82, 83, 84, 85, 86, 87] (by decide +kernel) (by decide +kernel)
set_option maxRecDepth 20000 in
theorem gX5_setBox_X0_bringIntoBox_n72 : GoodIn wsX5_setBox (wsX0_bringIntoBox) := ggX5_setBox_X0_bringIntoBox
theorem dX5_setBox_0 : decode cX5_setBox 0 = .ok (.iload_n 1, 1) := by decide +kernel
theorem dX5_setBox_1 : decode cX5_setBox 1 = .ok (.invokestatic 51, 3) := by decide +kernel
theorem dX5_setBox_4 : decode cX5_setBox 4 = .ok (.iload_n 2, 1) := by decide +kernel
theorem dX5_setBox_5 : decode cX5_setBox 5 = .ok (.ldc 55, 2) := by decide +kernel
theorem dX5_setBox_7 : decode cX5_setBox 7 = .ok (.ldc 56, 2) := by decide +kernel
theorem dX5_setBox_9 : decode cX5_setBox 9 = .ok (.invokestatic 34, 3) := by decide +kernel
theorem dX5_setBox_12 : decode cX5_setBox 12 = .ok (.iload_n 3, 1) := by decide +kernel
theorem dX5_setBox_13 : decode cX5_setBox 13 = .ok (.iload_n 2, 1) := by decide +kernel
theorem dX5_setBox_14 : decode cX5_setBox 14 = .ok (.ldc 56, 2) := by decide +kernel
theorem dX5_setBox_16 : decode cX5_setBox 16 = .ok (.invokestatic 34, 3) := by decide +kernel
theorem dX5_setBox_19 : decode cX5_setBox 19 = .ok (.aload_n 0, 1) := by decide +kernel
theorem dX5_setBox_20 : decode cX5_setBox 20 = .ok (.invokevirtual 45, 3) := by decide +kernel
theorem dX5_setBox_23 : decode cX5_setBox 23 = .ok (.aload_n 0, 1) := by decide +kernel
theorem dX5_setBox_24 : decode cX5_setBox 24 = .ok (.getfield 12, 3) := by decide +kernel
theorem dX5_setBox_27 : decode cX5_setBox 27 = .ok (.getfield 57, 3) := by decide +kernel
theorem dX5_setBox_30 : decode cX5_setBox 30 = .ok (.getfield 61, 3) := by decide +kernel
theorem dX5_setBox_33 : decode cX5_setBox 33 = .ok (.iload_n 1, 1) := by decide +kernel
theorem dX5_setBox_34 : decode cX5_setBox 34 = .ok (.iload_n 2, 1) := by decide +kernel
theorem dX5_setBox_35 : decode cX5_setBox 35 = .ok (.iastore, 1) := by decide +kernel
theorem dX5_setBox_36 : decode cX5_setBox 36 = .ok (.aload_n 0, 1) := by decide +kernel
theorem dX5_setBox_37 : decode cX5_setBox 37 = .ok (.getfield 12, 3) := by decide +kernel
theorem dX5_setBox_40 : decode cX5_setBox 40 = .ok (.getfield 57, 3) := by decide +kernel
theorem dX5_setBox_43 : decode cX5_setBox 43 = .ok (.getfield 66, 3) := by decide +kernel
theorem dX5_setBox_46 : decode cX5_setBox 46 = .ok (.iload_n 1, 1) := by decide +kernel
theorem dX5_setBox_47 : decode cX5_setBox 47 = .ok (.iload_n 3, 1) := by decide +kernel
theorem dX5_setBox_48 : decode cX5_setBox 48 = .ok (.iastore, 1) := by decide +kernel
theorem dX5_setBox_49 : decode cX5_setBox 49 = .ok (.aload_n 0, 1) := by decide +kernel
theorem dX5_setBox_50 : decode cX5_setBox 50 = .ok (.getfield 12, 3) := by decide +kernel
theorem dX5_setBox_53 : decode cX5_setBox 53 = .ok (.getfield 57, 3) := by decide +kernel
theorem dX5_setBox_56 : decode cX5_setBox 56 = .ok (.iload_n 1, 1) := by decide +kernel
theorem dX5_setBox_57 : decode cX5_setBox 57 = .ok (.aload_n 0, 1) := by decide +kernel
theorem dX5_setBox_58 : decode cX5_setBox 58 = .ok (.getfield 12, 3) := by decide +kernel
theorem dX5_setBox_61 : decode cX5_setBox 61 = .ok (.getfield 57, 3) := by decide +kernel
theorem dX5_setBox_64 : decode cX5_setBox 64 = .ok (.getfield 69, 3) := by decide +kernel
theorem dX5_setBox_67 : decode cX5_setBox 67 = .ok (.iload_n 1, 1) := by decide +kernel
theorem dX5_setBox_68 : decode cX5_setBox 68 = .ok (.iaload, 1) := by decide +kernel
theorem dX5_setBox_69 : decode cX5_setBox 69 = .ok (.i2l, 1) := by decide +kernel
theorem dX5_setBox_70 : decode cX5_setBox 70 = .ok (.invokevirtual 72, 3) := by decide +kernel
theorem dX5_setBox_73 : decode cX5_setBox 73 = .ok (.ifCond .eq 7, 3) := by decide +kernel
theorem dX5_setBox_76 : decode cX5_setBox 76 = .ok (.iconst 1, 1) := by decide +kernel
theorem dX5_setBox_77 : decode cX5_setBox 77 = .ok (.goto 4, 3) := by decide +kernel
theorem dX5_setBox_80 : decode cX5_setBox 80 = .ok (.iconst 0, 1) := by decide +kernel
theorem dX5_setBox_81 : decode cX5_setBox 81 = .ok (.ireturn, 1) := by decide +kernel
set_option maxRecDepth 20000 in
theorem ggX5_box_X5_demandParameter : GoodIn wsX5_box wsX5_demandParameter := goodIn_ca (goodIn_r _ [5, 6, 7] (by decide +kernel) (by decide +kernel)) (goodIn_sub (fun _ h => List.mem_cons_of_mem _ (List.mem_append_right _ h)) (by decide +kernel))
set_option maxRecDepth 20000 in
theorem gX5_box_X5_demandParameter : GoodIn wsX5_box (va_wsS RX5 51 yX5_demandParameter wsX5_demandParameter) := goodIn_app (goodIn_of _ (by decide +kernel)) ggX5_box_X5_demandParameter
theorem dX5_box_0 : decode cX5_box 0 = .ok (.iload_n 1, 1) := by decide +kernel
theorem dX5_box_1 : decode cX5_box 1 = .ok (.invokestatic 51, 3) := by decide +kernel
theorem dX5_box_4 : decode cX5_box 4 = .ok (.iload_n 2, 1) := by decide +kernel
theorem dX5_box_5 : decode cX5_box 5 = .ok (.ifCond .eq 18, 3) := by decide +kernel
theorem dX5_box_8 : decode cX5_box 8 = .ok (.aload_n 0, 1) := by decide +kernel
theorem dX5_box_9 : decode cX5_box 9 = .ok (.getfield 12, 3) := by decide +kernel
theorem dX5_box_12 : decode cX5_box 12 = .ok (.getfield 57, 3) := by decide +kernel
theorem dX5_box_15 : decode cX5_box 15 = .ok (.getfield 66, 3) := by decide +kernel
theorem dX5_box_18 : decode cX5_box 18 = .ok (.iload_n 1, 1) := by decide +kernel
theorem dX5_box_19 : decode cX5_box 19 = .ok (.iaload, 1) := by decide +kernel
theorem dX5_box_20 : decode cX5_box 20 = .ok (.goto 15, 3) := by decide +kernel
theorem dX5_box_23 : decode cX5_box 23 = .ok (.aload_n 0, 1) := by decide +kernel
theorem dX5_box_24 : decode cX5_box 24 = .ok (.getfield 12, 3) := by decide +kernel
theorem dX5_box_27 : decode cX5_box 27 = .ok (.getfield 57, 3) := by decide +kernel
theorem dX5_box_30 : decode cX5_box 30 = .ok (.getfield 61, 3) := by decide +kernel
theorem dX5_box_33 : decode cX5_box 33 = .ok (.iload_n 1, 1) := by decide +kernel
theorem dX5_box_34 : decode cX5_box 34 = .ok (.iaload, 1) := by decide +kernel
theorem dX5_box_35 : decode cX5_box 35 = .ok (.ireturn, 1) := by decide +kernel
set_option maxRecDepth 20000 in
theorem ggX5_setPlant_X5_demandRange : GoodIn wsX5_setPlant wsX5_demandRange := goodIn_ca (goodIn_r _ [5, 6, 7, 8, 9, 4, 10] (by decide +kernel) (by decide +kernel)) (goodIn_sub (fun _ h => List.mem_cons_of_mem _ (List.mem_append_right _ h)) (by decide +kernel))
set_option maxRecDepth 20000 in
theorem gX5_setPlant_X5_demandRange : GoodIn wsX5_setPlant (va_wsS RX5 34 yX5_demandRange wsX5_demandRange) := goodIn_app (goodIn_of _ (by decide +kernel)) ggX5_setPlant_X5_demandRange
set_option maxRecDepth 20000 in
theorem ggX5_setPlant_X5_saveState : GoodIn wsX5_setPlant wsX5_saveState := goodIn_r _ [14, 15, 16, 1, 17, 18, 19, 4, 20, 21, 22, 23, 24, 25, 26, 27, 28, 29, 30, 31, 32, 33, 34, 35, 36, 37, 38, 39, 40, 41, 42, 43, 44, 45, 46, 47, 48, 49, 50, 51, 52, 53, 54, 55, 56, 57, 58, 59, 60, 61, 62, 63, 64, 65, 66, 67, 72, 73, 74, 75, 76, 77, 78, 79, 80, 81, 82, 68, 69, 70, 71] (by decide +kernel) (by decide +kernel)
set_option maxRecDepth 20000 in
theorem gX5_setPlant_X5_saveState : GoodIn wsX5_setPlant (wsV RX5 45 RX5 yX5_saveState wsX5_saveState) := goodIn_app (goodIn_of _ (by decide +kernel)) ggX5_setPlant_X5_saveState
theorem dX5_setPlant_0 : decode cX5_setPlant 0 = .ok (.iload_n 1, 1) := by decide +kernel
theorem dX5_setPlant_1 : decode cX5_setPlant 1 = .ok (.sipush (-3000), 3) := by decide +kernel
theorem dX5_setPlant_4 : decode cX5_setPlant 4 = .ok (.sipush 3000, 3) := by decide +kernel
theorem dX5_setPlant_7 : decode cX5_setPlant 7 = .ok (.invokestatic 34, 3) := by decide +kernel
theorem dX5_setPlant_10 : decode cX5_setPlant 10 = .ok (.iload_n 2, 1) := by decide +kernel
theorem dX5_setPlant_11 : decode cX5_setPlant 11 = .ok (.sipush (-3000), 3) := by decide +kernel
theorem dX5_setPlant_14 : decode cX5_setPlant 14 = .ok (.sipush 3000, 3) := by decide +kernel
theorem dX5_setPlant_17 : decode cX5_setPlant 17 = .ok (.invokestatic 34, 3) := by decide +kernel
theorem dX5_setPlant_20 : decode cX5_setPlant 20 = .ok (.iload_n 3, 1) := by decide +kernel
theorem dX5_setPlant_21 : decode cX5_setPlant 21 = .ok (.sipush (-3000), 3) := by decide +kernel
theorem dX5_setPlant_24 : decode cX5_setPlant 24 = .ok (.sipush 3000, 3) := by decide +kernel
theorem dX5_setPlant_27 : decode cX5_setPlant 27 = .ok (.invokestatic 34, 3) := by decide +kernel
theorem dX5_setPlant_30 : decode cX5_setPlant 30 = .ok (.iload 4, 2) := by decide +kernel
theorem dX5_setPlant_32 : decode cX5_setPlant 32 = .ok (.iconst 0, 1) := by decide +kernel
theorem dX5_setPlant_33 : decode cX5_setPlant 33 = .ok (.sipush 200, 3) := by decide +kernel
theorem dX5_setPlant_36 : decode cX5_setPlant 36 = .ok (.invokestatic 34, 3) := by decide +kernel
theorem dX5_setPlant_39 : decode cX5_setPlant 39 = .ok (.aload_n 0, 1) := by decide +kernel
theorem dX5_setPlant_40 : decode cX5_setPlant 40 = .ok (.invokevirtual 45, 3) := by decide +kernel
theorem dX5_setPlant_43 : decode cX5_setPlant 43 = .ok (.aload_n 0, 1) := by decide +kernel
theorem dX5_setPlant_44 : decode cX5_setPlant 44 = .ok (.getfield 12, 3) := by decide +kernel
theorem dX5_setPlant_47 : decode cX5_setPlant 47 = .ok (.getfield 76, 3) := by decide +kernel
theorem dX5_setPlant_50 : decode cX5_setPlant 50 = .ok (.astore 5, 2) := by decide +kernel
theorem dX5_setPlant_52 : decode cX5_setPlant 52 = .ok (.aload 5, 2) := by decide +kernel
theorem dX5_setPlant_54 : decode cX5_setPlant 54 = .ok (.getfield 80, 3) := by decide +kernel
theorem dX5_setPlant_57 : decode cX5_setPlant 57 = .ok (.iconst 0, 1) := by decide +kernel
theorem dX5_setPlant_58 : decode cX5_setPlant 58 = .ok (.iload_n 1, 1) := by decide +kernel
theorem dX5_setPlant_59 : decode cX5_setPlant 59 = .ok (.iastore, 1) := by decide +kernel
theorem dX5_setPlant_60 : decode cX5_setPlant 60 = .ok (.aload 5, 2) := by decide +kernel
theorem dX5_setPlant_62 : decode cX5_setPlant 62 = .ok (.getfield 80, 3) := by decide +kernel
theorem dX5_setPlant_65 : decode cX5_setPlant 65 = .ok (.iconst 1, 1) := by decide +kernel
theorem dX5_setPlant_66 : decode cX5_setPlant 66 = .ok (.iload_n 2, 1) := by decide +kernel
theorem dX5_setPlant_67 : decode cX5_setPlant 67 = .ok (.iastore, 1) := by decide +kernel
theorem dX5_setPlant_68 : decode cX5_setPlant 68 = .ok (.aload 5, 2) := by decide +kernel
theorem dX5_setPlant_70 : decode cX5_setPlant 70 = .ok (.getfield 80, 3) := by decide +kernel
theorem dX5_setPlant_73 : decode cX5_setPlant 73 = .ok (.iconst 2, 1) := by decide +kernel
theorem dX5_setPlant_74 : decode cX5_setPlant 74 = .ok (.iload_n 3, 1) := by decide +kernel
theorem dX5_setPlant_75 : decode cX5_setPlant 75 = .ok (.iastore, 1) := by decide +kernel
theorem dX5_setPlant_76 : decode cX5_setPlant 76 = .ok (.aload 5, 2) := by decide +kernel
theorem dX5_setPlant_78 : decode cX5_setPlant 78 = .ok (.iload 4, 2) := by decide +kernel
theorem dX5_setPlant_80 : decode cX5_setPlant 80 = .ok (.putfield 85, 3) := by decide +kernel
theorem dX5_setPlant_83 : decode cX5_setPlant 83 = .ok (.aload 5, 2) := by decide +kernel
theorem dX5_setPlant_85 : decode cX5_setPlant 85 = .ok (.getfield 88, 3) := by decide +kernel
theorem dX5_setPlant_88 : decode cX5_setPlant 88 = .ok (.ireturn, 1) := by decide +kernel
set_option maxRecDepth 20000 in
theorem ggX5_seed_X5_demandRange : GoodIn wsX5_seed wsX5_demandRange := goodIn_ca (goodIn_r _ [6, 7, 8, 9, 10, 5, 11] (by decide +kernel) (by decide +kernel)) (goodIn_sub (fun _ h => List.mem_cons_of_mem _ (List.mem_append_right _ h)) (by decide +kernel))
set_option maxRecDepth 20000 in
theorem gX5_seed_X5_demandRange : GoodIn wsX5_seed (va_wsS RX5 34 yX5_demandRange wsX5_demandRange) := goodIn_app (goodIn_of _ (by decide +kernel)) ggX5_seed_X5_demandRange
set_option maxRecDepth 20000 in
theorem ggX5_seed_X5_saveState : GoodIn wsX5_seed wsX5_saveState := goodIn_r _ [15, 16, 17, 2, 18, 19, 20, 5, 21, 22, 23, 24, 25, 26, 27, 28, 29, 30, 31, 32, 33, 34, 35, 36, 37, 38, 39, 40, 41, 42, 43, 44, 45, 46, 47, 48, 49, 50, 51, 52, 53, 54, 55, 56, 57, 58, 59, 60, 61, 62, 63, 64, 65, 66, 67, 68, 73, 74, 75, 76, 77, 78, 79, 80, 81, 82, 83, 69, 70, 71, 72] (by decide +kernel) (by decide +kernel)
set_option maxRecDepth 20000 in
theorem gX5_seed_X5_saveState : GoodIn wsX5_seed (wsV RX5 45 RX5 yX5_saveState wsX5_saveState) := goodIn_app (goodIn_of _ (by decide +kernel)) ggX5_seed_X5_saveState
theorem dX5_seed_0 : decode cX5_seed 0 = .ok (.iload_n 1, 1) := by decide +kernel
theorem dX5_seed_1 : decode cX5_seed 1 = .ok (.iconst 0, 1) := by decide +kernel
theorem dX5_seed_2 : decode cX5_seed 2 = .ok (.ldc 91, 2) := by decide +kernel
theorem dX5_seed_4 : decode cX5_seed 4 = .ok (.invokestatic 34, 3) := by decide +kernel
theorem dX5_seed_7 : decode cX5_seed 7 = .ok (.iload_n 2, 1) := by decide +kernel
theorem dX5_seed_8 : decode cX5_seed 8 = .ok (.sipush (-2000), 3) := by decide +kernel
theorem dX5_seed_11 : decode cX5_seed 11 = .ok (.sipush 2000, 3) := by decide +kernel
theorem dX5_seed_14 : decode cX5_seed 14 = .ok (.invokestatic 34, 3) := by decide +kernel
theorem dX5_seed_17 : decode cX5_seed 17 = .ok (.aload_n 0, 1) := by decide +kernel
theorem dX5_seed_18 : decode cX5_seed 18 = .ok (.invokevirtual 45, 3) := by decide +kernel
theorem dX5_seed_21 : decode cX5_seed 21 = .ok (.aload_n 0, 1) := by decide +kernel
theorem dX5_seed_22 : decode cX5_seed 22 = .ok (.getfield 12, 3) := by decide +kernel
theorem dX5_seed_25 : decode cX5_seed 25 = .ok (.getfield 76, 3) := by decide +kernel
theorem dX5_seed_28 : decode cX5_seed 28 = .ok (.getfield 88, 3) := by decide +kernel
theorem dX5_seed_31 : decode cX5_seed 31 = .ok (.istore_n 3, 1) := by decide +kernel
theorem dX5_seed_32 : decode cX5_seed 32 = .ok (.aload_n 0, 1) := by decide +kernel
theorem dX5_seed_33 : decode cX5_seed 33 = .ok (.getfield 12, 3) := by decide +kernel
theorem dX5_seed_36 : decode cX5_seed 36 = .ok (.getfield 76, 3) := by decide +kernel
theorem dX5_seed_39 : decode cX5_seed 39 = .ok (.iload_n 1, 1) := by decide +kernel
theorem dX5_seed_40 : decode cX5_seed 40 = .ok (.i2l, 1) := by decide +kernel
theorem dX5_seed_41 : decode cX5_seed 41 = .ok (.putfield 92, 3) := by decide +kernel
theorem dX5_seed_44 : decode cX5_seed 44 = .ok (.aload_n 0, 1) := by decide +kernel
theorem dX5_seed_45 : decode cX5_seed 45 = .ok (.getfield 12, 3) := by decide +kernel
theorem dX5_seed_48 : decode cX5_seed 48 = .ok (.getfield 76, 3) := by decide +kernel
theorem dX5_seed_51 : decode cX5_seed 51 = .ok (.iload_n 2, 1) := by decide +kernel
theorem dX5_seed_52 : decode cX5_seed 52 = .ok (.putfield 88, 3) := by decide +kernel
theorem dX5_seed_55 : decode cX5_seed 55 = .ok (.iload_n 3, 1) := by decide +kernel
theorem dX5_seed_56 : decode cX5_seed 56 = .ok (.ireturn, 1) := by decide +kernel
set_option maxRecDepth 20000 in
theorem ggX5_sample_X5_demandSignal : GoodIn wsX5_sample wsX5_demandSignal := goodIn_ca (goodIn_r _ [6, 7, 8, 5, 9, 10, 11, 12, 13, 14] (by decide +kernel) (by decide +kernel)) (goodIn_sub (fun _ h => List.mem_cons_of_mem _ (List.mem_append_right _ h)) (by decide +kernel))
set_option maxRecDepth 20000 in
theorem gX5_sample_X5_demandSignal : GoodIn wsX5_sample (va_wsS RX5 96 yX5_demandSignal wsX5_demandSignal) := goodIn_app (goodIn_of _ (by decide +kernel)) ggX5_sample_X5_demandSignal
set_option maxRecDepth 20000 in
theorem ggX5_sample_X5_demandRange : GoodIn wsX5_sample wsX5_demandRange := goodIn_ca (goodIn_r _ [9, 10, 11, 12, 13, 5, 14] (by decide +kernel) (by decide +kernel)) (goodIn_sub (fun _ h => List.mem_cons_of_mem _ (List.mem_append_right _ h)) (by decide +kernel))
set_option maxRecDepth 20000 in
theorem gX5_sample_X5_demandRange : GoodIn wsX5_sample (va_wsS RX5 34 yX5_demandRange wsX5_demandRange) := goodIn_app (goodIn_of _ (by decide +kernel)) ggX5_sample_X5_demandRange
set_option maxRecDepth 20000 in
theorem ggX5_sample_X5_saveState : GoodIn wsX5_sample wsX5_saveState := goodIn_r _ [18, 19, 20, 1, 21, 22, 23, 5, 24, 25, 26, 27, 28, 29, 30, 31, 32, 33, 34, 35, 36, 37, 38, 39, 40, 41, 42, 43, 44, 45, 46, 47, 48, 49, 50, 51, 52, 53, 54, 55, 56, 57, 58, 59, 60, 61, 62, 63, 125, 126, 127, 128, 129, 130, 131, 132, 133, 134, 135, 136, 137, 138, 139, 140, 141, 142, 143, 144, 145, 146, 147] (by decide +kernel) (by decide +kernel)
set_option maxRecDepth 20000 in
theorem gX5_sample_X5_saveState : GoodIn wsX5_sample (wsV RX5 45 RX5 yX5_saveState wsX5_saveState) := goodIn_app (goodIn_of _ (by decide +kernel)) ggX5_sample_X5_saveState
set_option maxRecDepth 20000 in
theorem ggX5_sample_X0_take : GoodIn wsX5_sample wsX0_take := goodIn_r _ [66, 67, 45, 46, 68, 69, 70, 71, 44, 72, 73, 74, 75, 37, 76, 43, 77, 48, 78, 79, 51, 52, 31, 32, 33, 53, 54, 80, 81, 82, 83, 84, 85, 86, 87, 88, 89, 90, 91, 92, 93, 94, 95, 96, 97, 98, 5, 99, 100, 101, 102, 103, 104, 105, 106, 107, 108, 109, 110, 111, 112, 113, 40, 42, 114, 115, 116, 117, 118, 119, 120, 121, 122, 123, 133, 134, 135, 136, 137, 138, 139, 140, 141, 142, 143] (by decide +kernel) (by decide +kernel)
set_option maxRecDepth 20000 in
theorem gX5_sample_X0_take_n99 : GoodIn wsX5_sample (wsX0_take) := ggX5_sample_X0_take
set_option maxRecDepth 20000 in
theorem ggX5_sample_X5_divideDown : GoodIn wsX5_sample wsX5_divideDown := goodIn_r _ [99, 100, 101, 102, 103] (by decide +kernel) (by decide +kernel)
set_option maxRecDepth 20000 in
theorem gX5_sample_X5_divideDown : GoodIn wsX5_sample (va_wsS RX5 105 yX5_divideDown wsX5_divideDown) := goodIn_app (goodIn_of _ (by decide +kernel)) ggX5_sample_X5_divideDown
theorem dX5_sample_0 : decode cX5_sample 0 = .ok (.iload_n 1, 1) := by decide +kernel
theorem dX5_sample_1 : decode cX5_sample 1 = .ok (.invokestatic 96, 3) := by decide +kernel
theorem dX5_sample_4 : decode cX5_sample 4 = .ok (.iload_n 2, 1) := by decide +kernel
theorem dX5_sample_5 : decode cX5_sample 5 = .ok (.invokestatic 96, 3) := by decide +kernel
theorem dX5_sample_8 : decode cX5_sample 8 = .ok (.iload_n 3, 1) := by decide +kernel
theorem dX5_sample_9 : decode cX5_sample 9 = .ok (.sipush (-4000), 3) := by decide +kernel
theorem dX5_sample_12 : decode cX5_sample 12 = .ok (.sipush 4000, 3) := by decide +kernel
theorem dX5_sample_15 : decode cX5_sample 15 = .ok (.invokestatic 34, 3) := by decide +kernel
theorem dX5_sample_18 : decode cX5_sample 18 = .ok (.aload_n 0, 1) := by decide +kernel
theorem dX5_sample_19 : decode cX5_sample 19 = .ok (.invokevirtual 45, 3) := by decide +kernel
theorem dX5_sample_22 : decode cX5_sample 22 = .ok (.aload_n 0, 1) := by decide +kernel
theorem dX5_sample_23 : decode cX5_sample 23 = .ok (.getfield 12, 3) := by decide +kernel
theorem dX5_sample_26 : decode cX5_sample 26 = .ok (.getfield 57, 3) := by decide +kernel
theorem dX5_sample_29 : decode cX5_sample 29 = .ok (.aload_n 0, 1) := by decide +kernel
theorem dX5_sample_30 : decode cX5_sample 30 = .ok (.getfield 12, 3) := by decide +kernel
theorem dX5_sample_33 : decode cX5_sample 33 = .ok (.getfield 48, 3) := by decide +kernel
theorem dX5_sample_36 : decode cX5_sample 36 = .ok (.iload_n 1, 1) := by decide +kernel
theorem dX5_sample_37 : decode cX5_sample 37 = .ok (.iload_n 2, 1) := by decide +kernel
theorem dX5_sample_38 : decode cX5_sample 38 = .ok (.iload_n 3, 1) := by decide +kernel
theorem dX5_sample_39 : decode cX5_sample 39 = .ok (.invokevirtual 99, 3) := by decide +kernel
theorem dX5_sample_42 : decode cX5_sample 42 = .ok (.ldc2_w 103, 3) := by decide +kernel
theorem dX5_sample_45 : decode cX5_sample 45 = .ok (.invokestatic 105, 3) := by decide +kernel
theorem dX5_sample_48 : decode cX5_sample 48 = .ok (.lreturn, 1) := by decide +kernel
set_option maxRecDepth 20000 in
theorem ggX5_restart_X5_saveState : GoodIn wsX5_restart wsX5_saveState := goodIn_r _ [6, 7, 8, 1, 9, 10, 11, 5, 12, 13, 14, 15, 16, 17, 18, 19, 20, 21, 22, 23, 24, 25, 26, 27, 28, 29, 30, 31, 32, 33, 34, 35, 36, 37, 38, 39, 40, 41, 42, 43, 44, 45, 46, 47, 48, 49, 50, 51, 67, 68, 69, 70, 71, 72, 73, 74, 75, 76, 77, 78, 79, 80, 81, 82, 83, 84, 85, 86, 87, 88, 89] (by decide +kernel) (by decide +kernel)
set_option maxRecDepth 20000 in
theorem gX5_restart_X5_saveState : GoodIn wsX5_restart (wsV RX5 45 RX5 yX5_saveState wsX5_saveState) := goodIn_app (goodIn_of _ (by decide +kernel)) ggX5_restart_X5_saveState
set_option maxRecDepth 20000 in
theorem ggX5_restart_X0_begin : GoodIn wsX5_restart wsX0_begin := goodIn_r _ [54, 55, 33, 34, 56, 57, 58, 25, 59, 28, 30, 31, 60, 5, 61, 62, 63, 64, 65, 32, 66, 75, 76, 77, 78, 79, 80, 81, 82, 83, 84, 85] (by decide +kernel) (by decide +kernel)
set_option maxRecDepth 20000 in
theorem gX5_restart_X0_begin_n112 : GoodIn wsX5_restart (wsX0_begin) := ggX5_restart_X0_begin
theorem dX5_restart_0 : decode cX5_restart 0 = .ok (.aload_n 0, 1) := by decide +kernel
theorem dX5_restart_1 : decode cX5_restart 1 = .ok (.invokevirtual 45, 3) := by decide +kernel
theorem dX5_restart_4 : decode cX5_restart 4 = .ok (.aload_n 0, 1) := by decide +kernel
theorem dX5_restart_5 : decode cX5_restart 5 = .ok (.getfield 12, 3) := by decide +kernel
theorem dX5_restart_8 : decode cX5_restart 8 = .ok (.getfield 57, 3) := by decide +kernel
theorem dX5_restart_11 : decode cX5_restart 11 = .ok (.getfield 109, 3) := by decide +kernel
theorem dX5_restart_14 : decode cX5_restart 14 = .ok (.iconst 0, 1) := by decide +kernel
theorem dX5_restart_15 : decode cX5_restart 15 = .ok (.iaload, 1) := by decide +kernel
theorem dX5_restart_16 : decode cX5_restart 16 = .ok (.istore_n 1, 1) := by decide +kernel
theorem dX5_restart_17 : decode cX5_restart 17 = .ok (.aload_n 0, 1) := by decide +kernel
theorem dX5_restart_18 : decode cX5_restart 18 = .ok (.getfield 12, 3) := by decide +kernel
theorem dX5_restart_21 : decode cX5_restart 21 = .ok (.getfield 57, 3) := by decide +kernel
theorem dX5_restart_24 : decode cX5_restart 24 = .ok (.invokevirtual 112, 3) := by decide +kernel
theorem dX5_restart_27 : decode cX5_restart 27 = .ok (.iload_n 1, 1) := by decide +kernel
theorem dX5_restart_28 : decode cX5_restart 28 = .ok (.ireturn, 1) := by decide +kernel
set_option maxRecDepth 20000 in
theorem ggX5_parameter_X5_demandParameter : GoodIn wsX5_parameter wsX5_demandParameter := goodIn_ca (goodIn_r _ [5, 6, 7] (by decide +kernel) (by decide +kernel)) (goodIn_sub (fun _ h => List.mem_cons_of_mem _ (List.mem_append_right _ h)) (by decide +kernel))
set_option maxRecDepth 20000 in
theorem gX5_parameter_X5_demandParameter : GoodIn wsX5_parameter (va_wsS RX5 51 yX5_demandParameter wsX5_demandParameter) := goodIn_app (goodIn_of _ (by decide +kernel)) ggX5_parameter_X5_demandParameter
theorem dX5_parameter_0 : decode cX5_parameter 0 = .ok (.iload_n 1, 1) := by decide +kernel
theorem dX5_parameter_1 : decode cX5_parameter 1 = .ok (.invokestatic 51, 3) := by decide +kernel
theorem dX5_parameter_4 : decode cX5_parameter 4 = .ok (.aload_n 0, 1) := by decide +kernel
theorem dX5_parameter_5 : decode cX5_parameter 5 = .ok (.getfield 12, 3) := by decide +kernel
theorem dX5_parameter_8 : decode cX5_parameter 8 = .ok (.getfield 57, 3) := by decide +kernel
theorem dX5_parameter_11 : decode cX5_parameter 11 = .ok (.getfield 69, 3) := by decide +kernel
theorem dX5_parameter_14 : decode cX5_parameter 14 = .ok (.iload_n 1, 1) := by decide +kernel
theorem dX5_parameter_15 : decode cX5_parameter 15 = .ok (.iaload, 1) := by decide +kernel
theorem dX5_parameter_16 : decode cX5_parameter 16 = .ok (.ireturn, 1) := by decide +kernel
set_option maxRecDepth 20000 in
theorem ggX5_covariance_X5_demandParameter : GoodIn wsX5_covariance wsX5_demandParameter := goodIn_ca (goodIn_r _ [5, 6, 7] (by decide +kernel) (by decide +kernel)) (goodIn_sub (fun _ h => List.mem_cons_of_mem _ (List.mem_append_right _ h)) (by decide +kernel))
set_option maxRecDepth 20000 in
theorem gX5_covariance_X5_demandParameter : GoodIn wsX5_covariance (va_wsS RX5 51 yX5_demandParameter wsX5_demandParameter) := goodIn_app (goodIn_of _ (by decide +kernel)) ggX5_covariance_X5_demandParameter
theorem dX5_covariance_0 : decode cX5_covariance 0 = .ok (.iload_n 1, 1) := by decide +kernel
theorem dX5_covariance_1 : decode cX5_covariance 1 = .ok (.invokestatic 51, 3) := by decide +kernel
theorem dX5_covariance_4 : decode cX5_covariance 4 = .ok (.iload_n 2, 1) := by decide +kernel
theorem dX5_covariance_5 : decode cX5_covariance 5 = .ok (.invokestatic 51, 3) := by decide +kernel
theorem dX5_covariance_8 : decode cX5_covariance 8 = .ok (.aload_n 0, 1) := by decide +kernel
theorem dX5_covariance_9 : decode cX5_covariance 9 = .ok (.getfield 12, 3) := by decide +kernel
theorem dX5_covariance_12 : decode cX5_covariance 12 = .ok (.getfield 57, 3) := by decide +kernel
theorem dX5_covariance_15 : decode cX5_covariance 15 = .ok (.getfield 115, 3) := by decide +kernel
theorem dX5_covariance_18 : decode cX5_covariance 18 = .ok (.iconst 3, 1) := by decide +kernel
theorem dX5_covariance_19 : decode cX5_covariance 19 = .ok (.iload_n 1, 1) := by decide +kernel
theorem dX5_covariance_20 : decode cX5_covariance 20 = .ok (.imul, 1) := by decide +kernel
theorem dX5_covariance_21 : decode cX5_covariance 21 = .ok (.iload_n 2, 1) := by decide +kernel
theorem dX5_covariance_22 : decode cX5_covariance 22 = .ok (.iadd, 1) := by decide +kernel
theorem dX5_covariance_23 : decode cX5_covariance 23 = .ok (.laload, 1) := by decide +kernel
theorem dX5_covariance_24 : decode cX5_covariance 24 = .ok (.lreturn, 1) := by decide +kernel
set_option maxRecDepth 20000 in
theorem ggX5_count_X5_demandRange : GoodIn wsX5_count wsX5_demandRange := goodIn_ca (goodIn_r _ [5, 6, 7, 8, 9, 4, 10] (by decide +kernel) (by decide +kernel)) (goodIn_sub (fun _ h => List.mem_cons_of_mem _ (List.mem_append_right _ h)) (by decide +kernel))
set_option maxRecDepth 20000 in
theorem gX5_count_X5_demandRange : GoodIn wsX5_count (va_wsS RX5 34 yX5_demandRange wsX5_demandRange) := goodIn_app (goodIn_of _ (by decide +kernel)) ggX5_count_X5_demandRange
theorem dX5_count_0 : decode cX5_count 0 = .ok (.iload_n 1, 1) := by decide +kernel
theorem dX5_count_1 : decode cX5_count 1 = .ok (.iconst 0, 1) := by decide +kernel
theorem dX5_count_2 : decode cX5_count 2 = .ok (.iconst 4, 1) := by decide +kernel
theorem dX5_count_3 : decode cX5_count 3 = .ok (.invokestatic 34, 3) := by decide +kernel
theorem dX5_count_6 : decode cX5_count 6 = .ok (.aload_n 0, 1) := by decide +kernel
theorem dX5_count_7 : decode cX5_count 7 = .ok (.getfield 12, 3) := by decide +kernel
theorem dX5_count_10 : decode cX5_count 10 = .ok (.getfield 57, 3) := by decide +kernel
theorem dX5_count_13 : decode cX5_count 13 = .ok (.getfield 109, 3) := by decide +kernel
theorem dX5_count_16 : decode cX5_count 16 = .ok (.iload_n 1, 1) := by decide +kernel
theorem dX5_count_17 : decode cX5_count 17 = .ok (.iaload, 1) := by decide +kernel
theorem dX5_count_18 : decode cX5_count 18 = .ok (.ireturn, 1) := by decide +kernel
set_option maxRecDepth 20000 in
theorem ggX5_predict_X5_demandSignal : GoodIn wsX5_predict wsX5_demandSignal := goodIn_ca (goodIn_r _ [6, 7, 8, 5, 9, 10, 11, 12, 13, 14] (by decide +kernel) (by decide +kernel)) (goodIn_sub (fun _ h => List.mem_cons_of_mem _ (List.mem_append_right _ h)) (by decide +kernel))
set_option maxRecDepth 20000 in
theorem gX5_predict_X5_demandSignal : GoodIn wsX5_predict (va_wsS RX5 96 yX5_demandSignal wsX5_demandSignal) := goodIn_app (goodIn_of _ (by decide +kernel)) ggX5_predict_X5_demandSignal
set_option maxRecDepth 20000 in
theorem ggX5_predict_X0_weightedSum : GoodIn wsX5_predict wsX0_weightedSum := goodIn_r _ [18, 19, 35, 36, 37, 38, 39, 40, 41, 42] (by decide +kernel) (by decide +kernel)
set_option maxRecDepth 20000 in
theorem gX5_predict_X0_weightedSum_n119 : GoodIn wsX5_predict (wsX0_weightedSum) := ggX5_predict_X0_weightedSum
set_option maxRecDepth 20000 in
theorem ggX5_predict_X5_divideDown : GoodIn wsX5_predict wsX5_divideDown := goodIn_r _ [22, 23, 24, 25, 26] (by decide +kernel) (by decide +kernel)
set_option maxRecDepth 20000 in
theorem gX5_predict_X5_divideDown : GoodIn wsX5_predict (va_wsS RX5 105 yX5_divideDown wsX5_divideDown) := goodIn_app (goodIn_of _ (by decide +kernel)) ggX5_predict_X5_divideDown
theorem dX5_predict_0 : decode cX5_predict 0 = .ok (.iload_n 1, 1) := by decide +kernel
theorem dX5_predict_1 : decode cX5_predict 1 = .ok (.invokestatic 96, 3) := by decide +kernel
theorem dX5_predict_4 : decode cX5_predict 4 = .ok (.iload_n 2, 1) := by decide +kernel
theorem dX5_predict_5 : decode cX5_predict 5 = .ok (.invokestatic 96, 3) := by decide +kernel
theorem dX5_predict_8 : decode cX5_predict 8 = .ok (.aload_n 0, 1) := by decide +kernel
theorem dX5_predict_9 : decode cX5_predict 9 = .ok (.getfield 12, 3) := by decide +kernel
theorem dX5_predict_12 : decode cX5_predict 12 = .ok (.getfield 57, 3) := by decide +kernel
theorem dX5_predict_15 : decode cX5_predict 15 = .ok (.iload_n 1, 1) := by decide +kernel
theorem dX5_predict_16 : decode cX5_predict 16 = .ok (.iload_n 2, 1) := by decide +kernel
theorem dX5_predict_17 : decode cX5_predict 17 = .ok (.invokevirtual 119, 3) := by decide +kernel
theorem dX5_predict_20 : decode cX5_predict 20 = .ok (.ldc2_w 103, 3) := by decide +kernel
theorem dX5_predict_23 : decode cX5_predict 23 = .ok (.invokestatic 105, 3) := by decide +kernel
theorem dX5_predict_26 : decode cX5_predict 26 = .ok (.lreturn, 1) := by decide +kernel
set_option maxRecDepth 20000 in
theorem ggX5_uncertainty_X5_demandSignal : GoodIn wsX5_uncertainty wsX5_demandSignal := goodIn_ca (goodIn_r _ [6, 7, 8, 5, 9, 10, 11, 12, 13, 14] (by decide +kernel) (by decide +kernel)) (goodIn_sub (fun _ h => List.mem_cons_of_mem _ (List.mem_append_right _ h)) (by decide +kernel))
set_option maxRecDepth 20000 in
theorem gX5_uncertainty_X5_demandSignal : GoodIn wsX5_uncertainty (va_wsS RX5 96 yX5_demandSignal wsX5_demandSignal) := goodIn_app (goodIn_of _ (by decide +kernel)) ggX5_uncertainty_X5_demandSignal
set_option maxRecDepth 20000 in
theorem ggX5_uncertainty_X0_spread : GoodIn wsX5_uncertainty wsX0_spread := goodIn_r _ [18, 19, 20, 21, 22, 23, 24, 33, 34, 35, 36, 37, 38, 39, 40] (by decide +kernel) (by decide +kernel)
set_option maxRecDepth 20000 in
theorem gX5_uncertainty_X0_spread_n123 : GoodIn wsX5_uncertainty (wsX0_spread) := ggX5_uncertainty_X0_spread
theorem dX5_uncertainty_0 : decode cX5_uncertainty 0 = .ok (.iload_n 1, 1) := by decide +kernel
theorem dX5_uncertainty_1 : decode cX5_uncertainty 1 = .ok (.invokestatic 96, 3) := by decide +kernel
theorem dX5_uncertainty_4 : decode cX5_uncertainty 4 = .ok (.iload_n 2, 1) := by decide +kernel
theorem dX5_uncertainty_5 : decode cX5_uncertainty 5 = .ok (.invokestatic 96, 3) := by decide +kernel
theorem dX5_uncertainty_8 : decode cX5_uncertainty 8 = .ok (.aload_n 0, 1) := by decide +kernel
theorem dX5_uncertainty_9 : decode cX5_uncertainty 9 = .ok (.getfield 12, 3) := by decide +kernel
theorem dX5_uncertainty_12 : decode cX5_uncertainty 12 = .ok (.getfield 57, 3) := by decide +kernel
theorem dX5_uncertainty_15 : decode cX5_uncertainty 15 = .ok (.iload_n 1, 1) := by decide +kernel
theorem dX5_uncertainty_16 : decode cX5_uncertainty 16 = .ok (.iload_n 2, 1) := by decide +kernel
theorem dX5_uncertainty_17 : decode cX5_uncertainty 17 = .ok (.invokevirtual 123, 3) := by decide +kernel
theorem dX5_uncertainty_20 : decode cX5_uncertainty 20 = .ok (.l2d, 1) := by decide +kernel
theorem dX5_uncertainty_21 : decode cX5_uncertainty 21 = .ok (.ldc2_w 126, 3) := by decide +kernel
theorem dX5_uncertainty_24 : decode cX5_uncertainty 24 = .ok (.ddiv, 1) := by decide +kernel
theorem dX5_uncertainty_25 : decode cX5_uncertainty 25 = .ok (.dreturn, 1) := by decide +kernel
set_option maxRecDepth 20000 in
theorem ggX5_inWindow_X4_size : GoodIn wsX5_inWindow wsX4_size := goodIn_r _ [5, 6, 7, 8, 9, 10, 27, 28, 29] (by decide +kernel) (by decide +kernel)
set_option maxRecDepth 20000 in
theorem gX5_inWindow_X4_size_n132 : GoodIn wsX5_inWindow (wsX4_size) := ggX5_inWindow_X4_size
theorem dX5_inWindow_0 : decode cX5_inWindow 0 = .ok (.aload_n 0, 1) := by decide +kernel
theorem dX5_inWindow_1 : decode cX5_inWindow 1 = .ok (.getfield 12, 3) := by decide +kernel
theorem dX5_inWindow_4 : decode cX5_inWindow 4 = .ok (.getfield 57, 3) := by decide +kernel
theorem dX5_inWindow_7 : decode cX5_inWindow 7 = .ok (.getfield 128, 3) := by decide +kernel
theorem dX5_inWindow_10 : decode cX5_inWindow 10 = .ok (.aload_n 0, 1) := by decide +kernel
theorem dX5_inWindow_11 : decode cX5_inWindow 11 = .ok (.getfield 12, 3) := by decide +kernel
theorem dX5_inWindow_14 : decode cX5_inWindow 14 = .ok (.getfield 48, 3) := by decide +kernel
theorem dX5_inWindow_17 : decode cX5_inWindow 17 = .ok (.iconst 3, 1) := by decide +kernel
theorem dX5_inWindow_18 : decode cX5_inWindow 18 = .ok (.iaload, 1) := by decide +kernel
theorem dX5_inWindow_19 : decode cX5_inWindow 19 = .ok (.invokevirtual 132, 3) := by decide +kernel
theorem dX5_inWindow_22 : decode cX5_inWindow 22 = .ok (.ireturn, 1) := by decide +kernel
set_option maxRecDepth 20000 in
theorem ggX5_determinant_X4_excitation : GoodIn wsX5_determinant wsX4_excitation := goodIn_r _ [5, 6, 7, 8, 9, 10, 3, 11, 12, 13, 14, 15, 16, 33, 34, 35] (by decide +kernel) (by decide +kernel)
set_option maxRecDepth 20000 in
theorem gX5_determinant_X4_excitation_n138 : GoodIn wsX5_determinant (wsX4_excitation) := ggX5_determinant_X4_excitation
theorem dX5_determinant_0 : decode cX5_determinant 0 = .ok (.aload_n 0, 1) := by decide +kernel
theorem dX5_determinant_1 : decode cX5_determinant 1 = .ok (.getfield 12, 3) := by decide +kernel
theorem dX5_determinant_4 : decode cX5_determinant 4 = .ok (.getfield 57, 3) := by decide +kernel
theorem dX5_determinant_7 : decode cX5_determinant 7 = .ok (.getfield 128, 3) := by decide +kernel
theorem dX5_determinant_10 : decode cX5_determinant 10 = .ok (.aload_n 0, 1) := by decide +kernel
theorem dX5_determinant_11 : decode cX5_determinant 11 = .ok (.getfield 12, 3) := by decide +kernel
theorem dX5_determinant_14 : decode cX5_determinant 14 = .ok (.getfield 48, 3) := by decide +kernel
theorem dX5_determinant_17 : decode cX5_determinant 17 = .ok (.iconst 3, 1) := by decide +kernel
theorem dX5_determinant_18 : decode cX5_determinant 18 = .ok (.iaload, 1) := by decide +kernel
theorem dX5_determinant_19 : decode cX5_determinant 19 = .ok (.invokevirtual 138, 3) := by decide +kernel
theorem dX5_determinant_22 : decode cX5_determinant 22 = .ok (.lreturn, 1) := by decide +kernel
set_option maxRecDepth 20000 in
theorem ggX5_exciting_X5_inWindow : GoodIn wsX5_exciting wsX5_inWindow := goodIn_r _ [7, 1, 8, 9, 10, 11, 12, 13, 14, 15, 16, 27, 28, 29, 30, 31, 32, 33, 34, 35, 36, 37, 38, 39, 40, 41, 42, 43, 44, 45] (by decide +kernel) (by decide +kernel)
set_option maxRecDepth 20000 in
theorem gX5_exciting_X5_inWindow : GoodIn wsX5_exciting (wsV RX5 142 RX5 yX5_inWindow wsX5_inWindow) := goodIn_app (goodIn_of _ (by decide +kernel)) ggX5_exciting_X5_inWindow
set_option maxRecDepth 20000 in
theorem ggX5_exciting_X5_determinant : GoodIn wsX5_exciting wsX5_determinant := goodIn_r _ [20, 1, 21, 9, 22, 23, 24, 25, 26, 8, 10, 11, 12, 13, 14, 15, 16, 27, 28, 29, 30, 31, 32, 33, 34, 35, 36, 37, 38, 39, 40, 41, 42, 43, 44, 45] (by decide +kernel) (by decide +kernel)
set_option maxRecDepth 20000 in
theorem gX5_exciting_X5_determinant : GoodIn wsX5_exciting (wsV RX5 146 RX5 yX5_determinant wsX5_determinant) := goodIn_app (goodIn_of _ (by decide +kernel)) ggX5_exciting_X5_determinant
theorem dX5_exciting_0 : decode cX5_exciting 0 = .ok (.aload_n 0, 1) := by decide +kernel
theorem dX5_exciting_1 : decode cX5_exciting 1 = .ok (.invokevirtual 142, 3) := by decide +kernel
theorem dX5_exciting_4 : decode cX5_exciting 4 = .ok (.i2l, 1) := by decide +kernel
theorem dX5_exciting_5 : decode cX5_exciting 5 = .ok (.lstore_n 1, 1) := by decide +kernel
theorem dX5_exciting_6 : decode cX5_exciting 6 = .ok (.lload_n 1, 1) := by decide +kernel
theorem dX5_exciting_7 : decode cX5_exciting 7 = .ok (.aload_n 0, 1) := by decide +kernel
theorem dX5_exciting_8 : decode cX5_exciting 8 = .ok (.getfield 12, 3) := by decide +kernel
theorem dX5_exciting_11 : decode cX5_exciting 11 = .ok (.getfield 48, 3) := by decide +kernel
theorem dX5_exciting_14 : decode cX5_exciting 14 = .ok (.iconst 3, 1) := by decide +kernel
theorem dX5_exciting_15 : decode cX5_exciting 15 = .ok (.iaload, 1) := by decide +kernel
theorem dX5_exciting_16 : decode cX5_exciting 16 = .ok (.i2l, 1) := by decide +kernel
theorem dX5_exciting_17 : decode cX5_exciting 17 = .ok (.lcmp, 1) := by decide +kernel
theorem dX5_exciting_18 : decode cX5_exciting 18 = .ok (.ifCond .ne 22, 3) := by decide +kernel
theorem dX5_exciting_21 : decode cX5_exciting 21 = .ok (.aload_n 0, 1) := by decide +kernel
theorem dX5_exciting_22 : decode cX5_exciting 22 = .ok (.invokevirtual 146, 3) := by decide +kernel
theorem dX5_exciting_25 : decode cX5_exciting 25 = .ok (.ldc2_w 150, 3) := by decide +kernel
theorem dX5_exciting_28 : decode cX5_exciting 28 = .ok (.lload_n 1, 1) := by decide +kernel
theorem dX5_exciting_29 : decode cX5_exciting 29 = .ok (.lmul, 1) := by decide +kernel
theorem dX5_exciting_30 : decode cX5_exciting 30 = .ok (.lload_n 1, 1) := by decide +kernel
theorem dX5_exciting_31 : decode cX5_exciting 31 = .ok (.lmul, 1) := by decide +kernel
theorem dX5_exciting_32 : decode cX5_exciting 32 = .ok (.lcmp, 1) := by decide +kernel
theorem dX5_exciting_33 : decode cX5_exciting 33 = .ok (.ifCond .lt 7, 3) := by decide +kernel
theorem dX5_exciting_36 : decode cX5_exciting 36 = .ok (.iconst 1, 1) := by decide +kernel
theorem dX5_exciting_37 : decode cX5_exciting 37 = .ok (.goto 4, 3) := by decide +kernel
theorem dX5_exciting_40 : decode cX5_exciting 40 = .ok (.iconst 0, 1) := by decide +kernel
theorem dX5_exciting_41 : decode cX5_exciting 41 = .ok (.ireturn, 1) := by decide +kernel
set_option maxRecDepth 20000 in
theorem ggX5_control_X5_demandSignal : GoodIn wsX5_control wsX5_demandSignal := goodIn_ca (goodIn_r _ [5, 6, 7, 4, 8, 9, 10, 11, 12, 13] (by decide +kernel) (by decide +kernel)) (goodIn_sub (fun _ h => List.mem_cons_of_mem _ (List.mem_append_right _ h)) (by decide +kernel))
set_option maxRecDepth 20000 in
theorem gX5_control_X5_demandSignal : GoodIn wsX5_control (va_wsS RX5 96 yX5_demandSignal wsX5_demandSignal) := goodIn_app (goodIn_of _ (by decide +kernel)) ggX5_control_X5_demandSignal
set_option maxRecDepth 20000 in
theorem ggX5_control_X3_inputFor : GoodIn wsX5_control wsX3_inputFor := goodIn_r _ [17, 18, 19, 20, 21, 22, 23, 24, 25, 26, 27, 28, 4, 29, 30, 31, 32, 33, 34, 35, 41, 42, 43, 44, 45, 46, 47, 48, 49, 50, 51] (by decide +kernel) (by decide +kernel)
set_option maxRecDepth 20000 in
theorem gX5_control_X3_inputFor_n152 : GoodIn wsX5_control (wsX3_inputFor) := ggX5_control_X3_inputFor
theorem dX5_control_0 : decode cX5_control 0 = .ok (.iload_n 1, 1) := by decide +kernel
theorem dX5_control_1 : decode cX5_control 1 = .ok (.invokestatic 96, 3) := by decide +kernel
theorem dX5_control_4 : decode cX5_control 4 = .ok (.iload_n 2, 1) := by decide +kernel
theorem dX5_control_5 : decode cX5_control 5 = .ok (.invokestatic 96, 3) := by decide +kernel
theorem dX5_control_8 : decode cX5_control 8 = .ok (.aload_n 0, 1) := by decide +kernel
theorem dX5_control_9 : decode cX5_control 9 = .ok (.getfield 12, 3) := by decide +kernel
theorem dX5_control_12 : decode cX5_control 12 = .ok (.iload_n 1, 1) := by decide +kernel
theorem dX5_control_13 : decode cX5_control 13 = .ok (.iload_n 2, 1) := by decide +kernel
theorem dX5_control_14 : decode cX5_control 14 = .ok (.invokevirtual 152, 3) := by decide +kernel
theorem dX5_control_17 : decode cX5_control 17 = .ok (.ireturn, 1) := by decide +kernel
set_option maxRecDepth 20000 in
theorem ggX5_run_X5_demandSignal : GoodIn wsX5_run wsX5_demandSignal := goodIn_ca (goodIn_r _ [5, 6, 7, 4, 8, 9, 10, 11, 12, 13] (by decide +kernel) (by decide +kernel)) (goodIn_sub (fun _ h => List.mem_cons_of_mem _ (List.mem_append_right _ h)) (by decide +kernel))
set_option maxRecDepth 20000 in
theorem gX5_run_X5_demandSignal : GoodIn wsX5_run (va_wsS RX5 96 yX5_demandSignal wsX5_demandSignal) := goodIn_app (goodIn_of _ (by decide +kernel)) ggX5_run_X5_demandSignal
set_option maxRecDepth 20000 in
theorem ggX5_run_X5_demandRange : GoodIn wsX5_run wsX5_demandRange := goodIn_ca (goodIn_r _ [8, 9, 10, 11, 12, 4, 13] (by decide +kernel) (by decide +kernel)) (goodIn_sub (fun _ h => List.mem_cons_of_mem _ (List.mem_append_right _ h)) (by decide +kernel))
set_option maxRecDepth 20000 in
theorem gX5_run_X5_demandRange : GoodIn wsX5_run (va_wsS RX5 34 yX5_demandRange wsX5_demandRange) := goodIn_app (goodIn_of _ (by decide +kernel)) ggX5_run_X5_demandRange
set_option maxRecDepth 20000 in
theorem ggX5_run_X5_saveState : GoodIn wsX5_run wsX5_saveState := goodIn_r _ [17, 18, 19, 1, 20, 21, 22, 4, 23, 24, 25, 26, 27, 28, 29, 30, 31, 32, 33, 34, 35, 36, 37, 38, 39, 40, 41, 42, 43, 44, 45, 46, 47, 48, 49, 50, 51, 52, 53, 54, 55, 56, 57, 58, 59, 60, 61, 62, 150, 151, 152, 153, 154, 155, 156, 157, 162, 163, 164, 165, 166, 167, 168, 169, 170, 171, 172, 158, 159, 160, 161] (by decide +kernel) (by decide +kernel)
set_option maxRecDepth 20000 in
theorem gX5_run_X5_saveState : GoodIn wsX5_run (wsV RX5 45 RX5 yX5_saveState wsX5_saveState) := goodIn_app (goodIn_of _ (by decide +kernel)) ggX5_run_X5_saveState
set_option maxRecDepth 20000 in
theorem ggX5_run_X3_inputFor : GoodIn wsX5_run wsX3_inputFor := goodIn_r _ [65, 66, 33, 67, 68, 69, 70, 28, 71, 72, 73, 74, 4, 75, 76, 77, 78, 79, 80, 81, 155, 156, 157, 162, 163, 164, 165, 166, 167, 168, 169] (by decide +kernel) (by decide +kernel)
set_option maxRecDepth 20000 in
theorem gX5_run_X3_inputFor_n152 : GoodIn wsX5_run (wsX3_inputFor) := ggX5_run_X3_inputFor
set_option maxRecDepth 20000 in
theorem ggX5_run_X3_step : GoodIn wsX5_run wsX3_step := goodIn_r _ [84, 34, 33, 28, 85, 55, 86, 87, 88, 61, 89, 90, 58, 62, 91, 92, 93, 94, 95, 78, 96, 74, 4, 75, 76, 77, 79, 97, 98, 99, 100, 101, 102, 60, 80, 81, 103, 36, 104, 105, 106, 44, 45, 107, 68, 69, 70, 43, 108, 109, 110, 111, 112, 42, 113, 47, 114, 115, 50, 51, 30, 31, 32, 52, 53, 116, 117, 118, 119, 120, 121, 122, 123, 124, 72, 73, 125, 126, 127, 128, 129, 130, 131, 132, 133, 134, 135, 136, 137, 138, 139, 39, 41, 140, 141, 142, 143, 144, 145, 146, 147, 148, 149, 155, 156, 157, 158, 159, 160, 161, 162, 163, 164, 165, 166, 167, 168, 169, 170, 171, 172] (by decide +kernel) (by decide +kernel)
set_option maxRecDepth 20000 in
theorem gX5_run_X3_step_n156 : GoodIn wsX5_run (wsX3_step) := ggX5_run_X3_step
theorem dX5_run_0 : decode cX5_run 0 = .ok (.iload_n 1, 1) := by decide +kernel
theorem dX5_run_1 : decode cX5_run 1 = .ok (.invokestatic 96, 3) := by decide +kernel
theorem dX5_run_4 : decode cX5_run 4 = .ok (.iload_n 2, 1) := by decide +kernel
theorem dX5_run_5 : decode cX5_run 5 = .ok (.iconst 0, 1) := by decide +kernel
theorem dX5_run_6 : decode cX5_run 6 = .ok (.sipush 500, 3) := by decide +kernel
theorem dX5_run_9 : decode cX5_run 9 = .ok (.invokestatic 34, 3) := by decide +kernel
theorem dX5_run_12 : decode cX5_run 12 = .ok (.aload_n 0, 1) := by decide +kernel
theorem dX5_run_13 : decode cX5_run 13 = .ok (.invokevirtual 45, 3) := by decide +kernel
theorem dX5_run_16 : decode cX5_run 16 = .ok (.iconst 0, 1) := by decide +kernel
theorem dX5_run_17 : decode cX5_run 17 = .ok (.istore_n 3, 1) := by decide +kernel
theorem dX5_run_18 : decode cX5_run 18 = .ok (.iload_n 3, 1) := by decide +kernel
theorem dX5_run_19 : decode cX5_run 19 = .ok (.iload_n 2, 1) := by decide +kernel
theorem dX5_run_20 : decode cX5_run 20 = .ok (.if_icmp .ge 34, 3) := by decide +kernel
theorem dX5_run_23 : decode cX5_run 23 = .ok (.aload_n 0, 1) := by decide +kernel
theorem dX5_run_24 : decode cX5_run 24 = .ok (.getfield 12, 3) := by decide +kernel
theorem dX5_run_27 : decode cX5_run 27 = .ok (.aload_n 0, 1) := by decide +kernel
theorem dX5_run_28 : decode cX5_run 28 = .ok (.getfield 12, 3) := by decide +kernel
theorem dX5_run_31 : decode cX5_run 31 = .ok (.iload_n 1, 1) := by decide +kernel
theorem dX5_run_32 : decode cX5_run 32 = .ok (.aload_n 0, 1) := by decide +kernel
theorem dX5_run_33 : decode cX5_run 33 = .ok (.getfield 12, 3) := by decide +kernel
theorem dX5_run_36 : decode cX5_run 36 = .ok (.getfield 76, 3) := by decide +kernel
theorem dX5_run_39 : decode cX5_run 39 = .ok (.getfield 88, 3) := by decide +kernel
theorem dX5_run_42 : decode cX5_run 42 = .ok (.invokevirtual 152, 3) := by decide +kernel
theorem dX5_run_45 : decode cX5_run 45 = .ok (.invokevirtual 156, 3) := by decide +kernel
theorem dX5_run_48 : decode cX5_run 48 = .ok (.iinc 3 1, 3) := by decide +kernel
theorem dX5_run_51 : decode cX5_run 51 = .ok (.goto (-33), 3) := by decide +kernel
theorem dX5_run_54 : decode cX5_run 54 = .ok (.aload_n 0, 1) := by decide +kernel
theorem dX5_run_55 : decode cX5_run 55 = .ok (.getfield 12, 3) := by decide +kernel
theorem dX5_run_58 : decode cX5_run 58 = .ok (.getfield 76, 3) := by decide +kernel
