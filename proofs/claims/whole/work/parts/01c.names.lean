theorem inlX0 : ∀ w ∈ wsX00, w ∈ wsL_law := fun _ h => List.mem_append_left _ (List.mem_append_left _ (List.mem_append_left _ (List.mem_append_left _ (List.mem_append_left _ (List.mem_append_left _ (List.mem_append_right _ h))))))
theorem inlX1 : ∀ w ∈ wsX10, w ∈ wsL_law := fun _ h => List.mem_append_left _ (List.mem_append_left _ (List.mem_append_left _ (List.mem_append_left _ (List.mem_append_left _ (List.mem_append_right _ h)))))
theorem inlX2 : ∀ w ∈ wsX20, w ∈ wsL_law := fun _ h => List.mem_append_left _ (List.mem_append_left _ (List.mem_append_left _ (List.mem_append_left _ (List.mem_append_left _ (List.mem_append_left _ (List.mem_append_left _ (List.mem_append_right _ h)))))))
theorem inlX3 : ∀ w ∈ wsX30, w ∈ wsL_law := fun _ h => List.mem_append_left _ (List.mem_append_left _ (List.mem_append_left _ (List.mem_append_left _ (List.mem_append_left _ (List.mem_append_left _ (List.mem_append_left _ (List.mem_append_left _ (List.mem_append_right _ h))))))))
theorem inlX4 : ∀ w ∈ wsX40, w ∈ wsL_law := fun _ h => List.mem_append_left _ (List.mem_append_left _ (List.mem_append_left _ (List.mem_append_left _ (List.mem_append_right _ h))))
theorem inlX5 : ∀ w ∈ wsX50, w ∈ wsL_law := fun _ h => List.mem_append_left _ (List.mem_append_left _ (List.mem_append_left _ (List.mem_append_left _ (List.mem_append_left _ (List.mem_append_left _ (List.mem_append_left _ (List.mem_append_left _ (List.mem_append_left _ (List.mem_append_left _ (List.mem_append_right _ h))))))))))
theorem inlX6 : ∀ w ∈ wsX60, w ∈ wsL_law := fun _ h => List.mem_append_left _ (List.mem_append_left _ (List.mem_append_left _ (List.mem_append_left _ (List.mem_append_left _ (List.mem_append_left _ (List.mem_append_left _ (List.mem_append_left _ (List.mem_append_left _ (List.mem_append_right _ h)))))))))
set_option maxRecDepth 20000 in
theorem ggX0_init_X4_init : GoodIn wsX0_init wsX4_init := goodIn_r _ [20, 21, 2, 3, 4, 22, 23, 24, 51, 52, 53] (by decide +kernel) (by decide +kernel)
set_option maxRecDepth 20000 in
theorem gX0_init_X4_init_n32 : GoodIn wsX0_init (wsX4_init) := ggX0_init_X4_init
set_option maxRecDepth 20000 in
theorem ggX0_init_X0_begin : GoodIn wsX0_init wsX0_begin := goodIn_r _ [29, 30, 12, 16, 31, 32, 33, 28, 34, 6, 8, 9, 35, 36, 37, 38, 39, 40, 41, 11, 42, 43, 44, 45, 46, 47, 48, 49, 50, 51, 52, 53] (by decide +kernel) (by decide +kernel)
set_option maxRecDepth 20000 in
theorem gX0_init_X0_begin : GoodIn wsX0_init (wsV RX0 43 RX0 yX0_begin wsX0_begin) := goodIn_app (goodIn_of _ (by decide +kernel)) ggX0_init_X0_begin
theorem dX0_init_0 : decode cX0_init 0 = .ok (.aload_n 0, 1) := by decide +kernel
theorem dX0_init_1 : decode cX0_init 1 = .ok (.invokespecial 3, 3) := by decide +kernel
theorem dX0_init_4 : decode cX0_init 4 = .ok (.aload_n 0, 1) := by decide +kernel
theorem dX0_init_5 : decode cX0_init 5 = .ok (.iconst 3, 1) := by decide +kernel
theorem dX0_init_6 : decode cX0_init 6 = .ok (.newarray .int, 2) := by decide +kernel
theorem dX0_init_8 : decode cX0_init 8 = .ok (.dup, 1) := by decide +kernel
theorem dX0_init_9 : decode cX0_init 9 = .ok (.iconst 0, 1) := by decide +kernel
theorem dX0_init_10 : decode cX0_init 10 = .ok (.ldc 9, 2) := by decide +kernel
theorem dX0_init_12 : decode cX0_init 12 = .ok (.iastore, 1) := by decide +kernel
theorem dX0_init_13 : decode cX0_init 13 = .ok (.dup, 1) := by decide +kernel
theorem dX0_init_14 : decode cX0_init 14 = .ok (.iconst 1, 1) := by decide +kernel
theorem dX0_init_15 : decode cX0_init 15 = .ok (.ldc 9, 2) := by decide +kernel
theorem dX0_init_17 : decode cX0_init 17 = .ok (.iastore, 1) := by decide +kernel
theorem dX0_init_18 : decode cX0_init 18 = .ok (.dup, 1) := by decide +kernel
theorem dX0_init_19 : decode cX0_init 19 = .ok (.iconst 2, 1) := by decide +kernel
theorem dX0_init_20 : decode cX0_init 20 = .ok (.ldc 9, 2) := by decide +kernel
theorem dX0_init_22 : decode cX0_init 22 = .ok (.iastore, 1) := by decide +kernel
theorem dX0_init_23 : decode cX0_init 23 = .ok (.putfield 10, 3) := by decide +kernel
theorem dX0_init_26 : decode cX0_init 26 = .ok (.aload_n 0, 1) := by decide +kernel
theorem dX0_init_27 : decode cX0_init 27 = .ok (.iconst 3, 1) := by decide +kernel
theorem dX0_init_28 : decode cX0_init 28 = .ok (.newarray .int, 2) := by decide +kernel
theorem dX0_init_30 : decode cX0_init 30 = .ok (.dup, 1) := by decide +kernel
theorem dX0_init_31 : decode cX0_init 31 = .ok (.iconst 0, 1) := by decide +kernel
theorem dX0_init_32 : decode cX0_init 32 = .ok (.ldc 16, 2) := by decide +kernel
theorem dX0_init_34 : decode cX0_init 34 = .ok (.iastore, 1) := by decide +kernel
theorem dX0_init_35 : decode cX0_init 35 = .ok (.dup, 1) := by decide +kernel
theorem dX0_init_36 : decode cX0_init 36 = .ok (.iconst 1, 1) := by decide +kernel
theorem dX0_init_37 : decode cX0_init 37 = .ok (.ldc 16, 2) := by decide +kernel
theorem dX0_init_39 : decode cX0_init 39 = .ok (.iastore, 1) := by decide +kernel
theorem dX0_init_40 : decode cX0_init 40 = .ok (.dup, 1) := by decide +kernel
theorem dX0_init_41 : decode cX0_init 41 = .ok (.iconst 2, 1) := by decide +kernel
theorem dX0_init_42 : decode cX0_init 42 = .ok (.ldc 16, 2) := by decide +kernel
theorem dX0_init_44 : decode cX0_init 44 = .ok (.iastore, 1) := by decide +kernel
theorem dX0_init_45 : decode cX0_init 45 = .ok (.putfield 17, 3) := by decide +kernel
theorem dX0_init_48 : decode cX0_init 48 = .ok (.aload_n 0, 1) := by decide +kernel
theorem dX0_init_49 : decode cX0_init 49 = .ok (.iconst 3, 1) := by decide +kernel
theorem dX0_init_50 : decode cX0_init 50 = .ok (.newarray .int, 2) := by decide +kernel
theorem dX0_init_52 : decode cX0_init 52 = .ok (.putfield 20, 3) := by decide +kernel
theorem dX0_init_55 : decode cX0_init 55 = .ok (.aload_n 0, 1) := by decide +kernel
theorem dX0_init_56 : decode cX0_init 56 = .ok (.bipush 9, 2) := by decide +kernel
theorem dX0_init_58 : decode cX0_init 58 = .ok (.newarray .long, 2) := by decide +kernel
theorem dX0_init_60 : decode cX0_init 60 = .ok (.putfield 23, 3) := by decide +kernel
theorem dX0_init_63 : decode cX0_init 63 = .ok (.aload_n 0, 1) := by decide +kernel
theorem dX0_init_64 : decode cX0_init 64 = .ok (.iconst 5, 1) := by decide +kernel
theorem dX0_init_65 : decode cX0_init 65 = .ok (.newarray .int, 2) := by decide +kernel
theorem dX0_init_67 : decode cX0_init 67 = .ok (.putfield 27, 3) := by decide +kernel
theorem dX0_init_70 : decode cX0_init 70 = .ok (.aload_n 0, 1) := by decide +kernel
theorem dX0_init_71 : decode cX0_init 71 = .ok (.new 30, 3) := by decide +kernel
theorem dX0_init_74 : decode cX0_init 74 = .ok (.dup, 1) := by decide +kernel
theorem dX0_init_75 : decode cX0_init 75 = .ok (.invokespecial 32, 3) := by decide +kernel
theorem dX0_init_78 : decode cX0_init 78 = .ok (.putfield 33, 3) := by decide +kernel
theorem dX0_init_81 : decode cX0_init 81 = .ok (.aload_n 0, 1) := by decide +kernel
theorem dX0_init_82 : decode cX0_init 82 = .ok (.iconst 3, 1) := by decide +kernel
theorem dX0_init_83 : decode cX0_init 83 = .ok (.newarray .long, 2) := by decide +kernel
theorem dX0_init_85 : decode cX0_init 85 = .ok (.putfield 37, 3) := by decide +kernel
theorem dX0_init_88 : decode cX0_init 88 = .ok (.aload_n 0, 1) := by decide +kernel
theorem dX0_init_89 : decode cX0_init 89 = .ok (.iconst 3, 1) := by decide +kernel
theorem dX0_init_90 : decode cX0_init 90 = .ok (.newarray .long, 2) := by decide +kernel
theorem dX0_init_92 : decode cX0_init 92 = .ok (.putfield 40, 3) := by decide +kernel
theorem dX0_init_95 : decode cX0_init 95 = .ok (.aload_n 0, 1) := by decide +kernel
theorem dX0_init_96 : decode cX0_init 96 = .ok (.invokevirtual 43, 3) := by decide +kernel
theorem dX0_init_99 : decode cX0_init 99 = .ok (.return_, 1) := by decide +kernel
set_option maxRecDepth 20000 in
theorem ggX0_copyFrom_X4_copyFrom : GoodIn wsX0_copyFrom wsX4_copyFrom := goodIn_r _ [14, 15, 16, 3, 4, 5, 17, 18, 27, 28, 29] (by decide +kernel) (by decide +kernel)
set_option maxRecDepth 20000 in
theorem gX0_copyFrom_X4_copyFrom_n52 : GoodIn wsX0_copyFrom (wsX4_copyFrom) := ggX0_copyFrom_X4_copyFrom
theorem dX0_copyFrom_0 : decode cX0_copyFrom 0 = .ok (.aload_n 1, 1) := by decide +kernel
theorem dX0_copyFrom_1 : decode cX0_copyFrom 1 = .ok (.getfield 10, 3) := by decide +kernel
theorem dX0_copyFrom_4 : decode cX0_copyFrom 4 = .ok (.iconst 0, 1) := by decide +kernel
theorem dX0_copyFrom_5 : decode cX0_copyFrom 5 = .ok (.aload_n 0, 1) := by decide +kernel
theorem dX0_copyFrom_6 : decode cX0_copyFrom 6 = .ok (.getfield 10, 3) := by decide +kernel
theorem dX0_copyFrom_9 : decode cX0_copyFrom 9 = .ok (.iconst 0, 1) := by decide +kernel
theorem dX0_copyFrom_10 : decode cX0_copyFrom 10 = .ok (.iconst 3, 1) := by decide +kernel
theorem dX0_copyFrom_11 : decode cX0_copyFrom 11 = .ok (.invokestatic 46, 3) := by decide +kernel
theorem dX0_copyFrom_14 : decode cX0_copyFrom 14 = .ok (.aload_n 1, 1) := by decide +kernel
theorem dX0_copyFrom_15 : decode cX0_copyFrom 15 = .ok (.getfield 17, 3) := by decide +kernel
theorem dX0_copyFrom_18 : decode cX0_copyFrom 18 = .ok (.iconst 0, 1) := by decide +kernel
theorem dX0_copyFrom_19 : decode cX0_copyFrom 19 = .ok (.aload_n 0, 1) := by decide +kernel
theorem dX0_copyFrom_20 : decode cX0_copyFrom 20 = .ok (.getfield 17, 3) := by decide +kernel
theorem dX0_copyFrom_23 : decode cX0_copyFrom 23 = .ok (.iconst 0, 1) := by decide +kernel
theorem dX0_copyFrom_24 : decode cX0_copyFrom 24 = .ok (.iconst 3, 1) := by decide +kernel
theorem dX0_copyFrom_25 : decode cX0_copyFrom 25 = .ok (.invokestatic 46, 3) := by decide +kernel
theorem dX0_copyFrom_28 : decode cX0_copyFrom 28 = .ok (.aload_n 1, 1) := by decide +kernel
theorem dX0_copyFrom_29 : decode cX0_copyFrom 29 = .ok (.getfield 20, 3) := by decide +kernel
theorem dX0_copyFrom_32 : decode cX0_copyFrom 32 = .ok (.iconst 0, 1) := by decide +kernel
theorem dX0_copyFrom_33 : decode cX0_copyFrom 33 = .ok (.aload_n 0, 1) := by decide +kernel
theorem dX0_copyFrom_34 : decode cX0_copyFrom 34 = .ok (.getfield 20, 3) := by decide +kernel
theorem dX0_copyFrom_37 : decode cX0_copyFrom 37 = .ok (.iconst 0, 1) := by decide +kernel
theorem dX0_copyFrom_38 : decode cX0_copyFrom 38 = .ok (.iconst 3, 1) := by decide +kernel
theorem dX0_copyFrom_39 : decode cX0_copyFrom 39 = .ok (.invokestatic 46, 3) := by decide +kernel
theorem dX0_copyFrom_42 : decode cX0_copyFrom 42 = .ok (.aload_n 1, 1) := by decide +kernel
theorem dX0_copyFrom_43 : decode cX0_copyFrom 43 = .ok (.getfield 23, 3) := by decide +kernel
theorem dX0_copyFrom_46 : decode cX0_copyFrom 46 = .ok (.iconst 0, 1) := by decide +kernel
theorem dX0_copyFrom_47 : decode cX0_copyFrom 47 = .ok (.aload_n 0, 1) := by decide +kernel
theorem dX0_copyFrom_48 : decode cX0_copyFrom 48 = .ok (.getfield 23, 3) := by decide +kernel
theorem dX0_copyFrom_51 : decode cX0_copyFrom 51 = .ok (.iconst 0, 1) := by decide +kernel
theorem dX0_copyFrom_52 : decode cX0_copyFrom 52 = .ok (.bipush 9, 2) := by decide +kernel
theorem dX0_copyFrom_54 : decode cX0_copyFrom 54 = .ok (.invokestatic 46, 3) := by decide +kernel
theorem dX0_copyFrom_57 : decode cX0_copyFrom 57 = .ok (.aload_n 1, 1) := by decide +kernel
theorem dX0_copyFrom_58 : decode cX0_copyFrom 58 = .ok (.getfield 27, 3) := by decide +kernel
theorem dX0_copyFrom_61 : decode cX0_copyFrom 61 = .ok (.iconst 0, 1) := by decide +kernel
theorem dX0_copyFrom_62 : decode cX0_copyFrom 62 = .ok (.aload_n 0, 1) := by decide +kernel
theorem dX0_copyFrom_63 : decode cX0_copyFrom 63 = .ok (.getfield 27, 3) := by decide +kernel
theorem dX0_copyFrom_66 : decode cX0_copyFrom 66 = .ok (.iconst 0, 1) := by decide +kernel
theorem dX0_copyFrom_67 : decode cX0_copyFrom 67 = .ok (.iconst 5, 1) := by decide +kernel
theorem dX0_copyFrom_68 : decode cX0_copyFrom 68 = .ok (.invokestatic 46, 3) := by decide +kernel
theorem dX0_copyFrom_71 : decode cX0_copyFrom 71 = .ok (.aload_n 0, 1) := by decide +kernel
theorem dX0_copyFrom_72 : decode cX0_copyFrom 72 = .ok (.getfield 33, 3) := by decide +kernel
theorem dX0_copyFrom_75 : decode cX0_copyFrom 75 = .ok (.aload_n 1, 1) := by decide +kernel
theorem dX0_copyFrom_76 : decode cX0_copyFrom 76 = .ok (.getfield 33, 3) := by decide +kernel
theorem dX0_copyFrom_79 : decode cX0_copyFrom 79 = .ok (.invokevirtual 52, 3) := by decide +kernel
theorem dX0_copyFrom_82 : decode cX0_copyFrom 82 = .ok (.return_, 1) := by decide +kernel
set_option maxRecDepth 20000 in
theorem ggX0_begin_X0_bringIntoBox : GoodIn wsX0_begin wsX0_bringIntoBox := goodIn_r _ [8, 9, 10, 11, 12, 13, 14, 21, 22, 23, 24, 25, 26, 27, 28] (by decide +kernel) (by decide +kernel)
set_option maxRecDepth 20000 in
theorem gX0_begin_X0_bringIntoBox : GoodIn wsX0_begin (wsV RX0 56 RX0 yX0_bringIntoBox wsX0_bringIntoBox) := goodIn_app (goodIn_of _ (by decide +kernel)) ggX0_begin_X0_bringIntoBox
set_option maxRecDepth 20000 in
theorem ggX0_begin_X0_resetMatrix : GoodIn wsX0_begin wsX0_resetMatrix := goodIn_r _ [18, 19, 20, 21, 22, 23, 24, 25, 26, 27, 28] (by decide +kernel) (by decide +kernel)
set_option maxRecDepth 20000 in
theorem gX0_begin_X0_resetMatrix : GoodIn wsX0_begin (wsV RX0 62 RX0 yX0_resetMatrix wsX0_resetMatrix) := goodIn_app (goodIn_of _ (by decide +kernel)) ggX0_begin_X0_resetMatrix
theorem dX0_begin_0 : decode cX0_begin 0 = .ok (.aload_n 0, 1) := by decide +kernel
theorem dX0_begin_1 : decode cX0_begin 1 = .ok (.iconst 0, 1) := by decide +kernel
theorem dX0_begin_2 : decode cX0_begin 2 = .ok (.lconst 0, 1) := by decide +kernel
theorem dX0_begin_3 : decode cX0_begin 3 = .ok (.invokevirtual 56, 3) := by decide +kernel
theorem dX0_begin_6 : decode cX0_begin 6 = .ok (.pop, 1) := by decide +kernel
theorem dX0_begin_7 : decode cX0_begin 7 = .ok (.aload_n 0, 1) := by decide +kernel
theorem dX0_begin_8 : decode cX0_begin 8 = .ok (.iconst 1, 1) := by decide +kernel
theorem dX0_begin_9 : decode cX0_begin 9 = .ok (.ldc2_w 60, 3) := by decide +kernel
theorem dX0_begin_12 : decode cX0_begin 12 = .ok (.invokevirtual 56, 3) := by decide +kernel
theorem dX0_begin_15 : decode cX0_begin 15 = .ok (.pop, 1) := by decide +kernel
theorem dX0_begin_16 : decode cX0_begin 16 = .ok (.aload_n 0, 1) := by decide +kernel
theorem dX0_begin_17 : decode cX0_begin 17 = .ok (.iconst 2, 1) := by decide +kernel
theorem dX0_begin_18 : decode cX0_begin 18 = .ok (.lconst 0, 1) := by decide +kernel
theorem dX0_begin_19 : decode cX0_begin 19 = .ok (.invokevirtual 56, 3) := by decide +kernel
theorem dX0_begin_22 : decode cX0_begin 22 = .ok (.pop, 1) := by decide +kernel
theorem dX0_begin_23 : decode cX0_begin 23 = .ok (.aload_n 0, 1) := by decide +kernel
theorem dX0_begin_24 : decode cX0_begin 24 = .ok (.invokevirtual 62, 3) := by decide +kernel
theorem dX0_begin_27 : decode cX0_begin 27 = .ok (.iconst 0, 1) := by decide +kernel
theorem dX0_begin_28 : decode cX0_begin 28 = .ok (.istore_n 1, 1) := by decide +kernel
theorem dX0_begin_29 : decode cX0_begin 29 = .ok (.iload_n 1, 1) := by decide +kernel
theorem dX0_begin_30 : decode cX0_begin 30 = .ok (.iconst 5, 1) := by decide +kernel
theorem dX0_begin_31 : decode cX0_begin 31 = .ok (.if_icmp .ge 16, 3) := by decide +kernel
theorem dX0_begin_34 : decode cX0_begin 34 = .ok (.aload_n 0, 1) := by decide +kernel
theorem dX0_begin_35 : decode cX0_begin 35 = .ok (.getfield 27, 3) := by decide +kernel
theorem dX0_begin_38 : decode cX0_begin 38 = .ok (.iload_n 1, 1) := by decide +kernel
theorem dX0_begin_39 : decode cX0_begin 39 = .ok (.iconst 0, 1) := by decide +kernel
theorem dX0_begin_40 : decode cX0_begin 40 = .ok (.iastore, 1) := by decide +kernel
theorem dX0_begin_41 : decode cX0_begin 41 = .ok (.iinc 1 1, 3) := by decide +kernel
theorem dX0_begin_44 : decode cX0_begin 44 = .ok (.goto (-15), 3) := by decide +kernel
theorem dX0_begin_47 : decode cX0_begin 47 = .ok (.aload_n 0, 1) := by decide +kernel
theorem dX0_begin_48 : decode cX0_begin 48 = .ok (.getfield 33, 3) := by decide +kernel
theorem dX0_begin_51 : decode cX0_begin 51 = .ok (.iconst 0, 1) := by decide +kernel
theorem dX0_begin_52 : decode cX0_begin 52 = .ok (.putfield 65, 3) := by decide +kernel
theorem dX0_begin_55 : decode cX0_begin 55 = .ok (.return_, 1) := by decide +kernel
theorem dX0_resetMatrix_0 : decode cX0_resetMatrix 0 = .ok (.iconst 0, 1) := by decide +kernel
theorem dX0_resetMatrix_1 : decode cX0_resetMatrix 1 = .ok (.istore_n 1, 1) := by decide +kernel
theorem dX0_resetMatrix_2 : decode cX0_resetMatrix 2 = .ok (.iload_n 1, 1) := by decide +kernel
theorem dX0_resetMatrix_3 : decode cX0_resetMatrix 3 = .ok (.iconst 3, 1) := by decide +kernel
theorem dX0_resetMatrix_4 : decode cX0_resetMatrix 4 = .ok (.if_icmp .ge 44, 3) := by decide +kernel
theorem dX0_resetMatrix_7 : decode cX0_resetMatrix 7 = .ok (.iconst 0, 1) := by decide +kernel
theorem dX0_resetMatrix_8 : decode cX0_resetMatrix 8 = .ok (.istore_n 2, 1) := by decide +kernel
theorem dX0_resetMatrix_9 : decode cX0_resetMatrix 9 = .ok (.iload_n 2, 1) := by decide +kernel
theorem dX0_resetMatrix_10 : decode cX0_resetMatrix 10 = .ok (.iconst 3, 1) := by decide +kernel
theorem dX0_resetMatrix_11 : decode cX0_resetMatrix 11 = .ok (.if_icmp .ge 31, 3) := by decide +kernel
theorem dX0_resetMatrix_14 : decode cX0_resetMatrix 14 = .ok (.aload_n 0, 1) := by decide +kernel
theorem dX0_resetMatrix_15 : decode cX0_resetMatrix 15 = .ok (.getfield 23, 3) := by decide +kernel
theorem dX0_resetMatrix_18 : decode cX0_resetMatrix 18 = .ok (.iconst 3, 1) := by decide +kernel
theorem dX0_resetMatrix_19 : decode cX0_resetMatrix 19 = .ok (.iload_n 1, 1) := by decide +kernel
theorem dX0_resetMatrix_20 : decode cX0_resetMatrix 20 = .ok (.imul, 1) := by decide +kernel
theorem dX0_resetMatrix_21 : decode cX0_resetMatrix 21 = .ok (.iload_n 2, 1) := by decide +kernel
theorem dX0_resetMatrix_22 : decode cX0_resetMatrix 22 = .ok (.iadd, 1) := by decide +kernel
theorem dX0_resetMatrix_23 : decode cX0_resetMatrix 23 = .ok (.iload_n 1, 1) := by decide +kernel
theorem dX0_resetMatrix_24 : decode cX0_resetMatrix 24 = .ok (.iload_n 2, 1) := by decide +kernel
theorem dX0_resetMatrix_25 : decode cX0_resetMatrix 25 = .ok (.if_icmp .ne 9, 3) := by decide +kernel
theorem dX0_resetMatrix_28 : decode cX0_resetMatrix 28 = .ok (.ldc2_w 69, 3) := by decide +kernel
theorem dX0_resetMatrix_31 : decode cX0_resetMatrix 31 = .ok (.goto 4, 3) := by decide +kernel
theorem dX0_resetMatrix_34 : decode cX0_resetMatrix 34 = .ok (.lconst 0, 1) := by decide +kernel
theorem dX0_resetMatrix_35 : decode cX0_resetMatrix 35 = .ok (.lastore, 1) := by decide +kernel
theorem dX0_resetMatrix_36 : decode cX0_resetMatrix 36 = .ok (.iinc 2 1, 3) := by decide +kernel
theorem dX0_resetMatrix_39 : decode cX0_resetMatrix 39 = .ok (.goto (-30), 3) := by decide +kernel
theorem dX0_resetMatrix_42 : decode cX0_resetMatrix 42 = .ok (.iinc 1 1, 3) := by decide +kernel
theorem dX0_resetMatrix_45 : decode cX0_resetMatrix 45 = .ok (.goto (-43), 3) := by decide +kernel
theorem dX0_resetMatrix_48 : decode cX0_resetMatrix 48 = .ok (.return_, 1) := by decide +kernel
set_option maxRecDepth 20000 in
theorem ggX0_bringIntoBox_X5_bring : GoodIn wsX0_bringIntoBox wsX5_bring := goodIn_r _ [6] (by decide +kernel) (by decide +kernel)
set_option maxRecDepth 20000 in
theorem gX0_bringIntoBox_X5_bring_n71 : GoodIn wsX0_bringIntoBox (wsX5_bring) := ggX0_bringIntoBox_X5_bring
theorem dX0_bringIntoBox_0 : decode cX0_bringIntoBox 0 = .ok (.lload_n 2, 1) := by decide +kernel
theorem dX0_bringIntoBox_1 : decode cX0_bringIntoBox 1 = .ok (.aload_n 0, 1) := by decide +kernel
theorem dX0_bringIntoBox_2 : decode cX0_bringIntoBox 2 = .ok (.getfield 10, 3) := by decide +kernel
theorem dX0_bringIntoBox_5 : decode cX0_bringIntoBox 5 = .ok (.iload_n 1, 1) := by decide +kernel
theorem dX0_bringIntoBox_6 : decode cX0_bringIntoBox 6 = .ok (.iaload, 1) := by decide +kernel
theorem dX0_bringIntoBox_7 : decode cX0_bringIntoBox 7 = .ok (.i2l, 1) := by decide +kernel
theorem dX0_bringIntoBox_8 : decode cX0_bringIntoBox 8 = .ok (.aload_n 0, 1) := by decide +kernel
theorem dX0_bringIntoBox_9 : decode cX0_bringIntoBox 9 = .ok (.getfield 17, 3) := by decide +kernel
theorem dX0_bringIntoBox_12 : decode cX0_bringIntoBox 12 = .ok (.iload_n 1, 1) := by decide +kernel
theorem dX0_bringIntoBox_13 : decode cX0_bringIntoBox 13 = .ok (.iaload, 1) := by decide +kernel
theorem dX0_bringIntoBox_14 : decode cX0_bringIntoBox 14 = .ok (.i2l, 1) := by decide +kernel
theorem dX0_bringIntoBox_15 : decode cX0_bringIntoBox 15 = .ok (.invokestatic 71, 3) := by decide +kernel
theorem dX0_bringIntoBox_18 : decode cX0_bringIntoBox 18 = .ok (.lstore 4, 2) := by decide +kernel
theorem dX0_bringIntoBox_20 : decode cX0_bringIntoBox 20 = .ok (.aload_n 0, 1) := by decide +kernel
theorem dX0_bringIntoBox_21 : decode cX0_bringIntoBox 21 = .ok (.getfield 20, 3) := by decide +kernel
theorem dX0_bringIntoBox_24 : decode cX0_bringIntoBox 24 = .ok (.iload_n 1, 1) := by decide +kernel
theorem dX0_bringIntoBox_25 : decode cX0_bringIntoBox 25 = .ok (.lload 4, 2) := by decide +kernel
theorem dX0_bringIntoBox_27 : decode cX0_bringIntoBox 27 = .ok (.l2i, 1) := by decide +kernel
theorem dX0_bringIntoBox_28 : decode cX0_bringIntoBox 28 = .ok (.iastore, 1) := by decide +kernel
theorem dX0_bringIntoBox_29 : decode cX0_bringIntoBox 29 = .ok (.lload 4, 2) := by decide +kernel
theorem dX0_bringIntoBox_31 : decode cX0_bringIntoBox 31 = .ok (.lload_n 2, 1) := by decide +kernel
theorem dX0_bringIntoBox_32 : decode cX0_bringIntoBox 32 = .ok (.lcmp, 1) := by decide +kernel
theorem dX0_bringIntoBox_33 : decode cX0_bringIntoBox 33 = .ok (.ifCond .eq 7, 3) := by decide +kernel
theorem dX0_bringIntoBox_36 : decode cX0_bringIntoBox 36 = .ok (.iconst 1, 1) := by decide +kernel
theorem dX0_bringIntoBox_37 : decode cX0_bringIntoBox 37 = .ok (.goto 4, 3) := by decide +kernel
theorem dX0_bringIntoBox_40 : decode cX0_bringIntoBox 40 = .ok (.iconst 0, 1) := by decide +kernel
theorem dX0_bringIntoBox_41 : decode cX0_bringIntoBox 41 = .ok (.ireturn, 1) := by decide +kernel
set_option maxRecDepth 20000 in
theorem ggX0_take_X0_weightedSum : GoodIn wsX0_take wsX0_weightedSum := goodIn_r _ [14, 15, 74, 75, 76, 77, 78, 79, 80, 81] (by decide +kernel) (by decide +kernel)
set_option maxRecDepth 20000 in
theorem gX0_take_X0_weightedSum : GoodIn wsX0_take (wsV RX0 75 RX0 yX0_weightedSum wsX0_weightedSum) := goodIn_app (goodIn_of _ (by decide +kernel)) ggX0_take_X0_weightedSum
set_option maxRecDepth 20000 in
theorem ggX0_take_X4_add : GoodIn wsX0_take wsX4_add := goodIn_r _ [19, 20, 21, 22, 23, 24, 25, 26, 27, 28, 6, 29, 82, 83, 84] (by decide +kernel) (by decide +kernel)
set_option maxRecDepth 20000 in
theorem gX0_take_X4_add_n79 : GoodIn wsX0_take (wsX4_add) := ggX0_take_X4_add
set_option maxRecDepth 20000 in
theorem ggX0_take_X0_spread : GoodIn wsX0_take wsX0_spread := goodIn_r _ [33, 34, 8, 35, 36, 6, 37, 74, 75, 76, 77, 78, 79, 80, 81] (by decide +kernel) (by decide +kernel)
set_option maxRecDepth 20000 in
theorem gX0_take_X0_spread : GoodIn wsX0_take (wsV RX0 89 RX0 yX0_spread wsX0_spread) := goodIn_app (goodIn_of _ (by decide +kernel)) ggX0_take_X0_spread
set_option maxRecDepth 20000 in
theorem ggX0_take_X0_findGains : GoodIn wsX0_take wsX0_findGains := goodIn_r _ [41, 42, 1, 34, 43, 44, 45, 46, 47, 48, 49, 50, 51, 52, 53, 74, 75, 76, 77, 78, 79, 80, 81] (by decide +kernel) (by decide +kernel)
set_option maxRecDepth 20000 in
theorem gX0_take_X0_findGains : GoodIn wsX0_take (wsV RX0 92 RX0 yX0_findGains wsX0_findGains) := goodIn_app (goodIn_of _ (by decide +kernel)) ggX0_take_X0_findGains
set_option maxRecDepth 20000 in
theorem ggX0_take_X0_moveParameters : GoodIn wsX0_take wsX0_moveParameters := goodIn_r _ [57, 15, 42, 1, 2, 45, 46, 47, 48, 49, 50, 51, 58, 59, 60, 13, 61, 62, 63, 52, 53, 74, 75, 76, 77, 78, 79, 80, 81] (by decide +kernel) (by decide +kernel)
set_option maxRecDepth 20000 in
theorem gX0_take_X0_moveParameters : GoodIn wsX0_take (wsV RX0 96 RX0 yX0_moveParameters wsX0_moveParameters) := goodIn_app (goodIn_of _ (by decide +kernel)) ggX0_take_X0_moveParameters
set_option maxRecDepth 20000 in
theorem ggX0_take_X0_updateMatrix : GoodIn wsX0_take wsX0_updateMatrix := goodIn_r _ [67, 8, 42, 34, 1, 68, 69, 45, 46, 47, 48, 49, 50, 51, 52, 53, 74, 75, 76, 77, 78, 79, 80, 81] (by decide +kernel) (by decide +kernel)
set_option maxRecDepth 20000 in
theorem gX0_take_X0_updateMatrix : GoodIn wsX0_take (wsV RX0 99 RX0 yX0_updateMatrix wsX0_updateMatrix) := goodIn_app (goodIn_of _ (by decide +kernel)) ggX0_take_X0_updateMatrix
set_option maxRecDepth 20000 in
theorem ggX0_take_X0_resetMatrix : GoodIn wsX0_take wsX0_resetMatrix := goodIn_r _ [73, 8, 44, 74, 75, 76, 77, 78, 79, 80, 81] (by decide +kernel) (by decide +kernel)
set_option maxRecDepth 20000 in
theorem gX0_take_X0_resetMatrix : GoodIn wsX0_take (wsV RX0 62 RX0 yX0_resetMatrix wsX0_resetMatrix) := goodIn_app (goodIn_of _ (by decide +kernel)) ggX0_take_X0_resetMatrix
theorem dX0_take_0 : decode cX0_take 0 = .ok (.ldc2_w 60, 3) := by decide +kernel
theorem dX0_take_3 : decode cX0_take 3 = .ok (.iload 4, 2) := by decide +kernel
theorem dX0_take_5 : decode cX0_take 5 = .ok (.i2l, 1) := by decide +kernel
theorem dX0_take_6 : decode cX0_take 6 = .ok (.lmul, 1) := by decide +kernel
theorem dX0_take_7 : decode cX0_take 7 = .ok (.aload_n 0, 1) := by decide +kernel
theorem dX0_take_8 : decode cX0_take 8 = .ok (.iload_n 2, 1) := by decide +kernel
theorem dX0_take_9 : decode cX0_take 9 = .ok (.iload_n 3, 1) := by decide +kernel
theorem dX0_take_10 : decode cX0_take 10 = .ok (.invokevirtual 75, 3) := by decide +kernel
theorem dX0_take_13 : decode cX0_take 13 = .ok (.lsub, 1) := by decide +kernel
theorem dX0_take_14 : decode cX0_take 14 = .ok (.lstore 5, 2) := by decide +kernel
theorem dX0_take_16 : decode cX0_take 16 = .ok (.aload_n 0, 1) := by decide +kernel
theorem dX0_take_17 : decode cX0_take 17 = .ok (.getfield 27, 3) := by decide +kernel
theorem dX0_take_20 : decode cX0_take 20 = .ok (.iconst 0, 1) := by decide +kernel
theorem dX0_take_21 : decode cX0_take 21 = .ok (.dup2, 1) := by decide +kernel
theorem dX0_take_22 : decode cX0_take 22 = .ok (.iaload, 1) := by decide +kernel
theorem dX0_take_23 : decode cX0_take 23 = .ok (.iconst 1, 1) := by decide +kernel
theorem dX0_take_24 : decode cX0_take 24 = .ok (.iadd, 1) := by decide +kernel
theorem dX0_take_25 : decode cX0_take 25 = .ok (.iastore, 1) := by decide +kernel
theorem dX0_take_26 : decode cX0_take 26 = .ok (.aload_n 0, 1) := by decide +kernel
theorem dX0_take_27 : decode cX0_take 27 = .ok (.getfield 33, 3) := by decide +kernel
theorem dX0_take_30 : decode cX0_take 30 = .ok (.iload_n 2, 1) := by decide +kernel
theorem dX0_take_31 : decode cX0_take 31 = .ok (.iload_n 3, 1) := by decide +kernel
theorem dX0_take_32 : decode cX0_take 32 = .ok (.invokevirtual 79, 3) := by decide +kernel
theorem dX0_take_35 : decode cX0_take 35 = .ok (.lload 5, 2) := by decide +kernel
theorem dX0_take_37 : decode cX0_take 37 = .ok (.invokestatic 83, 3) := by decide +kernel
theorem dX0_take_40 : decode cX0_take 40 = .ok (.ldc2_w 60, 3) := by decide +kernel
theorem dX0_take_43 : decode cX0_take 43 = .ok (.aload_n 1, 1) := by decide +kernel
theorem dX0_take_44 : decode cX0_take 44 = .ok (.iconst 1, 1) := by decide +kernel
theorem dX0_take_45 : decode cX0_take 45 = .ok (.iaload, 1) := by decide +kernel
theorem dX0_take_46 : decode cX0_take 46 = .ok (.i2l, 1) := by decide +kernel
theorem dX0_take_47 : decode cX0_take 47 = .ok (.lmul, 1) := by decide +kernel
theorem dX0_take_48 : decode cX0_take 48 = .ok (.lcmp, 1) := by decide +kernel
theorem dX0_take_49 : decode cX0_take 49 = .ok (.ifCond .gt 16, 3) := by decide +kernel
theorem dX0_take_52 : decode cX0_take 52 = .ok (.aload_n 0, 1) := by decide +kernel
theorem dX0_take_53 : decode cX0_take 53 = .ok (.getfield 27, 3) := by decide +kernel
theorem dX0_take_56 : decode cX0_take 56 = .ok (.iconst 1, 1) := by decide +kernel
theorem dX0_take_57 : decode cX0_take 57 = .ok (.dup2, 1) := by decide +kernel
theorem dX0_take_58 : decode cX0_take 58 = .ok (.iaload, 1) := by decide +kernel
theorem dX0_take_59 : decode cX0_take 59 = .ok (.iconst 1, 1) := by decide +kernel
theorem dX0_take_60 : decode cX0_take 60 = .ok (.iadd, 1) := by decide +kernel
theorem dX0_take_61 : decode cX0_take 61 = .ok (.iastore, 1) := by decide +kernel
theorem dX0_take_62 : decode cX0_take 62 = .ok (.lload 5, 2) := by decide +kernel
theorem dX0_take_64 : decode cX0_take 64 = .ok (.lreturn, 1) := by decide +kernel
theorem dX0_take_65 : decode cX0_take 65 = .ok (.aload_n 0, 1) := by decide +kernel
theorem dX0_take_66 : decode cX0_take 66 = .ok (.iload_n 2, 1) := by decide +kernel
theorem dX0_take_67 : decode cX0_take 67 = .ok (.iload_n 3, 1) := by decide +kernel
theorem dX0_take_68 : decode cX0_take 68 = .ok (.invokevirtual 89, 3) := by decide +kernel
theorem dX0_take_71 : decode cX0_take 71 = .ok (.lstore 7, 2) := by decide +kernel
theorem dX0_take_73 : decode cX0_take 73 = .ok (.lload 7, 2) := by decide +kernel
theorem dX0_take_75 : decode cX0_take 75 = .ok (.ldc2_w 60, 3) := by decide +kernel
theorem dX0_take_78 : decode cX0_take 78 = .ok (.aload_n 1, 1) := by decide +kernel
theorem dX0_take_79 : decode cX0_take 79 = .ok (.iconst 2, 1) := by decide +kernel
theorem dX0_take_80 : decode cX0_take 80 = .ok (.iaload, 1) := by decide +kernel
theorem dX0_take_81 : decode cX0_take 81 = .ok (.i2l, 1) := by decide +kernel
theorem dX0_take_82 : decode cX0_take 82 = .ok (.lmul, 1) := by decide +kernel
theorem dX0_take_83 : decode cX0_take 83 = .ok (.lcmp, 1) := by decide +kernel
theorem dX0_take_84 : decode cX0_take 84 = .ok (.ifCond .ge 7, 3) := by decide +kernel
theorem dX0_take_87 : decode cX0_take 87 = .ok (.iconst 1, 1) := by decide +kernel
theorem dX0_take_88 : decode cX0_take 88 = .ok (.goto 4, 3) := by decide +kernel
theorem dX0_take_91 : decode cX0_take 91 = .ok (.iconst 0, 1) := by decide +kernel
theorem dX0_take_92 : decode cX0_take 92 = .ok (.istore 9, 2) := by decide +kernel
theorem dX0_take_94 : decode cX0_take 94 = .ok (.iload 9, 2) := by decide +kernel
theorem dX0_take_96 : decode cX0_take 96 = .ok (.ifCond .eq 9, 3) := by decide +kernel
theorem dX0_take_99 : decode cX0_take 99 = .ok (.ldc2_w 60, 3) := by decide +kernel
theorem dX0_take_102 : decode cX0_take 102 = .ok (.goto 7, 3) := by decide +kernel
theorem dX0_take_105 : decode cX0_take 105 = .ok (.aload_n 1, 1) := by decide +kernel
theorem dX0_take_106 : decode cX0_take 106 = .ok (.iconst 0, 1) := by decide +kernel
theorem dX0_take_107 : decode cX0_take 107 = .ok (.iaload, 1) := by decide +kernel
theorem dX0_take_108 : decode cX0_take 108 = .ok (.i2l, 1) := by decide +kernel
theorem dX0_take_109 : decode cX0_take 109 = .ok (.lstore 10, 2) := by decide +kernel
theorem dX0_take_111 : decode cX0_take 111 = .ok (.aload_n 0, 1) := by decide +kernel
theorem dX0_take_112 : decode cX0_take 112 = .ok (.getfield 27, 3) := by decide +kernel
theorem dX0_take_115 : decode cX0_take 115 = .ok (.iconst 4, 1) := by decide +kernel
theorem dX0_take_116 : decode cX0_take 116 = .ok (.dup2, 1) := by decide +kernel
theorem dX0_take_117 : decode cX0_take 117 = .ok (.iaload, 1) := by decide +kernel
theorem dX0_take_118 : decode cX0_take 118 = .ok (.iload 9, 2) := by decide +kernel
theorem dX0_take_120 : decode cX0_take 120 = .ok (.ifCond .eq 7, 3) := by decide +kernel
theorem dX0_take_123 : decode cX0_take 123 = .ok (.iconst 1, 1) := by decide +kernel
theorem dX0_take_124 : decode cX0_take 124 = .ok (.goto 4, 3) := by decide +kernel
theorem dX0_take_127 : decode cX0_take 127 = .ok (.iconst 0, 1) := by decide +kernel
theorem dX0_take_128 : decode cX0_take 128 = .ok (.iadd, 1) := by decide +kernel
theorem dX0_take_129 : decode cX0_take 129 = .ok (.iastore, 1) := by decide +kernel
theorem dX0_take_130 : decode cX0_take 130 = .ok (.aload_n 0, 1) := by decide +kernel
theorem dX0_take_131 : decode cX0_take 131 = .ok (.lload 10, 2) := by decide +kernel
theorem dX0_take_133 : decode cX0_take 133 = .ok (.lload 7, 2) := by decide +kernel
theorem dX0_take_135 : decode cX0_take 135 = .ok (.ladd, 1) := by decide +kernel
theorem dX0_take_136 : decode cX0_take 136 = .ok (.invokevirtual 92, 3) := by decide +kernel
theorem dX0_take_139 : decode cX0_take 139 = .ok (.aload_n 0, 1) := by decide +kernel
theorem dX0_take_140 : decode cX0_take 140 = .ok (.lload 5, 2) := by decide +kernel
theorem dX0_take_142 : decode cX0_take 142 = .ok (.invokevirtual 96, 3) := by decide +kernel
theorem dX0_take_145 : decode cX0_take 145 = .ok (.aload_n 0, 1) := by decide +kernel
theorem dX0_take_146 : decode cX0_take 146 = .ok (.lload 10, 2) := by decide +kernel
theorem dX0_take_148 : decode cX0_take 148 = .ok (.invokevirtual 99, 3) := by decide +kernel
theorem dX0_take_151 : decode cX0_take 151 = .ok (.aload_n 0, 1) := by decide +kernel
theorem dX0_take_152 : decode cX0_take 152 = .ok (.getfield 23, 3) := by decide +kernel
theorem dX0_take_155 : decode cX0_take 155 = .ok (.iconst 0, 1) := by decide +kernel
theorem dX0_take_156 : decode cX0_take 156 = .ok (.laload, 1) := by decide +kernel
theorem dX0_take_157 : decode cX0_take 157 = .ok (.aload_n 0, 1) := by decide +kernel
theorem dX0_take_158 : decode cX0_take 158 = .ok (.getfield 23, 3) := by decide +kernel
theorem dX0_take_161 : decode cX0_take 161 = .ok (.iconst 4, 1) := by decide +kernel
theorem dX0_take_162 : decode cX0_take 162 = .ok (.laload, 1) := by decide +kernel
theorem dX0_take_163 : decode cX0_take 163 = .ok (.ladd, 1) := by decide +kernel
theorem dX0_take_164 : decode cX0_take 164 = .ok (.aload_n 0, 1) := by decide +kernel
theorem dX0_take_165 : decode cX0_take 165 = .ok (.getfield 23, 3) := by decide +kernel
theorem dX0_take_168 : decode cX0_take 168 = .ok (.bipush 8, 2) := by decide +kernel
theorem dX0_take_170 : decode cX0_take 170 = .ok (.laload, 1) := by decide +kernel
theorem dX0_take_171 : decode cX0_take 171 = .ok (.ladd, 1) := by decide +kernel
theorem dX0_take_172 : decode cX0_take 172 = .ok (.ldc2_w 102, 3) := by decide +kernel
theorem dX0_take_175 : decode cX0_take 175 = .ok (.lcmp, 1) := by decide +kernel
theorem dX0_take_176 : decode cX0_take 176 = .ok (.ifCond .le 17, 3) := by decide +kernel
theorem dX0_take_179 : decode cX0_take 179 = .ok (.aload_n 0, 1) := by decide +kernel
theorem dX0_take_180 : decode cX0_take 180 = .ok (.invokevirtual 62, 3) := by decide +kernel
theorem dX0_take_183 : decode cX0_take 183 = .ok (.aload_n 0, 1) := by decide +kernel
theorem dX0_take_184 : decode cX0_take 184 = .ok (.getfield 27, 3) := by decide +kernel
theorem dX0_take_187 : decode cX0_take 187 = .ok (.iconst 2, 1) := by decide +kernel
theorem dX0_take_188 : decode cX0_take 188 = .ok (.dup2, 1) := by decide +kernel
theorem dX0_take_189 : decode cX0_take 189 = .ok (.iaload, 1) := by decide +kernel
theorem dX0_take_190 : decode cX0_take 190 = .ok (.iconst 1, 1) := by decide +kernel
theorem dX0_take_191 : decode cX0_take 191 = .ok (.iadd, 1) := by decide +kernel
theorem dX0_take_192 : decode cX0_take 192 = .ok (.iastore, 1) := by decide +kernel
theorem dX0_take_193 : decode cX0_take 193 = .ok (.lload 5, 2) := by decide +kernel
theorem dX0_take_195 : decode cX0_take 195 = .ok (.lreturn, 1) := by decide +kernel
set_option maxRecDepth 20000 in
theorem ggX0_findGains_X5_divideDown : GoodIn wsX0_findGains wsX5_divideDown := goodIn_r _ [8, 9, 10, 11, 12] (by decide +kernel) (by decide +kernel)
set_option maxRecDepth 20000 in
theorem gX0_findGains_X5_divideDown_n104 : GoodIn wsX0_findGains (wsX5_divideDown) := ggX0_findGains_X5_divideDown
set_option maxRecDepth 20000 in
theorem ggX0_findGains_X5_bring : GoodIn wsX0_findGains wsX5_bring := goodIn_r _ [14] (by decide +kernel) (by decide +kernel)
set_option maxRecDepth 20000 in
theorem gX0_findGains_X5_bring_n71 : GoodIn wsX0_findGains (wsX5_bring) := ggX0_findGains_X5_bring
theorem dX0_findGains_0 : decode cX0_findGains 0 = .ok (.iconst 0, 1) := by decide +kernel
theorem dX0_findGains_1 : decode cX0_findGains 1 = .ok (.istore_n 3, 1) := by decide +kernel
theorem dX0_findGains_2 : decode cX0_findGains 2 = .ok (.iload_n 3, 1) := by decide +kernel
theorem dX0_findGains_3 : decode cX0_findGains 3 = .ok (.iconst 3, 1) := by decide +kernel
theorem dX0_findGains_4 : decode cX0_findGains 4 = .ok (.if_icmp .ge 38, 3) := by decide +kernel
theorem dX0_findGains_7 : decode cX0_findGains 7 = .ok (.aload_n 0, 1) := by decide +kernel
theorem dX0_findGains_8 : decode cX0_findGains 8 = .ok (.getfield 40, 3) := by decide +kernel
theorem dX0_findGains_11 : decode cX0_findGains 11 = .ok (.iload_n 3, 1) := by decide +kernel
theorem dX0_findGains_12 : decode cX0_findGains 12 = .ok (.ldc2_w 60, 3) := by decide +kernel
theorem dX0_findGains_15 : decode cX0_findGains 15 = .ok (.aload_n 0, 1) := by decide +kernel
theorem dX0_findGains_16 : decode cX0_findGains 16 = .ok (.getfield 37, 3) := by decide +kernel
theorem dX0_findGains_19 : decode cX0_findGains 19 = .ok (.iload_n 3, 1) := by decide +kernel
theorem dX0_findGains_20 : decode cX0_findGains 20 = .ok (.laload, 1) := by decide +kernel
theorem dX0_findGains_21 : decode cX0_findGains 21 = .ok (.lmul, 1) := by decide +kernel
theorem dX0_findGains_22 : decode cX0_findGains 22 = .ok (.lload_n 1, 1) := by decide +kernel
theorem dX0_findGains_23 : decode cX0_findGains 23 = .ok (.invokestatic 104, 3) := by decide +kernel
theorem dX0_findGains_26 : decode cX0_findGains 26 = .ok (.ldc2_w 108, 3) := by decide +kernel
theorem dX0_findGains_29 : decode cX0_findGains 29 = .ok (.ldc2_w 69, 3) := by decide +kernel
theorem dX0_findGains_32 : decode cX0_findGains 32 = .ok (.invokestatic 71, 3) := by decide +kernel
theorem dX0_findGains_35 : decode cX0_findGains 35 = .ok (.lastore, 1) := by decide +kernel
theorem dX0_findGains_36 : decode cX0_findGains 36 = .ok (.iinc 3 1, 3) := by decide +kernel
theorem dX0_findGains_39 : decode cX0_findGains 39 = .ok (.goto (-37), 3) := by decide +kernel
theorem dX0_findGains_42 : decode cX0_findGains 42 = .ok (.return_, 1) := by decide +kernel
set_option maxRecDepth 20000 in
theorem ggX0_moveParameters_X5_divideDown : GoodIn wsX0_moveParameters wsX5_divideDown := goodIn_r _ [7, 8, 9, 10, 11] (by decide +kernel) (by decide +kernel)
set_option maxRecDepth 20000 in
theorem gX0_moveParameters_X5_divideDown_n104 : GoodIn wsX0_moveParameters (wsX5_divideDown) := ggX0_moveParameters_X5_divideDown
set_option maxRecDepth 20000 in
theorem ggX0_moveParameters_X0_bringIntoBox : GoodIn wsX0_moveParameters wsX0_bringIntoBox := goodIn_r _ [16, 17, 18, 1, 19, 6, 20, 21, 22, 23, 24, 25, 26, 27, 28] (by decide +kernel) (by decide +kernel)
set_option maxRecDepth 20000 in
theorem gX0_moveParameters_X0_bringIntoBox : GoodIn wsX0_moveParameters (wsV RX0 56 RX0 yX0_bringIntoBox wsX0_bringIntoBox) := goodIn_app (goodIn_of _ (by decide +kernel)) ggX0_moveParameters_X0_bringIntoBox
theorem dX0_moveParameters_0 : decode cX0_moveParameters 0 = .ok (.iconst 0, 1) := by decide +kernel
theorem dX0_moveParameters_1 : decode cX0_moveParameters 1 = .ok (.istore_n 3, 1) := by decide +kernel
theorem dX0_moveParameters_2 : decode cX0_moveParameters 2 = .ok (.iconst 0, 1) := by decide +kernel
theorem dX0_moveParameters_3 : decode cX0_moveParameters 3 = .ok (.istore 4, 2) := by decide +kernel
theorem dX0_moveParameters_5 : decode cX0_moveParameters 5 = .ok (.iload 4, 2) := by decide +kernel
theorem dX0_moveParameters_7 : decode cX0_moveParameters 7 = .ok (.iconst 3, 1) := by decide +kernel
theorem dX0_moveParameters_8 : decode cX0_moveParameters 8 = .ok (.if_icmp .ge 56, 3) := by decide +kernel
theorem dX0_moveParameters_11 : decode cX0_moveParameters 11 = .ok (.aload_n 0, 1) := by decide +kernel
theorem dX0_moveParameters_12 : decode cX0_moveParameters 12 = .ok (.getfield 20, 3) := by decide +kernel
theorem dX0_moveParameters_15 : decode cX0_moveParameters 15 = .ok (.iload 4, 2) := by decide +kernel
theorem dX0_moveParameters_17 : decode cX0_moveParameters 17 = .ok (.iaload, 1) := by decide +kernel
theorem dX0_moveParameters_18 : decode cX0_moveParameters 18 = .ok (.i2l, 1) := by decide +kernel
theorem dX0_moveParameters_19 : decode cX0_moveParameters 19 = .ok (.aload_n 0, 1) := by decide +kernel
theorem dX0_moveParameters_20 : decode cX0_moveParameters 20 = .ok (.getfield 40, 3) := by decide +kernel
theorem dX0_moveParameters_23 : decode cX0_moveParameters 23 = .ok (.iload 4, 2) := by decide +kernel
theorem dX0_moveParameters_25 : decode cX0_moveParameters 25 = .ok (.laload, 1) := by decide +kernel
theorem dX0_moveParameters_26 : decode cX0_moveParameters 26 = .ok (.lload_n 1, 1) := by decide +kernel
theorem dX0_moveParameters_27 : decode cX0_moveParameters 27 = .ok (.lmul, 1) := by decide +kernel
theorem dX0_moveParameters_28 : decode cX0_moveParameters 28 = .ok (.ldc2_w 60, 3) := by decide +kernel
theorem dX0_moveParameters_31 : decode cX0_moveParameters 31 = .ok (.invokestatic 104, 3) := by decide +kernel
theorem dX0_moveParameters_34 : decode cX0_moveParameters 34 = .ok (.ladd, 1) := by decide +kernel
theorem dX0_moveParameters_35 : decode cX0_moveParameters 35 = .ok (.lstore 5, 2) := by decide +kernel
theorem dX0_moveParameters_37 : decode cX0_moveParameters 37 = .ok (.aload_n 0, 1) := by decide +kernel
theorem dX0_moveParameters_38 : decode cX0_moveParameters 38 = .ok (.iload 4, 2) := by decide +kernel
theorem dX0_moveParameters_40 : decode cX0_moveParameters 40 = .ok (.lload 5, 2) := by decide +kernel
theorem dX0_moveParameters_42 : decode cX0_moveParameters 42 = .ok (.invokevirtual 56, 3) := by decide +kernel
theorem dX0_moveParameters_45 : decode cX0_moveParameters 45 = .ok (.ifCond .ne 7, 3) := by decide +kernel
theorem dX0_moveParameters_48 : decode cX0_moveParameters 48 = .ok (.iload_n 3, 1) := by decide +kernel
theorem dX0_moveParameters_49 : decode cX0_moveParameters 49 = .ok (.ifCond .eq 7, 3) := by decide +kernel
theorem dX0_moveParameters_52 : decode cX0_moveParameters 52 = .ok (.iconst 1, 1) := by decide +kernel
theorem dX0_moveParameters_53 : decode cX0_moveParameters 53 = .ok (.goto 4, 3) := by decide +kernel
theorem dX0_moveParameters_56 : decode cX0_moveParameters 56 = .ok (.iconst 0, 1) := by decide +kernel
theorem dX0_moveParameters_57 : decode cX0_moveParameters 57 = .ok (.istore_n 3, 1) := by decide +kernel
theorem dX0_moveParameters_58 : decode cX0_moveParameters 58 = .ok (.iinc 4 1, 3) := by decide +kernel
theorem dX0_moveParameters_61 : decode cX0_moveParameters 61 = .ok (.goto (-56), 3) := by decide +kernel
theorem dX0_moveParameters_64 : decode cX0_moveParameters 64 = .ok (.iload_n 3, 1) := by decide +kernel
theorem dX0_moveParameters_65 : decode cX0_moveParameters 65 = .ok (.ifCond .eq 13, 3) := by decide +kernel
theorem dX0_moveParameters_68 : decode cX0_moveParameters 68 = .ok (.aload_n 0, 1) := by decide +kernel
theorem dX0_moveParameters_69 : decode cX0_moveParameters 69 = .ok (.getfield 27, 3) := by decide +kernel
theorem dX0_moveParameters_72 : decode cX0_moveParameters 72 = .ok (.iconst 3, 1) := by decide +kernel
theorem dX0_moveParameters_73 : decode cX0_moveParameters 73 = .ok (.dup2, 1) := by decide +kernel
theorem dX0_moveParameters_74 : decode cX0_moveParameters 74 = .ok (.iaload, 1) := by decide +kernel
theorem dX0_moveParameters_75 : decode cX0_moveParameters 75 = .ok (.iconst 1, 1) := by decide +kernel
theorem dX0_moveParameters_76 : decode cX0_moveParameters 76 = .ok (.iadd, 1) := by decide +kernel
theorem dX0_moveParameters_77 : decode cX0_moveParameters 77 = .ok (.iastore, 1) := by decide +kernel
theorem dX0_moveParameters_78 : decode cX0_moveParameters 78 = .ok (.return_, 1) := by decide +kernel
set_option maxRecDepth 20000 in
theorem ggX0_updateMatrix_X5_divideDown : GoodIn wsX0_updateMatrix wsX5_divideDown := goodIn_r _ [9, 10, 11, 12, 13] (by decide +kernel) (by decide +kernel)
set_option maxRecDepth 20000 in
theorem gX0_updateMatrix_X5_divideDown_n104 : GoodIn wsX0_updateMatrix (wsX5_divideDown) := ggX0_updateMatrix_X5_divideDown
set_option maxRecDepth 20000 in
theorem ggX0_updateMatrix_X5_bring : GoodIn wsX0_updateMatrix wsX5_bring := goodIn_r _ [15] (by decide +kernel) (by decide +kernel)
set_option maxRecDepth 20000 in
theorem gX0_updateMatrix_X5_bring_n71 : GoodIn wsX0_updateMatrix (wsX5_bring) := ggX0_updateMatrix_X5_bring
theorem dX0_updateMatrix_0 : decode cX0_updateMatrix 0 = .ok (.iconst 0, 1) := by decide +kernel
theorem dX0_updateMatrix_1 : decode cX0_updateMatrix 1 = .ok (.istore_n 3, 1) := by decide +kernel
theorem dX0_updateMatrix_2 : decode cX0_updateMatrix 2 = .ok (.iload_n 3, 1) := by decide +kernel
theorem dX0_updateMatrix_3 : decode cX0_updateMatrix 3 = .ok (.iconst 3, 1) := by decide +kernel
theorem dX0_updateMatrix_4 : decode cX0_updateMatrix 4 = .ok (.if_icmp .ge 119, 3) := by decide +kernel
theorem dX0_updateMatrix_7 : decode cX0_updateMatrix 7 = .ok (.iload_n 3, 1) := by decide +kernel
theorem dX0_updateMatrix_8 : decode cX0_updateMatrix 8 = .ok (.istore 4, 2) := by decide +kernel
theorem dX0_updateMatrix_10 : decode cX0_updateMatrix 10 = .ok (.iload 4, 2) := by decide +kernel
theorem dX0_updateMatrix_12 : decode cX0_updateMatrix 12 = .ok (.iconst 3, 1) := by decide +kernel
theorem dX0_updateMatrix_13 : decode cX0_updateMatrix 13 = .ok (.if_icmp .ge 104, 3) := by decide +kernel
theorem dX0_updateMatrix_16 : decode cX0_updateMatrix 16 = .ok (.aload_n 0, 1) := by decide +kernel
theorem dX0_updateMatrix_17 : decode cX0_updateMatrix 17 = .ok (.getfield 23, 3) := by decide +kernel
theorem dX0_updateMatrix_20 : decode cX0_updateMatrix 20 = .ok (.iconst 3, 1) := by decide +kernel
theorem dX0_updateMatrix_21 : decode cX0_updateMatrix 21 = .ok (.iload_n 3, 1) := by decide +kernel
theorem dX0_updateMatrix_22 : decode cX0_updateMatrix 22 = .ok (.imul, 1) := by decide +kernel
theorem dX0_updateMatrix_23 : decode cX0_updateMatrix 23 = .ok (.iload 4, 2) := by decide +kernel
theorem dX0_updateMatrix_25 : decode cX0_updateMatrix 25 = .ok (.iadd, 1) := by decide +kernel
theorem dX0_updateMatrix_26 : decode cX0_updateMatrix 26 = .ok (.laload, 1) := by decide +kernel
theorem dX0_updateMatrix_27 : decode cX0_updateMatrix 27 = .ok (.aload_n 0, 1) := by decide +kernel
theorem dX0_updateMatrix_28 : decode cX0_updateMatrix 28 = .ok (.getfield 40, 3) := by decide +kernel
theorem dX0_updateMatrix_31 : decode cX0_updateMatrix 31 = .ok (.iload_n 3, 1) := by decide +kernel
theorem dX0_updateMatrix_32 : decode cX0_updateMatrix 32 = .ok (.laload, 1) := by decide +kernel
theorem dX0_updateMatrix_33 : decode cX0_updateMatrix 33 = .ok (.aload_n 0, 1) := by decide +kernel
theorem dX0_updateMatrix_34 : decode cX0_updateMatrix 34 = .ok (.getfield 37, 3) := by decide +kernel
theorem dX0_updateMatrix_37 : decode cX0_updateMatrix 37 = .ok (.iload 4, 2) := by decide +kernel
theorem dX0_updateMatrix_39 : decode cX0_updateMatrix 39 = .ok (.laload, 1) := by decide +kernel
theorem dX0_updateMatrix_40 : decode cX0_updateMatrix 40 = .ok (.lmul, 1) := by decide +kernel
theorem dX0_updateMatrix_41 : decode cX0_updateMatrix 41 = .ok (.ldc2_w 60, 3) := by decide +kernel
theorem dX0_updateMatrix_44 : decode cX0_updateMatrix 44 = .ok (.invokestatic 104, 3) := by decide +kernel
theorem dX0_updateMatrix_47 : decode cX0_updateMatrix 47 = .ok (.lsub, 1) := by decide +kernel
theorem dX0_updateMatrix_48 : decode cX0_updateMatrix 48 = .ok (.lstore 5, 2) := by decide +kernel
theorem dX0_updateMatrix_50 : decode cX0_updateMatrix 50 = .ok (.iload_n 3, 1) := by decide +kernel
theorem dX0_updateMatrix_51 : decode cX0_updateMatrix 51 = .ok (.iload 4, 2) := by decide +kernel
theorem dX0_updateMatrix_53 : decode cX0_updateMatrix 53 = .ok (.if_icmp .ne 7, 3) := by decide +kernel
theorem dX0_updateMatrix_56 : decode cX0_updateMatrix 56 = .ok (.lconst 1, 1) := by decide +kernel
theorem dX0_updateMatrix_57 : decode cX0_updateMatrix 57 = .ok (.goto 6, 3) := by decide +kernel
theorem dX0_updateMatrix_60 : decode cX0_updateMatrix 60 = .ok (.ldc2_w 110, 3) := by decide +kernel
theorem dX0_updateMatrix_63 : decode cX0_updateMatrix 63 = .ok (.lstore 7, 2) := by decide +kernel
theorem dX0_updateMatrix_65 : decode cX0_updateMatrix 65 = .ok (.lload 5, 2) := by decide +kernel
theorem dX0_updateMatrix_67 : decode cX0_updateMatrix 67 = .ok (.ldc2_w 60, 3) := by decide +kernel
theorem dX0_updateMatrix_70 : decode cX0_updateMatrix 70 = .ok (.lmul, 1) := by decide +kernel
theorem dX0_updateMatrix_71 : decode cX0_updateMatrix 71 = .ok (.lload_n 1, 1) := by decide +kernel
theorem dX0_updateMatrix_72 : decode cX0_updateMatrix 72 = .ok (.invokestatic 104, 3) := by decide +kernel
theorem dX0_updateMatrix_75 : decode cX0_updateMatrix 75 = .ok (.lload 7, 2) := by decide +kernel
theorem dX0_updateMatrix_77 : decode cX0_updateMatrix 77 = .ok (.ldc2_w 112, 3) := by decide +kernel
theorem dX0_updateMatrix_80 : decode cX0_updateMatrix 80 = .ok (.invokestatic 71, 3) := by decide +kernel
theorem dX0_updateMatrix_83 : decode cX0_updateMatrix 83 = .ok (.lstore 9, 2) := by decide +kernel
theorem dX0_updateMatrix_85 : decode cX0_updateMatrix 85 = .ok (.aload_n 0, 1) := by decide +kernel
theorem dX0_updateMatrix_86 : decode cX0_updateMatrix 86 = .ok (.getfield 23, 3) := by decide +kernel
theorem dX0_updateMatrix_89 : decode cX0_updateMatrix 89 = .ok (.iconst 3, 1) := by decide +kernel
theorem dX0_updateMatrix_90 : decode cX0_updateMatrix 90 = .ok (.iload_n 3, 1) := by decide +kernel
theorem dX0_updateMatrix_91 : decode cX0_updateMatrix 91 = .ok (.imul, 1) := by decide +kernel
theorem dX0_updateMatrix_92 : decode cX0_updateMatrix 92 = .ok (.iload 4, 2) := by decide +kernel
theorem dX0_updateMatrix_94 : decode cX0_updateMatrix 94 = .ok (.iadd, 1) := by decide +kernel
theorem dX0_updateMatrix_95 : decode cX0_updateMatrix 95 = .ok (.lload 9, 2) := by decide +kernel
theorem dX0_updateMatrix_97 : decode cX0_updateMatrix 97 = .ok (.lastore, 1) := by decide +kernel
theorem dX0_updateMatrix_98 : decode cX0_updateMatrix 98 = .ok (.aload_n 0, 1) := by decide +kernel
theorem dX0_updateMatrix_99 : decode cX0_updateMatrix 99 = .ok (.getfield 23, 3) := by decide +kernel
theorem dX0_updateMatrix_102 : decode cX0_updateMatrix 102 = .ok (.iconst 3, 1) := by decide +kernel
theorem dX0_updateMatrix_103 : decode cX0_updateMatrix 103 = .ok (.iload 4, 2) := by decide +kernel
theorem dX0_updateMatrix_105 : decode cX0_updateMatrix 105 = .ok (.imul, 1) := by decide +kernel
theorem dX0_updateMatrix_106 : decode cX0_updateMatrix 106 = .ok (.iload_n 3, 1) := by decide +kernel
theorem dX0_updateMatrix_107 : decode cX0_updateMatrix 107 = .ok (.iadd, 1) := by decide +kernel
theorem dX0_updateMatrix_108 : decode cX0_updateMatrix 108 = .ok (.lload 9, 2) := by decide +kernel
theorem dX0_updateMatrix_110 : decode cX0_updateMatrix 110 = .ok (.lastore, 1) := by decide +kernel
theorem dX0_updateMatrix_111 : decode cX0_updateMatrix 111 = .ok (.iinc 4 1, 3) := by decide +kernel
theorem dX0_updateMatrix_114 : decode cX0_updateMatrix 114 = .ok (.goto (-104), 3) := by decide +kernel
theorem dX0_updateMatrix_117 : decode cX0_updateMatrix 117 = .ok (.iinc 3 1, 3) := by decide +kernel
theorem dX0_updateMatrix_120 : decode cX0_updateMatrix 120 = .ok (.goto (-118), 3) := by decide +kernel
theorem dX0_updateMatrix_123 : decode cX0_updateMatrix 123 = .ok (.return_, 1) := by decide +kernel
theorem dX0_weightedSum_0 : decode cX0_weightedSum 0 = .ok (.aload_n 0, 1) := by decide +kernel
theorem dX0_weightedSum_1 : decode cX0_weightedSum 1 = .ok (.getfield 20, 3) := by decide +kernel
theorem dX0_weightedSum_4 : decode cX0_weightedSum 4 = .ok (.iconst 0, 1) := by decide +kernel
theorem dX0_weightedSum_5 : decode cX0_weightedSum 5 = .ok (.iaload, 1) := by decide +kernel
theorem dX0_weightedSum_6 : decode cX0_weightedSum 6 = .ok (.i2l, 1) := by decide +kernel
theorem dX0_weightedSum_7 : decode cX0_weightedSum 7 = .ok (.iload_n 1, 1) := by decide +kernel
theorem dX0_weightedSum_8 : decode cX0_weightedSum 8 = .ok (.i2l, 1) := by decide +kernel
theorem dX0_weightedSum_9 : decode cX0_weightedSum 9 = .ok (.lmul, 1) := by decide +kernel
theorem dX0_weightedSum_10 : decode cX0_weightedSum 10 = .ok (.aload_n 0, 1) := by decide +kernel
theorem dX0_weightedSum_11 : decode cX0_weightedSum 11 = .ok (.getfield 20, 3) := by decide +kernel
theorem dX0_weightedSum_14 : decode cX0_weightedSum 14 = .ok (.iconst 1, 1) := by decide +kernel
theorem dX0_weightedSum_15 : decode cX0_weightedSum 15 = .ok (.iaload, 1) := by decide +kernel
theorem dX0_weightedSum_16 : decode cX0_weightedSum 16 = .ok (.i2l, 1) := by decide +kernel
theorem dX0_weightedSum_17 : decode cX0_weightedSum 17 = .ok (.iload_n 2, 1) := by decide +kernel
theorem dX0_weightedSum_18 : decode cX0_weightedSum 18 = .ok (.i2l, 1) := by decide +kernel
theorem dX0_weightedSum_19 : decode cX0_weightedSum 19 = .ok (.lmul, 1) := by decide +kernel
theorem dX0_weightedSum_20 : decode cX0_weightedSum 20 = .ok (.ladd, 1) := by decide +kernel
theorem dX0_weightedSum_21 : decode cX0_weightedSum 21 = .ok (.aload_n 0, 1) := by decide +kernel
theorem dX0_weightedSum_22 : decode cX0_weightedSum 22 = .ok (.getfield 20, 3) := by decide +kernel
theorem dX0_weightedSum_25 : decode cX0_weightedSum 25 = .ok (.iconst 2, 1) := by decide +kernel
theorem dX0_weightedSum_26 : decode cX0_weightedSum 26 = .ok (.iaload, 1) := by decide +kernel
theorem dX0_weightedSum_27 : decode cX0_weightedSum 27 = .ok (.i2l, 1) := by decide +kernel
theorem dX0_weightedSum_28 : decode cX0_weightedSum 28 = .ok (.ladd, 1) := by decide +kernel
theorem dX0_weightedSum_29 : decode cX0_weightedSum 29 = .ok (.lreturn, 1) := by decide +kernel
theorem dX0_spread_0 : decode cX0_spread 0 = .ok (.iconst 0, 1) := by decide +kernel
theorem dX0_spread_1 : decode cX0_spread 1 = .ok (.istore_n 3, 1) := by decide +kernel
theorem dX0_spread_2 : decode cX0_spread 2 = .ok (.iload_n 3, 1) := by decide +kernel
theorem dX0_spread_3 : decode cX0_spread 3 = .ok (.iconst 3, 1) := by decide +kernel
theorem dX0_spread_4 : decode cX0_spread 4 = .ok (.if_icmp .ge 53, 3) := by decide +kernel
theorem dX0_spread_7 : decode cX0_spread 7 = .ok (.iconst 3, 1) := by decide +kernel
theorem dX0_spread_8 : decode cX0_spread 8 = .ok (.iload_n 3, 1) := by decide +kernel
theorem dX0_spread_9 : decode cX0_spread 9 = .ok (.imul, 1) := by decide +kernel
theorem dX0_spread_10 : decode cX0_spread 10 = .ok (.istore 4, 2) := by decide +kernel
theorem dX0_spread_12 : decode cX0_spread 12 = .ok (.aload_n 0, 1) := by decide +kernel
theorem dX0_spread_13 : decode cX0_spread 13 = .ok (.getfield 37, 3) := by decide +kernel
theorem dX0_spread_16 : decode cX0_spread 16 = .ok (.iload_n 3, 1) := by decide +kernel
theorem dX0_spread_17 : decode cX0_spread 17 = .ok (.aload_n 0, 1) := by decide +kernel
theorem dX0_spread_18 : decode cX0_spread 18 = .ok (.getfield 23, 3) := by decide +kernel
theorem dX0_spread_21 : decode cX0_spread 21 = .ok (.iload 4, 2) := by decide +kernel
theorem dX0_spread_23 : decode cX0_spread 23 = .ok (.laload, 1) := by decide +kernel
theorem dX0_spread_24 : decode cX0_spread 24 = .ok (.iload_n 1, 1) := by decide +kernel
theorem dX0_spread_25 : decode cX0_spread 25 = .ok (.i2l, 1) := by decide +kernel
theorem dX0_spread_26 : decode cX0_spread 26 = .ok (.lmul, 1) := by decide +kernel
theorem dX0_spread_27 : decode cX0_spread 27 = .ok (.aload_n 0, 1) := by decide +kernel
theorem dX0_spread_28 : decode cX0_spread 28 = .ok (.getfield 23, 3) := by decide +kernel
theorem dX0_spread_31 : decode cX0_spread 31 = .ok (.iload 4, 2) := by decide +kernel
theorem dX0_spread_33 : decode cX0_spread 33 = .ok (.iconst 1, 1) := by decide +kernel
theorem dX0_spread_34 : decode cX0_spread 34 = .ok (.iadd, 1) := by decide +kernel
theorem dX0_spread_35 : decode cX0_spread 35 = .ok (.laload, 1) := by decide +kernel
theorem dX0_spread_36 : decode cX0_spread 36 = .ok (.iload_n 2, 1) := by decide +kernel
theorem dX0_spread_37 : decode cX0_spread 37 = .ok (.i2l, 1) := by decide +kernel
theorem dX0_spread_38 : decode cX0_spread 38 = .ok (.lmul, 1) := by decide +kernel
theorem dX0_spread_39 : decode cX0_spread 39 = .ok (.ladd, 1) := by decide +kernel
theorem dX0_spread_40 : decode cX0_spread 40 = .ok (.aload_n 0, 1) := by decide +kernel
theorem dX0_spread_41 : decode cX0_spread 41 = .ok (.getfield 23, 3) := by decide +kernel
theorem dX0_spread_44 : decode cX0_spread 44 = .ok (.iload 4, 2) := by decide +kernel
theorem dX0_spread_46 : decode cX0_spread 46 = .ok (.iconst 2, 1) := by decide +kernel
theorem dX0_spread_47 : decode cX0_spread 47 = .ok (.iadd, 1) := by decide +kernel
theorem dX0_spread_48 : decode cX0_spread 48 = .ok (.laload, 1) := by decide +kernel
theorem dX0_spread_49 : decode cX0_spread 49 = .ok (.ladd, 1) := by decide +kernel
theorem dX0_spread_50 : decode cX0_spread 50 = .ok (.lastore, 1) := by decide +kernel
theorem dX0_spread_51 : decode cX0_spread 51 = .ok (.iinc 3 1, 3) := by decide +kernel
theorem dX0_spread_54 : decode cX0_spread 54 = .ok (.goto (-52), 3) := by decide +kernel
theorem dX0_spread_57 : decode cX0_spread 57 = .ok (.lconst 0, 1) := by decide +kernel
theorem dX0_spread_58 : decode cX0_spread 58 = .ok (.aload_n 0, 1) := by decide +kernel
theorem dX0_spread_59 : decode cX0_spread 59 = .ok (.getfield 37, 3) := by decide +kernel
theorem dX0_spread_62 : decode cX0_spread 62 = .ok (.iconst 0, 1) := by decide +kernel
theorem dX0_spread_63 : decode cX0_spread 63 = .ok (.laload, 1) := by decide +kernel
theorem dX0_spread_64 : decode cX0_spread 64 = .ok (.iload_n 1, 1) := by decide +kernel
theorem dX0_spread_65 : decode cX0_spread 65 = .ok (.i2l, 1) := by decide +kernel
theorem dX0_spread_66 : decode cX0_spread 66 = .ok (.lmul, 1) := by decide +kernel
theorem dX0_spread_67 : decode cX0_spread 67 = .ok (.aload_n 0, 1) := by decide +kernel
theorem dX0_spread_68 : decode cX0_spread 68 = .ok (.getfield 37, 3) := by decide +kernel
theorem dX0_spread_71 : decode cX0_spread 71 = .ok (.iconst 1, 1) := by decide +kernel
theorem dX0_spread_72 : decode cX0_spread 72 = .ok (.laload, 1) := by decide +kernel
theorem dX0_spread_73 : decode cX0_spread 73 = .ok (.iload_n 2, 1) := by decide +kernel
theorem dX0_spread_74 : decode cX0_spread 74 = .ok (.i2l, 1) := by decide +kernel
theorem dX0_spread_75 : decode cX0_spread 75 = .ok (.lmul, 1) := by decide +kernel
theorem dX0_spread_76 : decode cX0_spread 76 = .ok (.ladd, 1) := by decide +kernel
theorem dX0_spread_77 : decode cX0_spread 77 = .ok (.aload_n 0, 1) := by decide +kernel
theorem dX0_spread_78 : decode cX0_spread 78 = .ok (.getfield 37, 3) := by decide +kernel
theorem dX0_spread_81 : decode cX0_spread 81 = .ok (.iconst 2, 1) := by decide +kernel
theorem dX0_spread_82 : decode cX0_spread 82 = .ok (.laload, 1) := by decide +kernel
theorem dX0_spread_83 : decode cX0_spread 83 = .ok (.ladd, 1) := by decide +kernel
theorem dX0_spread_84 : decode cX0_spread 84 = .ok (.invokestatic 114, 3) := by decide +kernel
theorem dX0_spread_87 : decode cX0_spread 87 = .ok (.lreturn, 1) := by decide +kernel
set_option maxRecDepth 20000 in
theorem ggX0_mixedInto_X5_mixed : GoodIn wsX0_mixedInto wsX5_mixed := goodIn_r _ [8, 9] (by decide +kernel) (by decide +kernel)
set_option maxRecDepth 20000 in
theorem gX0_mixedInto_X5_mixed_n117 : GoodIn wsX0_mixedInto (wsX5_mixed) := ggX0_mixedInto_X5_mixed
theorem dX0_mixedInto_0 : decode cX0_mixedInto 0 = .ok (.lload_n 1, 1) := by decide +kernel
theorem dX0_mixedInto_1 : decode cX0_mixedInto 1 = .ok (.lstore_n 3, 1) := by decide +kernel
theorem dX0_mixedInto_2 : decode cX0_mixedInto 2 = .ok (.iconst 0, 1) := by decide +kernel
theorem dX0_mixedInto_3 : decode cX0_mixedInto 3 = .ok (.istore 5, 2) := by decide +kernel
theorem dX0_mixedInto_5 : decode cX0_mixedInto 5 = .ok (.iload 5, 2) := by decide +kernel
theorem dX0_mixedInto_7 : decode cX0_mixedInto 7 = .ok (.iconst 3, 1) := by decide +kernel
theorem dX0_mixedInto_8 : decode cX0_mixedInto 8 = .ok (.if_icmp .ge 44, 3) := by decide +kernel
theorem dX0_mixedInto_11 : decode cX0_mixedInto 11 = .ok (.lload_n 3, 1) := by decide +kernel
theorem dX0_mixedInto_12 : decode cX0_mixedInto 12 = .ok (.aload_n 0, 1) := by decide +kernel
theorem dX0_mixedInto_13 : decode cX0_mixedInto 13 = .ok (.getfield 10, 3) := by decide +kernel
theorem dX0_mixedInto_16 : decode cX0_mixedInto 16 = .ok (.iload 5, 2) := by decide +kernel
theorem dX0_mixedInto_18 : decode cX0_mixedInto 18 = .ok (.iaload, 1) := by decide +kernel
theorem dX0_mixedInto_19 : decode cX0_mixedInto 19 = .ok (.i2l, 1) := by decide +kernel
theorem dX0_mixedInto_20 : decode cX0_mixedInto 20 = .ok (.invokestatic 117, 3) := by decide +kernel
theorem dX0_mixedInto_23 : decode cX0_mixedInto 23 = .ok (.aload_n 0, 1) := by decide +kernel
theorem dX0_mixedInto_24 : decode cX0_mixedInto 24 = .ok (.getfield 17, 3) := by decide +kernel
theorem dX0_mixedInto_27 : decode cX0_mixedInto 27 = .ok (.iload 5, 2) := by decide +kernel
theorem dX0_mixedInto_29 : decode cX0_mixedInto 29 = .ok (.iaload, 1) := by decide +kernel
theorem dX0_mixedInto_30 : decode cX0_mixedInto 30 = .ok (.i2l, 1) := by decide +kernel
theorem dX0_mixedInto_31 : decode cX0_mixedInto 31 = .ok (.invokestatic 117, 3) := by decide +kernel
theorem dX0_mixedInto_34 : decode cX0_mixedInto 34 = .ok (.aload_n 0, 1) := by decide +kernel
theorem dX0_mixedInto_35 : decode cX0_mixedInto 35 = .ok (.getfield 20, 3) := by decide +kernel
theorem dX0_mixedInto_38 : decode cX0_mixedInto 38 = .ok (.iload 5, 2) := by decide +kernel
theorem dX0_mixedInto_40 : decode cX0_mixedInto 40 = .ok (.iaload, 1) := by decide +kernel
theorem dX0_mixedInto_41 : decode cX0_mixedInto 41 = .ok (.i2l, 1) := by decide +kernel
theorem dX0_mixedInto_42 : decode cX0_mixedInto 42 = .ok (.invokestatic 117, 3) := by decide +kernel
theorem dX0_mixedInto_45 : decode cX0_mixedInto 45 = .ok (.lstore_n 3, 1) := by decide +kernel
theorem dX0_mixedInto_46 : decode cX0_mixedInto 46 = .ok (.iinc 5 1, 3) := by decide +kernel
theorem dX0_mixedInto_49 : decode cX0_mixedInto 49 = .ok (.goto (-44), 3) := by decide +kernel
theorem dX0_mixedInto_52 : decode cX0_mixedInto 52 = .ok (.iconst 0, 1) := by decide +kernel
theorem dX0_mixedInto_53 : decode cX0_mixedInto 53 = .ok (.istore 5, 2) := by decide +kernel
theorem dX0_mixedInto_55 : decode cX0_mixedInto 55 = .ok (.iload 5, 2) := by decide +kernel
theorem dX0_mixedInto_57 : decode cX0_mixedInto 57 = .ok (.bipush 9, 2) := by decide +kernel
theorem dX0_mixedInto_59 : decode cX0_mixedInto 59 = .ok (.if_icmp .ge 21, 3) := by decide +kernel
theorem dX0_mixedInto_62 : decode cX0_mixedInto 62 = .ok (.lload_n 3, 1) := by decide +kernel
theorem dX0_mixedInto_63 : decode cX0_mixedInto 63 = .ok (.aload_n 0, 1) := by decide +kernel
theorem dX0_mixedInto_64 : decode cX0_mixedInto 64 = .ok (.getfield 23, 3) := by decide +kernel
theorem dX0_mixedInto_67 : decode cX0_mixedInto 67 = .ok (.iload 5, 2) := by decide +kernel
theorem dX0_mixedInto_69 : decode cX0_mixedInto 69 = .ok (.laload, 1) := by decide +kernel
theorem dX0_mixedInto_70 : decode cX0_mixedInto 70 = .ok (.invokestatic 117, 3) := by decide +kernel
theorem dX0_mixedInto_73 : decode cX0_mixedInto 73 = .ok (.lstore_n 3, 1) := by decide +kernel
theorem dX0_mixedInto_74 : decode cX0_mixedInto 74 = .ok (.iinc 5 1, 3) := by decide +kernel
theorem dX0_mixedInto_77 : decode cX0_mixedInto 77 = .ok (.goto (-22), 3) := by decide +kernel
theorem dX0_mixedInto_80 : decode cX0_mixedInto 80 = .ok (.iconst 0, 1) := by decide +kernel
theorem dX0_mixedInto_81 : decode cX0_mixedInto 81 = .ok (.istore 5, 2) := by decide +kernel
theorem dX0_mixedInto_83 : decode cX0_mixedInto 83 = .ok (.iload 5, 2) := by decide +kernel
theorem dX0_mixedInto_85 : decode cX0_mixedInto 85 = .ok (.iconst 5, 1) := by decide +kernel
theorem dX0_mixedInto_86 : decode cX0_mixedInto 86 = .ok (.if_icmp .ge 22, 3) := by decide +kernel
theorem dX0_mixedInto_89 : decode cX0_mixedInto 89 = .ok (.lload_n 3, 1) := by decide +kernel
theorem dX0_mixedInto_90 : decode cX0_mixedInto 90 = .ok (.aload_n 0, 1) := by decide +kernel
theorem dX0_mixedInto_91 : decode cX0_mixedInto 91 = .ok (.getfield 27, 3) := by decide +kernel
theorem dX0_mixedInto_94 : decode cX0_mixedInto 94 = .ok (.iload 5, 2) := by decide +kernel
theorem dX0_mixedInto_96 : decode cX0_mixedInto 96 = .ok (.iaload, 1) := by decide +kernel
theorem dX0_mixedInto_97 : decode cX0_mixedInto 97 = .ok (.i2l, 1) := by decide +kernel
theorem dX0_mixedInto_98 : decode cX0_mixedInto 98 = .ok (.invokestatic 117, 3) := by decide +kernel
theorem dX0_mixedInto_101 : decode cX0_mixedInto 101 = .ok (.lstore_n 3, 1) := by decide +kernel
theorem dX0_mixedInto_102 : decode cX0_mixedInto 102 = .ok (.iinc 5 1, 3) := by decide +kernel
theorem dX0_mixedInto_105 : decode cX0_mixedInto 105 = .ok (.goto (-22), 3) := by decide +kernel
theorem dX0_mixedInto_108 : decode cX0_mixedInto 108 = .ok (.lload_n 3, 1) := by decide +kernel
theorem dX0_mixedInto_109 : decode cX0_mixedInto 109 = .ok (.lreturn, 1) := by decide +kernel
theorem dX1_init_0 : decode cX1_init 0 = .ok (.aload_n 0, 1) := by decide +kernel
theorem dX1_init_1 : decode cX1_init 1 = .ok (.invokespecial 3, 3) := by decide +kernel
theorem dX1_init_4 : decode cX1_init 4 = .ok (.aload_n 0, 1) := by decide +kernel
theorem dX1_init_5 : decode cX1_init 5 = .ok (.iconst 3, 1) := by decide +kernel
theorem dX1_init_6 : decode cX1_init 6 = .ok (.newarray .int, 2) := by decide +kernel
theorem dX1_init_8 : decode cX1_init 8 = .ok (.dup, 1) := by decide +kernel
theorem dX1_init_9 : decode cX1_init 9 = .ok (.iconst 0, 1) := by decide +kernel
theorem dX1_init_10 : decode cX1_init 10 = .ok (.sipush 800, 3) := by decide +kernel
theorem dX1_init_13 : decode cX1_init 13 = .ok (.iastore, 1) := by decide +kernel
theorem dX1_init_14 : decode cX1_init 14 = .ok (.dup, 1) := by decide +kernel
theorem dX1_init_15 : decode cX1_init 15 = .ok (.iconst 1, 1) := by decide +kernel
theorem dX1_init_16 : decode cX1_init 16 = .ok (.sipush 500, 3) := by decide +kernel
theorem dX1_init_19 : decode cX1_init 19 = .ok (.iastore, 1) := by decide +kernel
theorem dX1_init_20 : decode cX1_init 20 = .ok (.dup, 1) := by decide +kernel
theorem dX1_init_21 : decode cX1_init 21 = .ok (.iconst 2, 1) := by decide +kernel
theorem dX1_init_22 : decode cX1_init 22 = .ok (.iconst 0, 1) := by decide +kernel
theorem dX1_init_23 : decode cX1_init 23 = .ok (.iastore, 1) := by decide +kernel
theorem dX1_init_24 : decode cX1_init 24 = .ok (.putfield 9, 3) := by decide +kernel
theorem dX1_init_27 : decode cX1_init 27 = .ok (.aload_n 0, 1) := by decide +kernel
theorem dX1_init_28 : decode cX1_init 28 = .ok (.iconst 0, 1) := by decide +kernel
theorem dX1_init_29 : decode cX1_init 29 = .ok (.putfield 15, 3) := by decide +kernel
theorem dX1_init_32 : decode cX1_init 32 = .ok (.aload_n 0, 1) := by decide +kernel
theorem dX1_init_33 : decode cX1_init 33 = .ok (.lconst 1, 1) := by decide +kernel
theorem dX1_init_34 : decode cX1_init 34 = .ok (.putfield 19, 3) := by decide +kernel
theorem dX1_init_37 : decode cX1_init 37 = .ok (.aload_n 0, 1) := by decide +kernel
theorem dX1_init_38 : decode cX1_init 38 = .ok (.iconst 0, 1) := by decide +kernel
theorem dX1_init_39 : decode cX1_init 39 = .ok (.putfield 23, 3) := by decide +kernel
theorem dX1_init_42 : decode cX1_init 42 = .ok (.return_, 1) := by decide +kernel
theorem dX1_copyFrom_0 : decode cX1_copyFrom 0 = .ok (.aload_n 1, 1) := by decide +kernel
theorem dX1_copyFrom_1 : decode cX1_copyFrom 1 = .ok (.getfield 9, 3) := by decide +kernel
theorem dX1_copyFrom_4 : decode cX1_copyFrom 4 = .ok (.iconst 0, 1) := by decide +kernel
theorem dX1_copyFrom_5 : decode cX1_copyFrom 5 = .ok (.aload_n 0, 1) := by decide +kernel
theorem dX1_copyFrom_6 : decode cX1_copyFrom 6 = .ok (.getfield 9, 3) := by decide +kernel
theorem dX1_copyFrom_9 : decode cX1_copyFrom 9 = .ok (.iconst 0, 1) := by decide +kernel
theorem dX1_copyFrom_10 : decode cX1_copyFrom 10 = .ok (.iconst 3, 1) := by decide +kernel
theorem dX1_copyFrom_11 : decode cX1_copyFrom 11 = .ok (.invokestatic 26, 3) := by decide +kernel
theorem dX1_copyFrom_14 : decode cX1_copyFrom 14 = .ok (.aload_n 0, 1) := by decide +kernel
theorem dX1_copyFrom_15 : decode cX1_copyFrom 15 = .ok (.aload_n 1, 1) := by decide +kernel
theorem dX1_copyFrom_16 : decode cX1_copyFrom 16 = .ok (.getfield 15, 3) := by decide +kernel
theorem dX1_copyFrom_19 : decode cX1_copyFrom 19 = .ok (.putfield 15, 3) := by decide +kernel
theorem dX1_copyFrom_22 : decode cX1_copyFrom 22 = .ok (.aload_n 0, 1) := by decide +kernel
theorem dX1_copyFrom_23 : decode cX1_copyFrom 23 = .ok (.aload_n 1, 1) := by decide +kernel
theorem dX1_copyFrom_24 : decode cX1_copyFrom 24 = .ok (.getfield 19, 3) := by decide +kernel
theorem dX1_copyFrom_27 : decode cX1_copyFrom 27 = .ok (.putfield 19, 3) := by decide +kernel
theorem dX1_copyFrom_30 : decode cX1_copyFrom 30 = .ok (.aload_n 0, 1) := by decide +kernel
theorem dX1_copyFrom_31 : decode cX1_copyFrom 31 = .ok (.aload_n 1, 1) := by decide +kernel
theorem dX1_copyFrom_32 : decode cX1_copyFrom 32 = .ok (.getfield 23, 3) := by decide +kernel
theorem dX1_copyFrom_35 : decode cX1_copyFrom 35 = .ok (.putfield 23, 3) := by decide +kernel
theorem dX1_copyFrom_38 : decode cX1_copyFrom 38 = .ok (.return_, 1) := by decide +kernel
set_option maxRecDepth 20000 in
theorem ggX1_move_J9_floorMod_f86c9 : GoodIn wsX1_move wsJ9_floorMod_f86c9 := goodIn_r _ [13] (by decide +kernel) (by decide +kernel)
set_option maxRecDepth 20000 in
theorem gX1_move_J9_floorMod_f86c9 : GoodIn wsX1_move (va_wsS RX1 38 yJ9_floorMod_f86c9 wsJ9_floorMod_f86c9) := goodIn_app (goodIn_of _ (by decide +kernel)) ggX1_move_J9_floorMod_f86c9
set_option maxRecDepth 20000 in
theorem ggX1_move_X5_divideDown : GoodIn wsX1_move wsX5_divideDown := goodIn_r _ [16, 17, 18, 12, 19] (by decide +kernel) (by decide +kernel)
set_option maxRecDepth 20000 in
theorem gX1_move_X5_divideDown_n46 : GoodIn wsX1_move (wsX5_divideDown) := ggX1_move_X5_divideDown
set_option maxRecDepth 20000 in
theorem ggX1_move_X1_disturbance : GoodIn wsX1_move wsX1_disturbance := goodIn_r _ [24, 2, 25, 26, 27, 14, 15, 16, 17, 18, 12, 19, 30, 31, 32, 33] (by decide +kernel) (by decide +kernel)
set_option maxRecDepth 20000 in
theorem gX1_move_X1_disturbance : GoodIn wsX1_move (wsV RX1 49 RX1 yX1_disturbance wsX1_disturbance) := goodIn_app (goodIn_of _ (by decide +kernel)) ggX1_move_X1_disturbance
set_option maxRecDepth 20000 in
theorem ggX1_move_X5_bring : GoodIn wsX1_move wsX5_bring := goodIn_r _ [29] (by decide +kernel) (by decide +kernel)
set_option maxRecDepth 20000 in
theorem gX1_move_X5_bring_n57 : GoodIn wsX1_move (wsX5_bring) := ggX1_move_X5_bring
theorem dX1_move_0 : decode cX1_move 0 = .ok (.aload_n 0, 1) := by decide +kernel
theorem dX1_move_1 : decode cX1_move 1 = .ok (.ldc2_w 32, 3) := by decide +kernel
theorem dX1_move_4 : decode cX1_move 4 = .ok (.aload_n 0, 1) := by decide +kernel
theorem dX1_move_5 : decode cX1_move 5 = .ok (.getfield 19, 3) := by decide +kernel
theorem dX1_move_8 : decode cX1_move 8 = .ok (.lmul, 1) := by decide +kernel
theorem dX1_move_9 : decode cX1_move 9 = .ok (.ldc2_w 34, 3) := by decide +kernel
theorem dX1_move_12 : decode cX1_move 12 = .ok (.ladd, 1) := by decide +kernel
theorem dX1_move_13 : decode cX1_move 13 = .ok (.ldc2_w 36, 3) := by decide +kernel
theorem dX1_move_16 : decode cX1_move 16 = .ok (.invokestatic 38, 3) := by decide +kernel
theorem dX1_move_19 : decode cX1_move 19 = .ok (.putfield 19, 3) := by decide +kernel
theorem dX1_move_22 : decode cX1_move 22 = .ok (.aload_n 0, 1) := by decide +kernel
theorem dX1_move_23 : decode cX1_move 23 = .ok (.getfield 9, 3) := by decide +kernel
theorem dX1_move_26 : decode cX1_move 26 = .ok (.iconst 0, 1) := by decide +kernel
theorem dX1_move_27 : decode cX1_move 27 = .ok (.iaload, 1) := by decide +kernel
theorem dX1_move_28 : decode cX1_move 28 = .ok (.i2l, 1) := by decide +kernel
theorem dX1_move_29 : decode cX1_move 29 = .ok (.aload_n 0, 1) := by decide +kernel
theorem dX1_move_30 : decode cX1_move 30 = .ok (.getfield 23, 3) := by decide +kernel
theorem dX1_move_33 : decode cX1_move 33 = .ok (.i2l, 1) := by decide +kernel
theorem dX1_move_34 : decode cX1_move 34 = .ok (.lmul, 1) := by decide +kernel
theorem dX1_move_35 : decode cX1_move 35 = .ok (.aload_n 0, 1) := by decide +kernel
theorem dX1_move_36 : decode cX1_move 36 = .ok (.getfield 9, 3) := by decide +kernel
theorem dX1_move_39 : decode cX1_move 39 = .ok (.iconst 1, 1) := by decide +kernel
theorem dX1_move_40 : decode cX1_move 40 = .ok (.iaload, 1) := by decide +kernel
theorem dX1_move_41 : decode cX1_move 41 = .ok (.i2l, 1) := by decide +kernel
theorem dX1_move_42 : decode cX1_move 42 = .ok (.iload_n 1, 1) := by decide +kernel
theorem dX1_move_43 : decode cX1_move 43 = .ok (.i2l, 1) := by decide +kernel
theorem dX1_move_44 : decode cX1_move 44 = .ok (.lmul, 1) := by decide +kernel
theorem dX1_move_45 : decode cX1_move 45 = .ok (.ladd, 1) := by decide +kernel
theorem dX1_move_46 : decode cX1_move 46 = .ok (.aload_n 0, 1) := by decide +kernel
theorem dX1_move_47 : decode cX1_move 47 = .ok (.getfield 9, 3) := by decide +kernel
theorem dX1_move_50 : decode cX1_move 50 = .ok (.iconst 2, 1) := by decide +kernel
theorem dX1_move_51 : decode cX1_move 51 = .ok (.iaload, 1) := by decide +kernel
theorem dX1_move_52 : decode cX1_move 52 = .ok (.i2l, 1) := by decide +kernel
theorem dX1_move_53 : decode cX1_move 53 = .ok (.ladd, 1) := by decide +kernel
theorem dX1_move_54 : decode cX1_move 54 = .ok (.lstore_n 2, 1) := by decide +kernel
theorem dX1_move_55 : decode cX1_move 55 = .ok (.aload_n 0, 1) := by decide +kernel
theorem dX1_move_56 : decode cX1_move 56 = .ok (.lload_n 2, 1) := by decide +kernel
theorem dX1_move_57 : decode cX1_move 57 = .ok (.ldc2_w 44, 3) := by decide +kernel
theorem dX1_move_60 : decode cX1_move 60 = .ok (.invokestatic 46, 3) := by decide +kernel
theorem dX1_move_63 : decode cX1_move 63 = .ok (.aload_n 0, 1) := by decide +kernel
theorem dX1_move_64 : decode cX1_move 64 = .ok (.invokevirtual 49, 3) := by decide +kernel
theorem dX1_move_67 : decode cX1_move 67 = .ok (.ladd, 1) := by decide +kernel
theorem dX1_move_68 : decode cX1_move 68 = .ok (.ldc2_w 53, 3) := by decide +kernel
theorem dX1_move_71 : decode cX1_move 71 = .ok (.ldc2_w 55, 3) := by decide +kernel
theorem dX1_move_74 : decode cX1_move 74 = .ok (.invokestatic 57, 3) := by decide +kernel
theorem dX1_move_77 : decode cX1_move 77 = .ok (.l2i, 1) := by decide +kernel
theorem dX1_move_78 : decode cX1_move 78 = .ok (.putfield 23, 3) := by decide +kernel
theorem dX1_move_81 : decode cX1_move 81 = .ok (.return_, 1) := by decide +kernel
set_option maxRecDepth 20000 in
theorem ggX1_disturbance_X5_divideDown : GoodIn wsX1_disturbance wsX5_divideDown := goodIn_r _ [7, 8, 9, 10, 11] (by decide +kernel) (by decide +kernel)
set_option maxRecDepth 20000 in
theorem gX1_disturbance_X5_divideDown_n46 : GoodIn wsX1_disturbance (wsX5_divideDown) := ggX1_disturbance_X5_divideDown
theorem dX1_disturbance_0 : decode cX1_disturbance 0 = .ok (.aload_n 0, 1) := by decide +kernel
theorem dX1_disturbance_1 : decode cX1_disturbance 1 = .ok (.getfield 19, 3) := by decide +kernel
theorem dX1_disturbance_4 : decode cX1_disturbance 4 = .ok (.ldc2_w 61, 3) := by decide +kernel
theorem dX1_disturbance_7 : decode cX1_disturbance 7 = .ok (.invokestatic 46, 3) := by decide +kernel
theorem dX1_disturbance_10 : decode cX1_disturbance 10 = .ok (.lstore_n 1, 1) := by decide +kernel
theorem dX1_disturbance_11 : decode cX1_disturbance 11 = .ok (.ldc2_w 63, 3) := by decide +kernel
theorem dX1_disturbance_14 : decode cX1_disturbance 14 = .ok (.aload_n 0, 1) := by decide +kernel
theorem dX1_disturbance_15 : decode cX1_disturbance 15 = .ok (.getfield 15, 3) := by decide +kernel
theorem dX1_disturbance_18 : decode cX1_disturbance 18 = .ok (.i2l, 1) := by decide +kernel
theorem dX1_disturbance_19 : decode cX1_disturbance 19 = .ok (.lmul, 1) := by decide +kernel
theorem dX1_disturbance_20 : decode cX1_disturbance 20 = .ok (.lconst 1, 1) := by decide +kernel
theorem dX1_disturbance_21 : decode cX1_disturbance 21 = .ok (.ladd, 1) := by decide +kernel
theorem dX1_disturbance_22 : decode cX1_disturbance 22 = .ok (.lstore_n 3, 1) := by decide +kernel
theorem dX1_disturbance_23 : decode cX1_disturbance 23 = .ok (.lload_n 1, 1) := by decide +kernel
theorem dX1_disturbance_24 : decode cX1_disturbance 24 = .ok (.lload_n 3, 1) := by decide +kernel
theorem dX1_disturbance_25 : decode cX1_disturbance 25 = .ok (.lload_n 1, 1) := by decide +kernel
theorem dX1_disturbance_26 : decode cX1_disturbance 26 = .ok (.lload_n 3, 1) := by decide +kernel
theorem dX1_disturbance_27 : decode cX1_disturbance 27 = .ok (.invokestatic 46, 3) := by decide +kernel
theorem dX1_disturbance_30 : decode cX1_disturbance 30 = .ok (.lmul, 1) := by decide +kernel
theorem dX1_disturbance_31 : decode cX1_disturbance 31 = .ok (.lsub, 1) := by decide +kernel
theorem dX1_disturbance_32 : decode cX1_disturbance 32 = .ok (.aload_n 0, 1) := by decide +kernel
theorem dX1_disturbance_33 : decode cX1_disturbance 33 = .ok (.getfield 15, 3) := by decide +kernel
theorem dX1_disturbance_36 : decode cX1_disturbance 36 = .ok (.i2l, 1) := by decide +kernel
theorem dX1_disturbance_37 : decode cX1_disturbance 37 = .ok (.lsub, 1) := by decide +kernel
theorem dX1_disturbance_38 : decode cX1_disturbance 38 = .ok (.lreturn, 1) := by decide +kernel
set_option maxRecDepth 20000 in
theorem ggX1_mixedInto_X5_mixed : GoodIn wsX1_mixedInto wsX5_mixed := goodIn_r _ [7, 8] (by decide +kernel) (by decide +kernel)
set_option maxRecDepth 20000 in
theorem gX1_mixedInto_X5_mixed_n65 : GoodIn wsX1_mixedInto (wsX5_mixed) := ggX1_mixedInto_X5_mixed
theorem dX1_mixedInto_0 : decode cX1_mixedInto 0 = .ok (.lload_n 1, 1) := by decide +kernel
theorem dX1_mixedInto_1 : decode cX1_mixedInto 1 = .ok (.lstore_n 3, 1) := by decide +kernel
theorem dX1_mixedInto_2 : decode cX1_mixedInto 2 = .ok (.iconst 0, 1) := by decide +kernel
theorem dX1_mixedInto_3 : decode cX1_mixedInto 3 = .ok (.istore 5, 2) := by decide +kernel
theorem dX1_mixedInto_5 : decode cX1_mixedInto 5 = .ok (.iload 5, 2) := by decide +kernel
theorem dX1_mixedInto_7 : decode cX1_mixedInto 7 = .ok (.iconst 3, 1) := by decide +kernel
theorem dX1_mixedInto_8 : decode cX1_mixedInto 8 = .ok (.if_icmp .ge 22, 3) := by decide +kernel
theorem dX1_mixedInto_11 : decode cX1_mixedInto 11 = .ok (.lload_n 3, 1) := by decide +kernel
theorem dX1_mixedInto_12 : decode cX1_mixedInto 12 = .ok (.aload_n 0, 1) := by decide +kernel
theorem dX1_mixedInto_13 : decode cX1_mixedInto 13 = .ok (.getfield 9, 3) := by decide +kernel
theorem dX1_mixedInto_16 : decode cX1_mixedInto 16 = .ok (.iload 5, 2) := by decide +kernel
theorem dX1_mixedInto_18 : decode cX1_mixedInto 18 = .ok (.iaload, 1) := by decide +kernel
theorem dX1_mixedInto_19 : decode cX1_mixedInto 19 = .ok (.i2l, 1) := by decide +kernel
theorem dX1_mixedInto_20 : decode cX1_mixedInto 20 = .ok (.invokestatic 65, 3) := by decide +kernel
theorem dX1_mixedInto_23 : decode cX1_mixedInto 23 = .ok (.lstore_n 3, 1) := by decide +kernel
theorem dX1_mixedInto_24 : decode cX1_mixedInto 24 = .ok (.iinc 5 1, 3) := by decide +kernel
theorem dX1_mixedInto_27 : decode cX1_mixedInto 27 = .ok (.goto (-22), 3) := by decide +kernel
theorem dX1_mixedInto_30 : decode cX1_mixedInto 30 = .ok (.lload_n 3, 1) := by decide +kernel
theorem dX1_mixedInto_31 : decode cX1_mixedInto 31 = .ok (.aload_n 0, 1) := by decide +kernel
theorem dX1_mixedInto_32 : decode cX1_mixedInto 32 = .ok (.getfield 15, 3) := by decide +kernel
theorem dX1_mixedInto_35 : decode cX1_mixedInto 35 = .ok (.i2l, 1) := by decide +kernel
theorem dX1_mixedInto_36 : decode cX1_mixedInto 36 = .ok (.invokestatic 65, 3) := by decide +kernel
theorem dX1_mixedInto_39 : decode cX1_mixedInto 39 = .ok (.aload_n 0, 1) := by decide +kernel
theorem dX1_mixedInto_40 : decode cX1_mixedInto 40 = .ok (.getfield 19, 3) := by decide +kernel
theorem dX1_mixedInto_43 : decode cX1_mixedInto 43 = .ok (.invokestatic 65, 3) := by decide +kernel
theorem dX1_mixedInto_46 : decode cX1_mixedInto 46 = .ok (.aload_n 0, 1) := by decide +kernel
theorem dX1_mixedInto_47 : decode cX1_mixedInto 47 = .ok (.getfield 23, 3) := by decide +kernel
theorem dX1_mixedInto_50 : decode cX1_mixedInto 50 = .ok (.i2l, 1) := by decide +kernel
theorem dX1_mixedInto_51 : decode cX1_mixedInto 51 = .ok (.invokestatic 65, 3) := by decide +kernel
theorem dX1_mixedInto_54 : decode cX1_mixedInto 54 = .ok (.lreturn, 1) := by decide +kernel
theorem dX2_init_0 : decode cX2_init 0 = .ok (.aload_n 0, 1) := by decide +kernel
theorem dX2_init_1 : decode cX2_init 1 = .ok (.invokespecial 3, 3) := by decide +kernel
theorem dX2_init_4 : decode cX2_init 4 = .ok (.aload_n 0, 1) := by decide +kernel
theorem dX2_init_5 : decode cX2_init 5 = .ok (.bipush 120, 2) := by decide +kernel
theorem dX2_init_7 : decode cX2_init 7 = .ok (.newarray .byte, 2) := by decide +kernel
theorem dX2_init_9 : decode cX2_init 9 = .ok (.putfield 9, 3) := by decide +kernel
theorem dX2_init_12 : decode cX2_init 12 = .ok (.aload_n 0, 1) := by decide +kernel
theorem dX2_init_13 : decode cX2_init 13 = .ok (.iconst 0, 1) := by decide +kernel
theorem dX2_init_14 : decode cX2_init 14 = .ok (.putfield 15, 3) := by decide +kernel
theorem dX2_init_17 : decode cX2_init 17 = .ok (.aload_n 0, 1) := by decide +kernel
theorem dX2_init_18 : decode cX2_init 18 = .ok (.bipush 60, 2) := by decide +kernel
theorem dX2_init_20 : decode cX2_init 20 = .ok (.newarray .int, 2) := by decide +kernel
theorem dX2_init_22 : decode cX2_init 22 = .ok (.putfield 19, 3) := by decide +kernel
theorem dX2_init_25 : decode cX2_init 25 = .ok (.aload_n 0, 1) := by decide +kernel
theorem dX2_init_26 : decode cX2_init 26 = .ok (.iconst 0, 1) := by decide +kernel
theorem dX2_init_27 : decode cX2_init 27 = .ok (.putfield 23, 3) := by decide +kernel
theorem dX2_init_30 : decode cX2_init 30 = .ok (.aload_n 0, 1) := by decide +kernel
theorem dX2_init_31 : decode cX2_init 31 = .ok (.iconst 0, 1) := by decide +kernel
theorem dX2_init_32 : decode cX2_init 32 = .ok (.putfield 26, 3) := by decide +kernel
theorem dX2_init_35 : decode cX2_init 35 = .ok (.return_, 1) := by decide +kernel
theorem dX2_addIfRoom_0 : decode cX2_addIfRoom 0 = .ok (.aload_n 0, 1) := by decide +kernel
theorem dX2_addIfRoom_1 : decode cX2_addIfRoom 1 = .ok (.getfield 15, 3) := by decide +kernel
theorem dX2_addIfRoom_4 : decode cX2_addIfRoom 4 = .ok (.bipush 120, 2) := by decide +kernel
theorem dX2_addIfRoom_6 : decode cX2_addIfRoom 6 = .ok (.if_icmp .lt 5, 3) := by decide +kernel
theorem dX2_addIfRoom_9 : decode cX2_addIfRoom 9 = .ok (.iconst 0, 1) := by decide +kernel
theorem dX2_addIfRoom_10 : decode cX2_addIfRoom 10 = .ok (.ireturn, 1) := by decide +kernel
theorem dX2_addIfRoom_11 : decode cX2_addIfRoom 11 = .ok (.aload_n 0, 1) := by decide +kernel
theorem dX2_addIfRoom_12 : decode cX2_addIfRoom 12 = .ok (.getfield 9, 3) := by decide +kernel
theorem dX2_addIfRoom_15 : decode cX2_addIfRoom 15 = .ok (.aload_n 0, 1) := by decide +kernel
theorem dX2_addIfRoom_16 : decode cX2_addIfRoom 16 = .ok (.getfield 15, 3) := by decide +kernel
theorem dX2_addIfRoom_19 : decode cX2_addIfRoom 19 = .ok (.iload_n 1, 1) := by decide +kernel
theorem dX2_addIfRoom_20 : decode cX2_addIfRoom 20 = .ok (.i2b, 1) := by decide +kernel
theorem dX2_addIfRoom_21 : decode cX2_addIfRoom 21 = .ok (.bastore, 1) := by decide +kernel
theorem dX2_addIfRoom_22 : decode cX2_addIfRoom 22 = .ok (.aload_n 0, 1) := by decide +kernel
theorem dX2_addIfRoom_23 : decode cX2_addIfRoom 23 = .ok (.dup, 1) := by decide +kernel
theorem dX2_addIfRoom_24 : decode cX2_addIfRoom 24 = .ok (.getfield 15, 3) := by decide +kernel
theorem dX2_addIfRoom_27 : decode cX2_addIfRoom 27 = .ok (.iconst 1, 1) := by decide +kernel
theorem dX2_addIfRoom_28 : decode cX2_addIfRoom 28 = .ok (.iadd, 1) := by decide +kernel
theorem dX2_addIfRoom_29 : decode cX2_addIfRoom 29 = .ok (.putfield 15, 3) := by decide +kernel
theorem dX2_addIfRoom_32 : decode cX2_addIfRoom 32 = .ok (.iconst 1, 1) := by decide +kernel
theorem dX2_addIfRoom_33 : decode cX2_addIfRoom 33 = .ok (.ireturn, 1) := by decide +kernel
set_option maxRecDepth 20000 in
theorem ggX2_read_X2_readNumber : GoodIn wsX2_read wsX2_readNumber := goodIn_r _ [8, 2, 9, 10, 11, 12, 7, 13, 14, 15, 16, 17, 3, 18, 19, 20, 21, 22, 23, 24, 25, 26] (by decide +kernel) (by decide +kernel)
set_option maxRecDepth 20000 in
theorem gX2_read_X2_readNumber : GoodIn wsX2_read (wsV RX2 29 RX2 yX2_readNumber wsX2_readNumber) := goodIn_app (goodIn_of _ (by decide +kernel)) ggX2_read_X2_readNumber
set_option maxRecDepth 20000 in
theorem ggX2_read_X2_readSign : GoodIn wsX2_read wsX2_readSign := goodIn_r _ [13, 2, 14, 15, 16, 7, 17, 3, 18, 22, 23, 24, 25, 26] (by decide +kernel) (by decide +kernel)
set_option maxRecDepth 20000 in
theorem gX2_read_X2_readSign : GoodIn wsX2_read (wsV RX2 33 RX2 yX2_readSign wsX2_readSign) := goodIn_app (goodIn_of _ (by decide +kernel)) ggX2_read_X2_readSign
theorem dX2_read_0 : decode cX2_read 0 = .ok (.aload_n 0, 1) := by decide +kernel
theorem dX2_read_1 : decode cX2_read 1 = .ok (.iconst 0, 1) := by decide +kernel
theorem dX2_read_2 : decode cX2_read 2 = .ok (.putfield 23, 3) := by decide +kernel
theorem dX2_read_5 : decode cX2_read 5 = .ok (.aload_n 0, 1) := by decide +kernel
theorem dX2_read_6 : decode cX2_read 6 = .ok (.iconst 0, 1) := by decide +kernel
theorem dX2_read_7 : decode cX2_read 7 = .ok (.putfield 26, 3) := by decide +kernel
theorem dX2_read_10 : decode cX2_read 10 = .ok (.iconst 0, 1) := by decide +kernel
theorem dX2_read_11 : decode cX2_read 11 = .ok (.istore_n 1, 1) := by decide +kernel
theorem dX2_read_12 : decode cX2_read 12 = .ok (.iload_n 1, 1) := by decide +kernel
theorem dX2_read_13 : decode cX2_read 13 = .ok (.bipush 20, 2) := by decide +kernel
theorem dX2_read_15 : decode cX2_read 15 = .ok (.if_icmp .ge 94, 3) := by decide +kernel
theorem dX2_read_18 : decode cX2_read 18 = .ok (.aload_n 0, 1) := by decide +kernel
theorem dX2_read_19 : decode cX2_read 19 = .ok (.getfield 26, 3) := by decide +kernel
theorem dX2_read_22 : decode cX2_read 22 = .ok (.aload_n 0, 1) := by decide +kernel
theorem dX2_read_23 : decode cX2_read 23 = .ok (.getfield 15, 3) := by decide +kernel
theorem dX2_read_26 : decode cX2_read 26 = .ok (.if_icmp .ge 83, 3) := by decide +kernel
theorem dX2_read_29 : decode cX2_read 29 = .ok (.iconst 3, 1) := by decide +kernel
theorem dX2_read_30 : decode cX2_read 30 = .ok (.iload_n 1, 1) := by decide +kernel
theorem dX2_read_31 : decode cX2_read 31 = .ok (.imul, 1) := by decide +kernel
theorem dX2_read_32 : decode cX2_read 32 = .ok (.istore_n 2, 1) := by decide +kernel
theorem dX2_read_33 : decode cX2_read 33 = .ok (.aload_n 0, 1) := by decide +kernel
theorem dX2_read_34 : decode cX2_read 34 = .ok (.iload_n 2, 1) := by decide +kernel
theorem dX2_read_35 : decode cX2_read 35 = .ok (.invokevirtual 29, 3) := by decide +kernel
theorem dX2_read_38 : decode cX2_read 38 = .ok (.ifCond .eq 50, 3) := by decide +kernel
theorem dX2_read_41 : decode cX2_read 41 = .ok (.aload_n 0, 1) := by decide +kernel
theorem dX2_read_42 : decode cX2_read 42 = .ok (.bipush 44, 2) := by decide +kernel
theorem dX2_read_44 : decode cX2_read 44 = .ok (.invokevirtual 33, 3) := by decide +kernel
theorem dX2_read_47 : decode cX2_read 47 = .ok (.ifCond .eq 41, 3) := by decide +kernel
theorem dX2_read_50 : decode cX2_read 50 = .ok (.aload_n 0, 1) := by decide +kernel
theorem dX2_read_51 : decode cX2_read 51 = .ok (.iload_n 2, 1) := by decide +kernel
theorem dX2_read_52 : decode cX2_read 52 = .ok (.iconst 1, 1) := by decide +kernel
theorem dX2_read_53 : decode cX2_read 53 = .ok (.iadd, 1) := by decide +kernel
theorem dX2_read_54 : decode cX2_read 54 = .ok (.invokevirtual 29, 3) := by decide +kernel
theorem dX2_read_57 : decode cX2_read 57 = .ok (.ifCond .eq 31, 3) := by decide +kernel
theorem dX2_read_60 : decode cX2_read 60 = .ok (.aload_n 0, 1) := by decide +kernel
theorem dX2_read_61 : decode cX2_read 61 = .ok (.bipush 44, 2) := by decide +kernel
theorem dX2_read_63 : decode cX2_read 63 = .ok (.invokevirtual 33, 3) := by decide +kernel
theorem dX2_read_66 : decode cX2_read 66 = .ok (.ifCond .eq 22, 3) := by decide +kernel
theorem dX2_read_69 : decode cX2_read 69 = .ok (.aload_n 0, 1) := by decide +kernel
theorem dX2_read_70 : decode cX2_read 70 = .ok (.iload_n 2, 1) := by decide +kernel
theorem dX2_read_71 : decode cX2_read 71 = .ok (.iconst 2, 1) := by decide +kernel
theorem dX2_read_72 : decode cX2_read 72 = .ok (.iadd, 1) := by decide +kernel
theorem dX2_read_73 : decode cX2_read 73 = .ok (.invokevirtual 29, 3) := by decide +kernel
theorem dX2_read_76 : decode cX2_read 76 = .ok (.ifCond .eq 12, 3) := by decide +kernel
theorem dX2_read_79 : decode cX2_read 79 = .ok (.aload_n 0, 1) := by decide +kernel
theorem dX2_read_80 : decode cX2_read 80 = .ok (.bipush 59, 2) := by decide +kernel
theorem dX2_read_82 : decode cX2_read 82 = .ok (.invokevirtual 33, 3) := by decide +kernel
theorem dX2_read_85 : decode cX2_read 85 = .ok (.ifCond .ne 8, 3) := by decide +kernel
theorem dX2_read_88 : decode cX2_read 88 = .ok (.aload_n 0, 1) := by decide +kernel
theorem dX2_read_89 : decode cX2_read 89 = .ok (.getfield 26, 3) := by decide +kernel
theorem dX2_read_92 : decode cX2_read 92 = .ok (.ireturn, 1) := by decide +kernel
theorem dX2_read_93 : decode cX2_read 93 = .ok (.aload_n 0, 1) := by decide +kernel
theorem dX2_read_94 : decode cX2_read 94 = .ok (.dup, 1) := by decide +kernel
theorem dX2_read_95 : decode cX2_read 95 = .ok (.getfield 23, 3) := by decide +kernel
theorem dX2_read_98 : decode cX2_read 98 = .ok (.iconst 1, 1) := by decide +kernel
theorem dX2_read_99 : decode cX2_read 99 = .ok (.iadd, 1) := by decide +kernel
theorem dX2_read_100 : decode cX2_read 100 = .ok (.putfield 23, 3) := by decide +kernel
theorem dX2_read_103 : decode cX2_read 103 = .ok (.iinc 1 1, 3) := by decide +kernel
theorem dX2_read_106 : decode cX2_read 106 = .ok (.goto (-94), 3) := by decide +kernel
theorem dX2_read_109 : decode cX2_read 109 = .ok (.iconst (-1), 1) := by decide +kernel
theorem dX2_read_110 : decode cX2_read 110 = .ok (.ireturn, 1) := by decide +kernel
set_option maxRecDepth 20000 in
theorem ggX2_readNumber_X2_readSign : GoodIn wsX2_readNumber wsX2_readSign := goodIn_r _ [7, 1, 8, 9, 10, 6, 11, 12, 13, 17, 18, 19, 20, 21] (by decide +kernel) (by decide +kernel)
set_option maxRecDepth 20000 in
theorem gX2_readNumber_X2_readSign : GoodIn wsX2_readNumber (wsV RX2 33 RX2 yX2_readSign wsX2_readSign) := goodIn_app (goodIn_of _ (by decide +kernel)) ggX2_readNumber_X2_readSign
set_option maxRecDepth 20000 in
theorem ggX2_readNumber_X2_next : GoodIn wsX2_readNumber wsX2_next := goodIn_r _ [11, 1, 12, 13, 17, 18, 19, 20, 21] (by decide +kernel) (by decide +kernel)
set_option maxRecDepth 20000 in
theorem gX2_readNumber_X2_next : GoodIn wsX2_readNumber (wsV RX2 36 RX2 yX2_next wsX2_next) := goodIn_app (goodIn_of _ (by decide +kernel)) ggX2_readNumber_X2_next
set_option maxRecDepth 20000 in
theorem ggX2_readNumber_X5_isWithin : GoodIn wsX2_readNumber wsX5_isWithin := goodIn_r _ [16] (by decide +kernel) (by decide +kernel)
set_option maxRecDepth 20000 in
theorem gX2_readNumber_X5_isWithin_n40 : GoodIn wsX2_readNumber (wsX5_isWithin) := ggX2_readNumber_X5_isWithin
theorem dX2_readNumber_0 : decode cX2_readNumber 0 = .ok (.aload_n 0, 1) := by decide +kernel
theorem dX2_readNumber_1 : decode cX2_readNumber 1 = .ok (.bipush 45, 2) := by decide +kernel
theorem dX2_readNumber_3 : decode cX2_readNumber 3 = .ok (.invokevirtual 33, 3) := by decide +kernel
theorem dX2_readNumber_6 : decode cX2_readNumber 6 = .ok (.istore_n 2, 1) := by decide +kernel
theorem dX2_readNumber_7 : decode cX2_readNumber 7 = .ok (.iconst 0, 1) := by decide +kernel
theorem dX2_readNumber_8 : decode cX2_readNumber 8 = .ok (.istore_n 3, 1) := by decide +kernel
theorem dX2_readNumber_9 : decode cX2_readNumber 9 = .ok (.iconst 0, 1) := by decide +kernel
theorem dX2_readNumber_10 : decode cX2_readNumber 10 = .ok (.istore 4, 2) := by decide +kernel
theorem dX2_readNumber_12 : decode cX2_readNumber 12 = .ok (.iload_n 3, 1) := by decide +kernel
theorem dX2_readNumber_13 : decode cX2_readNumber 13 = .ok (.iconst 4, 1) := by decide +kernel
theorem dX2_readNumber_14 : decode cX2_readNumber 14 = .ok (.if_icmp .ge 48, 3) := by decide +kernel
theorem dX2_readNumber_17 : decode cX2_readNumber 17 = .ok (.aload_n 0, 1) := by decide +kernel
theorem dX2_readNumber_18 : decode cX2_readNumber 18 = .ok (.invokevirtual 36, 3) := by decide +kernel
theorem dX2_readNumber_21 : decode cX2_readNumber 21 = .ok (.bipush 48, 2) := by decide +kernel
theorem dX2_readNumber_23 : decode cX2_readNumber 23 = .ok (.bipush 57, 2) := by decide +kernel
theorem dX2_readNumber_25 : decode cX2_readNumber 25 = .ok (.invokestatic 40, 3) := by decide +kernel
theorem dX2_readNumber_28 : decode cX2_readNumber 28 = .ok (.ifCond .eq 34, 3) := by decide +kernel
theorem dX2_readNumber_31 : decode cX2_readNumber 31 = .ok (.bipush 10, 2) := by decide +kernel
theorem dX2_readNumber_33 : decode cX2_readNumber 33 = .ok (.iload 4, 2) := by decide +kernel
theorem dX2_readNumber_35 : decode cX2_readNumber 35 = .ok (.imul, 1) := by decide +kernel
theorem dX2_readNumber_36 : decode cX2_readNumber 36 = .ok (.aload_n 0, 1) := by decide +kernel
theorem dX2_readNumber_37 : decode cX2_readNumber 37 = .ok (.invokevirtual 36, 3) := by decide +kernel
theorem dX2_readNumber_40 : decode cX2_readNumber 40 = .ok (.iadd, 1) := by decide +kernel
theorem dX2_readNumber_41 : decode cX2_readNumber 41 = .ok (.bipush 48, 2) := by decide +kernel
theorem dX2_readNumber_43 : decode cX2_readNumber 43 = .ok (.isub, 1) := by decide +kernel
theorem dX2_readNumber_44 : decode cX2_readNumber 44 = .ok (.istore 4, 2) := by decide +kernel
theorem dX2_readNumber_46 : decode cX2_readNumber 46 = .ok (.aload_n 0, 1) := by decide +kernel
theorem dX2_readNumber_47 : decode cX2_readNumber 47 = .ok (.dup, 1) := by decide +kernel
theorem dX2_readNumber_48 : decode cX2_readNumber 48 = .ok (.getfield 26, 3) := by decide +kernel
theorem dX2_readNumber_51 : decode cX2_readNumber 51 = .ok (.iconst 1, 1) := by decide +kernel
theorem dX2_readNumber_52 : decode cX2_readNumber 52 = .ok (.iadd, 1) := by decide +kernel
theorem dX2_readNumber_53 : decode cX2_readNumber 53 = .ok (.putfield 26, 3) := by decide +kernel
theorem dX2_readNumber_56 : decode cX2_readNumber 56 = .ok (.iinc 3 1, 3) := by decide +kernel
theorem dX2_readNumber_59 : decode cX2_readNumber 59 = .ok (.goto (-47), 3) := by decide +kernel
theorem dX2_readNumber_62 : decode cX2_readNumber 62 = .ok (.aload_n 0, 1) := by decide +kernel
theorem dX2_readNumber_63 : decode cX2_readNumber 63 = .ok (.getfield 19, 3) := by decide +kernel
theorem dX2_readNumber_66 : decode cX2_readNumber 66 = .ok (.iload_n 1, 1) := by decide +kernel
theorem dX2_readNumber_67 : decode cX2_readNumber 67 = .ok (.iload_n 2, 1) := by decide +kernel
theorem dX2_readNumber_68 : decode cX2_readNumber 68 = .ok (.ifCond .eq 9, 3) := by decide +kernel
theorem dX2_readNumber_71 : decode cX2_readNumber 71 = .ok (.iload 4, 2) := by decide +kernel
theorem dX2_readNumber_73 : decode cX2_readNumber 73 = .ok (.ineg, 1) := by decide +kernel
theorem dX2_readNumber_74 : decode cX2_readNumber 74 = .ok (.goto 5, 3) := by decide +kernel
theorem dX2_readNumber_77 : decode cX2_readNumber 77 = .ok (.iload 4, 2) := by decide +kernel
theorem dX2_readNumber_79 : decode cX2_readNumber 79 = .ok (.iastore, 1) := by decide +kernel
theorem dX2_readNumber_80 : decode cX2_readNumber 80 = .ok (.iload_n 3, 1) := by decide +kernel
theorem dX2_readNumber_81 : decode cX2_readNumber 81 = .ok (.ifCond .le 7, 3) := by decide +kernel
theorem dX2_readNumber_84 : decode cX2_readNumber 84 = .ok (.iconst 1, 1) := by decide +kernel
theorem dX2_readNumber_85 : decode cX2_readNumber 85 = .ok (.goto 4, 3) := by decide +kernel
theorem dX2_readNumber_88 : decode cX2_readNumber 88 = .ok (.iconst 0, 1) := by decide +kernel
theorem dX2_readNumber_89 : decode cX2_readNumber 89 = .ok (.ireturn, 1) := by decide +kernel
set_option maxRecDepth 20000 in
theorem ggX2_readSign_X2_next : GoodIn wsX2_readSign wsX2_next := goodIn_r _ [6, 1, 7, 8, 9, 10, 11, 12, 13] (by decide +kernel) (by decide +kernel)
set_option maxRecDepth 20000 in
theorem gX2_readSign_X2_next : GoodIn wsX2_readSign (wsV RX2 36 RX2 yX2_next wsX2_next) := goodIn_app (goodIn_of _ (by decide +kernel)) ggX2_readSign_X2_next
theorem dX2_readSign_0 : decode cX2_readSign 0 = .ok (.aload_n 0, 1) := by decide +kernel
theorem dX2_readSign_1 : decode cX2_readSign 1 = .ok (.invokevirtual 36, 3) := by decide +kernel
theorem dX2_readSign_4 : decode cX2_readSign 4 = .ok (.iload_n 1, 1) := by decide +kernel
theorem dX2_readSign_5 : decode cX2_readSign 5 = .ok (.if_icmp .eq 5, 3) := by decide +kernel
theorem dX2_readSign_8 : decode cX2_readSign 8 = .ok (.iconst 0, 1) := by decide +kernel
theorem dX2_readSign_9 : decode cX2_readSign 9 = .ok (.ireturn, 1) := by decide +kernel
theorem dX2_readSign_10 : decode cX2_readSign 10 = .ok (.aload_n 0, 1) := by decide +kernel
theorem dX2_readSign_11 : decode cX2_readSign 11 = .ok (.dup, 1) := by decide +kernel
theorem dX2_readSign_12 : decode cX2_readSign 12 = .ok (.getfield 26, 3) := by decide +kernel
theorem dX2_readSign_15 : decode cX2_readSign 15 = .ok (.iconst 1, 1) := by decide +kernel
theorem dX2_readSign_16 : decode cX2_readSign 16 = .ok (.iadd, 1) := by decide +kernel
theorem dX2_readSign_17 : decode cX2_readSign 17 = .ok (.putfield 26, 3) := by decide +kernel
theorem dX2_readSign_20 : decode cX2_readSign 20 = .ok (.iconst 1, 1) := by decide +kernel
theorem dX2_readSign_21 : decode cX2_readSign 21 = .ok (.ireturn, 1) := by decide +kernel
theorem dX2_next_0 : decode cX2_next 0 = .ok (.aload_n 0, 1) := by decide +kernel
theorem dX2_next_1 : decode cX2_next 1 = .ok (.getfield 26, 3) := by decide +kernel
theorem dX2_next_4 : decode cX2_next 4 = .ok (.aload_n 0, 1) := by decide +kernel
theorem dX2_next_5 : decode cX2_next 5 = .ok (.getfield 15, 3) := by decide +kernel
theorem dX2_next_8 : decode cX2_next 8 = .ok (.if_icmp .ge 15, 3) := by decide +kernel
theorem dX2_next_11 : decode cX2_next 11 = .ok (.aload_n 0, 1) := by decide +kernel
theorem dX2_next_12 : decode cX2_next 12 = .ok (.getfield 9, 3) := by decide +kernel
theorem dX2_next_15 : decode cX2_next 15 = .ok (.aload_n 0, 1) := by decide +kernel
theorem dX2_next_16 : decode cX2_next 16 = .ok (.getfield 26, 3) := by decide +kernel
theorem dX2_next_19 : decode cX2_next 19 = .ok (.baload, 1) := by decide +kernel
theorem dX2_next_20 : decode cX2_next 20 = .ok (.goto 4, 3) := by decide +kernel
