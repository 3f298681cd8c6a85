set_option maxRecDepth 20000 in
theorem gX6_replay_X6_save : GoodIn wsX6_replay (wsV RX6 87 RX6 yX6_save wsX6_save) := goodIn_app (goodIn_of _ (by decide +kernel)) ggX6_replay_X6_save
set_option maxRecDepth 20000 in
theorem ggX6_replay_X6_takes : GoodIn wsX6_replay wsX6_takes := goodIn_r _ [38, 39, 34, 40, 41, 42, 43, 44, 45, 46, 47, 48, 12, 49, 50, 51, 52, 53, 54, 55, 56, 57, 58, 59, 60, 61, 62, 63, 25, 26, 27, 64, 65, 66, 67, 68, 69, 70, 71, 72, 73, 74, 75, 76, 77, 78, 79, 80, 81, 82, 83, 84, 85, 86, 87, 88, 89, 90, 91, 92, 93, 94, 95, 96, 97, 98, 99, 100, 101] (by decide +kernel) (by decide +kernel)
set_option maxRecDepth 20000 in
theorem gX6_replay_X6_takes : GoodIn wsX6_replay (wsV RX6 159 RX6 yX6_takes wsX6_takes) := goodIn_app (goodIn_of _ (by decide +kernel)) ggX6_replay_X6_takes
theorem dX6_replay_0 : decode cX6_replay 0 = .ok (.aload_n 0, 1) := by decide +kernel
theorem dX6_replay_1 : decode cX6_replay 1 = .ok (.iconst 0, 1) := by decide +kernel
theorem dX6_replay_2 : decode cX6_replay 2 = .ok (.putfield 54, 3) := by decide +kernel
theorem dX6_replay_5 : decode cX6_replay 5 = .ok (.aload_n 0, 1) := by decide +kernel
theorem dX6_replay_6 : decode cX6_replay 6 = .ok (.iconst 0, 1) := by decide +kernel
theorem dX6_replay_7 : decode cX6_replay 7 = .ok (.putfield 206, 3) := by decide +kernel
theorem dX6_replay_10 : decode cX6_replay 10 = .ok (.iconst 0, 1) := by decide +kernel
theorem dX6_replay_11 : decode cX6_replay 11 = .ok (.istore_n 1, 1) := by decide +kernel
theorem dX6_replay_12 : decode cX6_replay 12 = .ok (.aload_n 0, 1) := by decide +kernel
theorem dX6_replay_13 : decode cX6_replay 13 = .ok (.getfield 206, 3) := by decide +kernel
theorem dX6_replay_16 : decode cX6_replay 16 = .ok (.aload_n 0, 1) := by decide +kernel
theorem dX6_replay_17 : decode cX6_replay 17 = .ok (.getfield 203, 3) := by decide +kernel
theorem dX6_replay_20 : decode cX6_replay 20 = .ok (.if_icmp .lt 9, 3) := by decide +kernel
theorem dX6_replay_23 : decode cX6_replay 23 = .ok (.iload_n 1, 1) := by decide +kernel
theorem dX6_replay_24 : decode cX6_replay 24 = .ok (.iconst 3, 1) := by decide +kernel
theorem dX6_replay_25 : decode cX6_replay 25 = .ok (.irem, 1) := by decide +kernel
theorem dX6_replay_26 : decode cX6_replay 26 = .ok (.ifCond .eq 25, 3) := by decide +kernel
theorem dX6_replay_29 : decode cX6_replay 29 = .ok (.aload_n 0, 1) := by decide +kernel
theorem dX6_replay_30 : decode cX6_replay 30 = .ok (.iload_n 1, 1) := by decide +kernel
theorem dX6_replay_31 : decode cX6_replay 31 = .ok (.invokevirtual 220, 3) := by decide +kernel
theorem dX6_replay_34 : decode cX6_replay 34 = .ok (.ifCond .ne 11, 3) := by decide +kernel
theorem dX6_replay_37 : decode cX6_replay 37 = .ok (.bipush (-10), 2) := by decide +kernel
theorem dX6_replay_39 : decode cX6_replay 39 = .ok (.aload_n 0, 1) := by decide +kernel
theorem dX6_replay_40 : decode cX6_replay 40 = .ok (.getfield 206, 3) := by decide +kernel
theorem dX6_replay_43 : decode cX6_replay 43 = .ok (.isub, 1) := by decide +kernel
theorem dX6_replay_44 : decode cX6_replay 44 = .ok (.ireturn, 1) := by decide +kernel
theorem dX6_replay_45 : decode cX6_replay 45 = .ok (.iinc 1 1, 3) := by decide +kernel
theorem dX6_replay_48 : decode cX6_replay 48 = .ok (.goto (-36), 3) := by decide +kernel
theorem dX6_replay_51 : decode cX6_replay 51 = .ok (.iconst 0, 1) := by decide +kernel
theorem dX6_replay_52 : decode cX6_replay 52 = .ok (.istore_n 2, 1) := by decide +kernel
theorem dX6_replay_53 : decode cX6_replay 53 = .ok (.iload_n 2, 1) := by decide +kernel
theorem dX6_replay_54 : decode cX6_replay 54 = .ok (.iload_n 1, 1) := by decide +kernel
theorem dX6_replay_55 : decode cX6_replay 55 = .ok (.if_icmp .ge 62, 3) := by decide +kernel
theorem dX6_replay_58 : decode cX6_replay 58 = .ok (.aload_n 0, 1) := by decide +kernel
theorem dX6_replay_59 : decode cX6_replay 59 = .ok (.getfield 32, 3) := by decide +kernel
theorem dX6_replay_62 : decode cX6_replay 62 = .ok (.iload_n 2, 1) := by decide +kernel
theorem dX6_replay_63 : decode cX6_replay 63 = .ok (.iaload, 1) := by decide +kernel
theorem dX6_replay_64 : decode cX6_replay 64 = .ok (.i2l, 1) := by decide +kernel
theorem dX6_replay_65 : decode cX6_replay 65 = .ok (.iload_n 2, 1) := by decide +kernel
theorem dX6_replay_66 : decode cX6_replay 66 = .ok (.iconst 3, 1) := by decide +kernel
theorem dX6_replay_67 : decode cX6_replay 67 = .ok (.irem, 1) := by decide +kernel
theorem dX6_replay_68 : decode cX6_replay 68 = .ok (.iconst 2, 1) := by decide +kernel
theorem dX6_replay_69 : decode cX6_replay 69 = .ok (.if_icmp .ne 9, 3) := by decide +kernel
theorem dX6_replay_72 : decode cX6_replay 72 = .ok (.ldc2_w 155, 3) := by decide +kernel
theorem dX6_replay_75 : decode cX6_replay 75 = .ok (.goto 6, 3) := by decide +kernel
theorem dX6_replay_78 : decode cX6_replay 78 = .ok (.ldc2_w 61, 3) := by decide +kernel
theorem dX6_replay_81 : decode cX6_replay 81 = .ok (.iload_n 2, 1) := by decide +kernel
theorem dX6_replay_82 : decode cX6_replay 82 = .ok (.iconst 3, 1) := by decide +kernel
theorem dX6_replay_83 : decode cX6_replay 83 = .ok (.irem, 1) := by decide +kernel
theorem dX6_replay_84 : decode cX6_replay 84 = .ok (.iconst 2, 1) := by decide +kernel
theorem dX6_replay_85 : decode cX6_replay 85 = .ok (.if_icmp .ne 9, 3) := by decide +kernel
theorem dX6_replay_88 : decode cX6_replay 88 = .ok (.ldc2_w 157, 3) := by decide +kernel
theorem dX6_replay_91 : decode cX6_replay 91 = .ok (.goto 6, 3) := by decide +kernel
theorem dX6_replay_94 : decode cX6_replay 94 = .ok (.ldc2_w 63, 3) := by decide +kernel
theorem dX6_replay_97 : decode cX6_replay 97 = .ok (.invokestatic 65, 3) := by decide +kernel
theorem dX6_replay_100 : decode cX6_replay 100 = .ok (.ifCond .ne 11, 3) := by decide +kernel
theorem dX6_replay_103 : decode cX6_replay 103 = .ok (.sipush (-1000), 3) := by decide +kernel
theorem dX6_replay_106 : decode cX6_replay 106 = .ok (.iload_n 2, 1) := by decide +kernel
theorem dX6_replay_107 : decode cX6_replay 107 = .ok (.iconst 3, 1) := by decide +kernel
theorem dX6_replay_108 : decode cX6_replay 108 = .ok (.idiv, 1) := by decide +kernel
theorem dX6_replay_109 : decode cX6_replay 109 = .ok (.isub, 1) := by decide +kernel
theorem dX6_replay_110 : decode cX6_replay 110 = .ok (.ireturn, 1) := by decide +kernel
theorem dX6_replay_111 : decode cX6_replay 111 = .ok (.iinc 2 1, 3) := by decide +kernel
theorem dX6_replay_114 : decode cX6_replay 114 = .ok (.goto (-61), 3) := by decide +kernel
theorem dX6_replay_117 : decode cX6_replay 117 = .ok (.aload_n 0, 1) := by decide +kernel
theorem dX6_replay_118 : decode cX6_replay 118 = .ok (.invokevirtual 87, 3) := by decide +kernel
theorem dX6_replay_121 : decode cX6_replay 121 = .ok (.iconst 0, 1) := by decide +kernel
theorem dX6_replay_122 : decode cX6_replay 122 = .ok (.istore_n 2, 1) := by decide +kernel
theorem dX6_replay_123 : decode cX6_replay 123 = .ok (.iload_n 2, 1) := by decide +kernel
theorem dX6_replay_124 : decode cX6_replay 124 = .ok (.iload_n 1, 1) := by decide +kernel
theorem dX6_replay_125 : decode cX6_replay 125 = .ok (.if_icmp .ge 39, 3) := by decide +kernel
theorem dX6_replay_128 : decode cX6_replay 128 = .ok (.aload_n 0, 1) := by decide +kernel
theorem dX6_replay_129 : decode cX6_replay 129 = .ok (.aload_n 0, 1) := by decide +kernel
theorem dX6_replay_130 : decode cX6_replay 130 = .ok (.getfield 32, 3) := by decide +kernel
theorem dX6_replay_133 : decode cX6_replay 133 = .ok (.iload_n 2, 1) := by decide +kernel
theorem dX6_replay_134 : decode cX6_replay 134 = .ok (.iaload, 1) := by decide +kernel
theorem dX6_replay_135 : decode cX6_replay 135 = .ok (.i2l, 1) := by decide +kernel
theorem dX6_replay_136 : decode cX6_replay 136 = .ok (.aload_n 0, 1) := by decide +kernel
theorem dX6_replay_137 : decode cX6_replay 137 = .ok (.getfield 32, 3) := by decide +kernel
theorem dX6_replay_140 : decode cX6_replay 140 = .ok (.iload_n 2, 1) := by decide +kernel
theorem dX6_replay_141 : decode cX6_replay 141 = .ok (.iconst 1, 1) := by decide +kernel
theorem dX6_replay_142 : decode cX6_replay 142 = .ok (.iadd, 1) := by decide +kernel
theorem dX6_replay_143 : decode cX6_replay 143 = .ok (.iaload, 1) := by decide +kernel
theorem dX6_replay_144 : decode cX6_replay 144 = .ok (.i2l, 1) := by decide +kernel
theorem dX6_replay_145 : decode cX6_replay 145 = .ok (.aload_n 0, 1) := by decide +kernel
theorem dX6_replay_146 : decode cX6_replay 146 = .ok (.getfield 32, 3) := by decide +kernel
theorem dX6_replay_149 : decode cX6_replay 149 = .ok (.iload_n 2, 1) := by decide +kernel
theorem dX6_replay_150 : decode cX6_replay 150 = .ok (.iconst 2, 1) := by decide +kernel
theorem dX6_replay_151 : decode cX6_replay 151 = .ok (.iadd, 1) := by decide +kernel
theorem dX6_replay_152 : decode cX6_replay 152 = .ok (.iaload, 1) := by decide +kernel
theorem dX6_replay_153 : decode cX6_replay 153 = .ok (.i2l, 1) := by decide +kernel
theorem dX6_replay_154 : decode cX6_replay 154 = .ok (.invokevirtual 159, 3) := by decide +kernel
theorem dX6_replay_157 : decode cX6_replay 157 = .ok (.lstore_n 3, 1) := by decide +kernel
theorem dX6_replay_158 : decode cX6_replay 158 = .ok (.iinc 2 3, 3) := by decide +kernel
theorem dX6_replay_161 : decode cX6_replay 161 = .ok (.goto (-38), 3) := by decide +kernel
theorem dX6_replay_164 : decode cX6_replay 164 = .ok (.iload_n 1, 1) := by decide +kernel
theorem dX6_replay_165 : decode cX6_replay 165 = .ok (.iconst 3, 1) := by decide +kernel
theorem dX6_replay_166 : decode cX6_replay 166 = .ok (.idiv, 1) := by decide +kernel
theorem dX6_replay_167 : decode cX6_replay 167 = .ok (.ireturn, 1) := by decide +kernel
set_option maxRecDepth 20000 in
theorem ggX6_undo_X6_goes : GoodIn wsX6_undo wsX6_goes := goodIn_r _ [8, 9, 10, 11, 12, 13, 14, 15, 16, 17, 18, 19, 20, 21, 22] (by decide +kernel) (by decide +kernel)
set_option maxRecDepth 20000 in
theorem gX6_undo_X6_goes : GoodIn wsX6_undo (wsV RX6 83 RX6 yX6_goes wsX6_goes) := goodIn_app (goodIn_of _ (by decide +kernel)) ggX6_undo_X6_goes
theorem dX6_undo_0 : decode cX6_undo 0 = .ok (.aload_n 0, 1) := by decide +kernel
theorem dX6_undo_1 : decode cX6_undo 1 = .ok (.aload_n 0, 1) := by decide +kernel
theorem dX6_undo_2 : decode cX6_undo 2 = .ok (.getfield 58, 3) := by decide +kernel
theorem dX6_undo_5 : decode cX6_undo 5 = .ok (.ifCond .le 7, 3) := by decide +kernel
theorem dX6_undo_8 : decode cX6_undo 8 = .ok (.iconst 1, 1) := by decide +kernel
theorem dX6_undo_9 : decode cX6_undo 9 = .ok (.goto 4, 3) := by decide +kernel
theorem dX6_undo_12 : decode cX6_undo 12 = .ok (.iconst 0, 1) := by decide +kernel
theorem dX6_undo_13 : decode cX6_undo 13 = .ok (.iconst 1, 1) := by decide +kernel
theorem dX6_undo_14 : decode cX6_undo 14 = .ok (.invokevirtual 83, 3) := by decide +kernel
theorem dX6_undo_17 : decode cX6_undo 17 = .ok (.ifCond .ne 5, 3) := by decide +kernel
theorem dX6_undo_20 : decode cX6_undo 20 = .ok (.iconst 0, 1) := by decide +kernel
theorem dX6_undo_21 : decode cX6_undo 21 = .ok (.ireturn, 1) := by decide +kernel
theorem dX6_undo_22 : decode cX6_undo 22 = .ok (.aload_n 0, 1) := by decide +kernel
theorem dX6_undo_23 : decode cX6_undo 23 = .ok (.dup, 1) := by decide +kernel
theorem dX6_undo_24 : decode cX6_undo 24 = .ok (.getfield 58, 3) := by decide +kernel
theorem dX6_undo_27 : decode cX6_undo 27 = .ok (.iconst 1, 1) := by decide +kernel
theorem dX6_undo_28 : decode cX6_undo 28 = .ok (.isub, 1) := by decide +kernel
theorem dX6_undo_29 : decode cX6_undo 29 = .ok (.putfield 58, 3) := by decide +kernel
theorem dX6_undo_32 : decode cX6_undo 32 = .ok (.iconst 0, 1) := by decide +kernel
theorem dX6_undo_33 : decode cX6_undo 33 = .ok (.istore_n 1, 1) := by decide +kernel
theorem dX6_undo_34 : decode cX6_undo 34 = .ok (.iload_n 1, 1) := by decide +kernel
theorem dX6_undo_35 : decode cX6_undo 35 = .ok (.bipush 76, 2) := by decide +kernel
theorem dX6_undo_37 : decode cX6_undo 37 = .ok (.if_icmp .ge 29, 3) := by decide +kernel
theorem dX6_undo_40 : decode cX6_undo 40 = .ok (.aload_n 0, 1) := by decide +kernel
theorem dX6_undo_41 : decode cX6_undo 41 = .ok (.getfield 7, 3) := by decide +kernel
theorem dX6_undo_44 : decode cX6_undo 44 = .ok (.iload_n 1, 1) := by decide +kernel
theorem dX6_undo_45 : decode cX6_undo 45 = .ok (.aload_n 0, 1) := by decide +kernel
theorem dX6_undo_46 : decode cX6_undo 46 = .ok (.getfield 13, 3) := by decide +kernel
theorem dX6_undo_49 : decode cX6_undo 49 = .ok (.bipush 76, 2) := by decide +kernel
theorem dX6_undo_51 : decode cX6_undo 51 = .ok (.aload_n 0, 1) := by decide +kernel
theorem dX6_undo_52 : decode cX6_undo 52 = .ok (.getfield 58, 3) := by decide +kernel
theorem dX6_undo_55 : decode cX6_undo 55 = .ok (.imul, 1) := by decide +kernel
theorem dX6_undo_56 : decode cX6_undo 56 = .ok (.iload_n 1, 1) := by decide +kernel
theorem dX6_undo_57 : decode cX6_undo 57 = .ok (.iadd, 1) := by decide +kernel
theorem dX6_undo_58 : decode cX6_undo 58 = .ok (.laload, 1) := by decide +kernel
theorem dX6_undo_59 : decode cX6_undo 59 = .ok (.lastore, 1) := by decide +kernel
theorem dX6_undo_60 : decode cX6_undo 60 = .ok (.iinc 1 1, 3) := by decide +kernel
theorem dX6_undo_63 : decode cX6_undo 63 = .ok (.goto (-29), 3) := by decide +kernel
theorem dX6_undo_66 : decode cX6_undo 66 = .ok (.aload_n 0, 1) := by decide +kernel
theorem dX6_undo_67 : decode cX6_undo 67 = .ok (.getfield 58, 3) := by decide +kernel
theorem dX6_undo_70 : decode cX6_undo 70 = .ok (.ireturn, 1) := by decide +kernel
theorem dX6_sums_0 : decode cX6_sums 0 = .ok (.lload_n 1, 1) := by decide +kernel
theorem dX6_sums_1 : decode cX6_sums 1 = .ok (.lstore 5, 2) := by decide +kernel
theorem dX6_sums_3 : decode cX6_sums 3 = .ok (.iconst 0, 1) := by decide +kernel
theorem dX6_sums_4 : decode cX6_sums 4 = .ok (.istore 7, 2) := by decide +kernel
theorem dX6_sums_6 : decode cX6_sums 6 = .ok (.iload 7, 2) := by decide +kernel
theorem dX6_sums_8 : decode cX6_sums 8 = .ok (.iload 4, 2) := by decide +kernel
theorem dX6_sums_10 : decode cX6_sums 10 = .ok (.if_icmp .ge 27, 3) := by decide +kernel
theorem dX6_sums_13 : decode cX6_sums 13 = .ok (.ldc2_w 223, 3) := by decide +kernel
theorem dX6_sums_16 : decode cX6_sums 16 = .ok (.lload 5, 2) := by decide +kernel
theorem dX6_sums_18 : decode cX6_sums 18 = .ok (.lmul, 1) := by decide +kernel
theorem dX6_sums_19 : decode cX6_sums 19 = .ok (.aload_n 0, 1) := by decide +kernel
theorem dX6_sums_20 : decode cX6_sums 20 = .ok (.getfield 7, 3) := by decide +kernel
theorem dX6_sums_23 : decode cX6_sums 23 = .ok (.iload_n 3, 1) := by decide +kernel
theorem dX6_sums_24 : decode cX6_sums 24 = .ok (.iload 7, 2) := by decide +kernel
theorem dX6_sums_26 : decode cX6_sums 26 = .ok (.iadd, 1) := by decide +kernel
theorem dX6_sums_27 : decode cX6_sums 27 = .ok (.laload, 1) := by decide +kernel
theorem dX6_sums_28 : decode cX6_sums 28 = .ok (.ladd, 1) := by decide +kernel
theorem dX6_sums_29 : decode cX6_sums 29 = .ok (.lstore 5, 2) := by decide +kernel
theorem dX6_sums_31 : decode cX6_sums 31 = .ok (.iinc 7 1, 3) := by decide +kernel
theorem dX6_sums_34 : decode cX6_sums 34 = .ok (.goto (-28), 3) := by decide +kernel
theorem dX6_sums_37 : decode cX6_sums 37 = .ok (.lload 5, 2) := by decide +kernel
theorem dX6_sums_39 : decode cX6_sums 39 = .ok (.lreturn, 1) := by decide +kernel
set_option maxRecDepth 20000 in
theorem ggX6_digest_X6_sums : GoodIn wsX6_digest wsX6_sums := goodIn_r _ [10, 4, 11, 25, 26, 27, 28, 29, 30, 31, 32, 33, 34, 35, 36, 37] (by decide +kernel) (by decide +kernel)
set_option maxRecDepth 20000 in
theorem gX6_digest_X6_sums : GoodIn wsX6_digest (wsV RX6 227 RX6 yX6_sums wsX6_sums) := goodIn_app (goodIn_of _ (by decide +kernel)) ggX6_digest_X6_sums
set_option maxRecDepth 20000 in
theorem ggX6_digest_X6_windowLong : GoodIn wsX6_digest wsX6_windowLong := goodIn_r _ [15, 11, 25, 26, 27, 28, 29, 30, 31, 32, 33, 34, 35, 36, 37] (by decide +kernel) (by decide +kernel)
set_option maxRecDepth 20000 in
theorem gX6_digest_X6_windowLong : GoodIn wsX6_digest (wsV RX6 166 RX6 yX6_windowLong wsX6_windowLong) := goodIn_app (goodIn_of _ (by decide +kernel)) ggX6_digest_X6_windowLong
set_option maxRecDepth 20000 in
theorem ggX6_digest_X6_determinantNow : GoodIn wsX6_digest wsX6_determinantNow := goodIn_r _ [19, 11, 20, 21, 22, 9, 23, 24, 12, 13, 14, 15, 25, 26, 27, 28, 29, 30, 31, 32, 33, 34, 35, 36, 37] (by decide +kernel) (by decide +kernel)
set_option maxRecDepth 20000 in
theorem gX6_digest_X6_determinantNow : GoodIn wsX6_digest (wsV RX6 169 RX6 yX6_determinantNow wsX6_determinantNow) := goodIn_app (goodIn_of _ (by decide +kernel)) ggX6_digest_X6_determinantNow
theorem dX6_digest_0 : decode cX6_digest 0 = .ok (.aload_n 0, 1) := by decide +kernel
theorem dX6_digest_1 : decode cX6_digest 1 = .ok (.iconst 0, 1) := by decide +kernel
theorem dX6_digest_2 : decode cX6_digest 2 = .ok (.putfield 54, 3) := by decide +kernel
theorem dX6_digest_5 : decode cX6_digest 5 = .ok (.aload_n 0, 1) := by decide +kernel
theorem dX6_digest_6 : decode cX6_digest 6 = .ok (.ldc2_w 225, 3) := by decide +kernel
theorem dX6_digest_9 : decode cX6_digest 9 = .ok (.aload_n 0, 1) := by decide +kernel
theorem dX6_digest_10 : decode cX6_digest 10 = .ok (.getfield 203, 3) := by decide +kernel
theorem dX6_digest_13 : decode cX6_digest 13 = .ok (.i2l, 1) := by decide +kernel
theorem dX6_digest_14 : decode cX6_digest 14 = .ok (.ladd, 1) := by decide +kernel
theorem dX6_digest_15 : decode cX6_digest 15 = .ok (.iconst 0, 1) := by decide +kernel
theorem dX6_digest_16 : decode cX6_digest 16 = .ok (.bipush 7, 2) := by decide +kernel
theorem dX6_digest_18 : decode cX6_digest 18 = .ok (.invokevirtual 227, 3) := by decide +kernel
theorem dX6_digest_21 : decode cX6_digest 21 = .ok (.lstore_n 1, 1) := by decide +kernel
theorem dX6_digest_22 : decode cX6_digest 22 = .ok (.iconst 0, 1) := by decide +kernel
theorem dX6_digest_23 : decode cX6_digest 23 = .ok (.istore_n 3, 1) := by decide +kernel
theorem dX6_digest_24 : decode cX6_digest 24 = .ok (.iload_n 3, 1) := by decide +kernel
theorem dX6_digest_25 : decode cX6_digest 25 = .ok (.iconst 3, 1) := by decide +kernel
theorem dX6_digest_26 : decode cX6_digest 26 = .ok (.if_icmp .ge 31, 3) := by decide +kernel
theorem dX6_digest_29 : decode cX6_digest 29 = .ok (.aload_n 0, 1) := by decide +kernel
theorem dX6_digest_30 : decode cX6_digest 30 = .ok (.aload_n 0, 1) := by decide +kernel
theorem dX6_digest_31 : decode cX6_digest 31 = .ok (.lload_n 1, 1) := by decide +kernel
theorem dX6_digest_32 : decode cX6_digest 32 = .ok (.bipush 7, 2) := by decide +kernel
theorem dX6_digest_34 : decode cX6_digest 34 = .ok (.iconst 2, 1) := by decide +kernel
theorem dX6_digest_35 : decode cX6_digest 35 = .ok (.iload_n 3, 1) := by decide +kernel
theorem dX6_digest_36 : decode cX6_digest 36 = .ok (.imul, 1) := by decide +kernel
theorem dX6_digest_37 : decode cX6_digest 37 = .ok (.iadd, 1) := by decide +kernel
theorem dX6_digest_38 : decode cX6_digest 38 = .ok (.iconst 2, 1) := by decide +kernel
theorem dX6_digest_39 : decode cX6_digest 39 = .ok (.invokevirtual 227, 3) := by decide +kernel
theorem dX6_digest_42 : decode cX6_digest 42 = .ok (.bipush 13, 2) := by decide +kernel
theorem dX6_digest_44 : decode cX6_digest 44 = .ok (.iload_n 3, 1) := by decide +kernel
theorem dX6_digest_45 : decode cX6_digest 45 = .ok (.iadd, 1) := by decide +kernel
theorem dX6_digest_46 : decode cX6_digest 46 = .ok (.iconst 1, 1) := by decide +kernel
theorem dX6_digest_47 : decode cX6_digest 47 = .ok (.invokevirtual 227, 3) := by decide +kernel
theorem dX6_digest_50 : decode cX6_digest 50 = .ok (.lstore_n 1, 1) := by decide +kernel
theorem dX6_digest_51 : decode cX6_digest 51 = .ok (.iinc 3 1, 3) := by decide +kernel
theorem dX6_digest_54 : decode cX6_digest 54 = .ok (.goto (-30), 3) := by decide +kernel
theorem dX6_digest_57 : decode cX6_digest 57 = .ok (.aload_n 0, 1) := by decide +kernel
theorem dX6_digest_58 : decode cX6_digest 58 = .ok (.lload_n 1, 1) := by decide +kernel
theorem dX6_digest_59 : decode cX6_digest 59 = .ok (.bipush 16, 2) := by decide +kernel
theorem dX6_digest_61 : decode cX6_digest 61 = .ok (.bipush 20, 2) := by decide +kernel
theorem dX6_digest_63 : decode cX6_digest 63 = .ok (.invokevirtual 227, 3) := by decide +kernel
theorem dX6_digest_66 : decode cX6_digest 66 = .ok (.lstore_n 1, 1) := by decide +kernel
theorem dX6_digest_67 : decode cX6_digest 67 = .ok (.ldc2_w 223, 3) := by decide +kernel
theorem dX6_digest_70 : decode cX6_digest 70 = .ok (.lload_n 1, 1) := by decide +kernel
theorem dX6_digest_71 : decode cX6_digest 71 = .ok (.lmul, 1) := by decide +kernel
theorem dX6_digest_72 : decode cX6_digest 72 = .ok (.aload_n 0, 1) := by decide +kernel
theorem dX6_digest_73 : decode cX6_digest 73 = .ok (.invokevirtual 166, 3) := by decide +kernel
theorem dX6_digest_76 : decode cX6_digest 76 = .ok (.i2l, 1) := by decide +kernel
theorem dX6_digest_77 : decode cX6_digest 77 = .ok (.ladd, 1) := by decide +kernel
theorem dX6_digest_78 : decode cX6_digest 78 = .ok (.lstore_n 1, 1) := by decide +kernel
theorem dX6_digest_79 : decode cX6_digest 79 = .ok (.ldc2_w 223, 3) := by decide +kernel
theorem dX6_digest_82 : decode cX6_digest 82 = .ok (.lload_n 1, 1) := by decide +kernel
theorem dX6_digest_83 : decode cX6_digest 83 = .ok (.lmul, 1) := by decide +kernel
theorem dX6_digest_84 : decode cX6_digest 84 = .ok (.aload_n 0, 1) := by decide +kernel
theorem dX6_digest_85 : decode cX6_digest 85 = .ok (.invokevirtual 169, 3) := by decide +kernel
theorem dX6_digest_88 : decode cX6_digest 88 = .ok (.ladd, 1) := by decide +kernel
theorem dX6_digest_89 : decode cX6_digest 89 = .ok (.lstore_n 1, 1) := by decide +kernel
theorem dX6_digest_90 : decode cX6_digest 90 = .ok (.ldc2_w 223, 3) := by decide +kernel
theorem dX6_digest_93 : decode cX6_digest 93 = .ok (.lload_n 1, 1) := by decide +kernel
theorem dX6_digest_94 : decode cX6_digest 94 = .ok (.lmul, 1) := by decide +kernel
theorem dX6_digest_95 : decode cX6_digest 95 = .ok (.aload_n 0, 1) := by decide +kernel
theorem dX6_digest_96 : decode cX6_digest 96 = .ok (.getfield 58, 3) := by decide +kernel
theorem dX6_digest_99 : decode cX6_digest 99 = .ok (.i2l, 1) := by decide +kernel
theorem dX6_digest_100 : decode cX6_digest 100 = .ok (.ladd, 1) := by decide +kernel
theorem dX6_digest_101 : decode cX6_digest 101 = .ok (.lreturn, 1) := by decide +kernel
theorem dJ9_floorDiv_f86c9_0 : decode cJ9_floorDiv_f86c9 0 = .ok (.lload_n 0, 1) := by decide +kernel
theorem dJ9_floorDiv_f86c9_1 : decode cJ9_floorDiv_f86c9 1 = .ok (.lload_n 2, 1) := by decide +kernel
theorem dJ9_floorDiv_f86c9_2 : decode cJ9_floorDiv_f86c9 2 = .ok (.ldiv, 1) := by decide +kernel
theorem dJ9_floorDiv_f86c9_3 : decode cJ9_floorDiv_f86c9 3 = .ok (.lstore 4, 2) := by decide +kernel
theorem dJ9_floorDiv_f86c9_5 : decode cJ9_floorDiv_f86c9 5 = .ok (.lload_n 0, 1) := by decide +kernel
theorem dJ9_floorDiv_f86c9_6 : decode cJ9_floorDiv_f86c9 6 = .ok (.lload_n 2, 1) := by decide +kernel
theorem dJ9_floorDiv_f86c9_7 : decode cJ9_floorDiv_f86c9 7 = .ok (.lxor, 1) := by decide +kernel
theorem dJ9_floorDiv_f86c9_8 : decode cJ9_floorDiv_f86c9 8 = .ok (.lconst 0, 1) := by decide +kernel
theorem dJ9_floorDiv_f86c9_9 : decode cJ9_floorDiv_f86c9 9 = .ok (.lcmp, 1) := by decide +kernel
theorem dJ9_floorDiv_f86c9_10 : decode cJ9_floorDiv_f86c9 10 = .ok (.ifCond .ge 17, 3) := by decide +kernel
theorem dJ9_floorDiv_f86c9_13 : decode cJ9_floorDiv_f86c9 13 = .ok (.lload 4, 2) := by decide +kernel
theorem dJ9_floorDiv_f86c9_15 : decode cJ9_floorDiv_f86c9 15 = .ok (.lload_n 2, 1) := by decide +kernel
theorem dJ9_floorDiv_f86c9_16 : decode cJ9_floorDiv_f86c9 16 = .ok (.lmul, 1) := by decide +kernel
theorem dJ9_floorDiv_f86c9_17 : decode cJ9_floorDiv_f86c9 17 = .ok (.lload_n 0, 1) := by decide +kernel
theorem dJ9_floorDiv_f86c9_18 : decode cJ9_floorDiv_f86c9 18 = .ok (.lcmp, 1) := by decide +kernel
theorem dJ9_floorDiv_f86c9_19 : decode cJ9_floorDiv_f86c9 19 = .ok (.ifCond .eq 8, 3) := by decide +kernel
theorem dJ9_floorDiv_f86c9_22 : decode cJ9_floorDiv_f86c9 22 = .ok (.lload 4, 2) := by decide +kernel
theorem dJ9_floorDiv_f86c9_24 : decode cJ9_floorDiv_f86c9 24 = .ok (.lconst 1, 1) := by decide +kernel
theorem dJ9_floorDiv_f86c9_25 : decode cJ9_floorDiv_f86c9 25 = .ok (.lsub, 1) := by decide +kernel
theorem dJ9_floorDiv_f86c9_26 : decode cJ9_floorDiv_f86c9 26 = .ok (.lreturn, 1) := by decide +kernel
theorem dJ9_floorDiv_f86c9_27 : decode cJ9_floorDiv_f86c9 27 = .ok (.lload 4, 2) := by decide +kernel
theorem dJ9_floorDiv_f86c9_29 : decode cJ9_floorDiv_f86c9 29 = .ok (.lreturn, 1) := by decide +kernel
theorem dJ9_floorMod_f86c9_0 : decode cJ9_floorMod_f86c9 0 = .ok (.lload_n 0, 1) := by decide +kernel
theorem dJ9_floorMod_f86c9_1 : decode cJ9_floorMod_f86c9 1 = .ok (.lload_n 2, 1) := by decide +kernel
theorem dJ9_floorMod_f86c9_2 : decode cJ9_floorMod_f86c9 2 = .ok (.lrem, 1) := by decide +kernel
theorem dJ9_floorMod_f86c9_3 : decode cJ9_floorMod_f86c9 3 = .ok (.lstore 4, 2) := by decide +kernel
theorem dJ9_floorMod_f86c9_5 : decode cJ9_floorMod_f86c9 5 = .ok (.lload_n 0, 1) := by decide +kernel
theorem dJ9_floorMod_f86c9_6 : decode cJ9_floorMod_f86c9 6 = .ok (.lload_n 2, 1) := by decide +kernel
theorem dJ9_floorMod_f86c9_7 : decode cJ9_floorMod_f86c9 7 = .ok (.lxor, 1) := by decide +kernel
theorem dJ9_floorMod_f86c9_8 : decode cJ9_floorMod_f86c9 8 = .ok (.lconst 0, 1) := by decide +kernel
theorem dJ9_floorMod_f86c9_9 : decode cJ9_floorMod_f86c9 9 = .ok (.lcmp, 1) := by decide +kernel
theorem dJ9_floorMod_f86c9_10 : decode cJ9_floorMod_f86c9 10 = .ok (.ifCond .ge 15, 3) := by decide +kernel
theorem dJ9_floorMod_f86c9_13 : decode cJ9_floorMod_f86c9 13 = .ok (.lload 4, 2) := by decide +kernel
theorem dJ9_floorMod_f86c9_15 : decode cJ9_floorMod_f86c9 15 = .ok (.lconst 0, 1) := by decide +kernel
theorem dJ9_floorMod_f86c9_16 : decode cJ9_floorMod_f86c9 16 = .ok (.lcmp, 1) := by decide +kernel
theorem dJ9_floorMod_f86c9_17 : decode cJ9_floorMod_f86c9 17 = .ok (.ifCond .eq 8, 3) := by decide +kernel
theorem dJ9_floorMod_f86c9_20 : decode cJ9_floorMod_f86c9 20 = .ok (.lload 4, 2) := by decide +kernel
theorem dJ9_floorMod_f86c9_22 : decode cJ9_floorMod_f86c9 22 = .ok (.lload_n 2, 1) := by decide +kernel
theorem dJ9_floorMod_f86c9_23 : decode cJ9_floorMod_f86c9 23 = .ok (.ladd, 1) := by decide +kernel
theorem dJ9_floorMod_f86c9_24 : decode cJ9_floorMod_f86c9 24 = .ok (.lreturn, 1) := by decide +kernel
theorem dJ9_floorMod_f86c9_25 : decode cJ9_floorMod_f86c9 25 = .ok (.lload 4, 2) := by decide +kernel
theorem dJ9_floorMod_f86c9_27 : decode cJ9_floorMod_f86c9 27 = .ok (.lreturn, 1) := by decide +kernel
theorem dJ9_abs_0f7a4_0 : decode cJ9_abs_0f7a4 0 = .ok (.iload_n 0, 1) := by decide +kernel
theorem dJ9_abs_0f7a4_1 : decode cJ9_abs_0f7a4 1 = .ok (.ifCond .ge 8, 3) := by decide +kernel
theorem dJ9_abs_0f7a4_4 : decode cJ9_abs_0f7a4 4 = .ok (.iload_n 0, 1) := by decide +kernel
theorem dJ9_abs_0f7a4_5 : decode cJ9_abs_0f7a4 5 = .ok (.ineg, 1) := by decide +kernel
theorem dJ9_abs_0f7a4_6 : decode cJ9_abs_0f7a4 6 = .ok (.goto 4, 3) := by decide +kernel
theorem dJ9_abs_0f7a4_9 : decode cJ9_abs_0f7a4 9 = .ok (.iload_n 0, 1) := by decide +kernel
theorem dJ9_abs_0f7a4_10 : decode cJ9_abs_0f7a4 10 = .ok (.ireturn, 1) := by decide +kernel
theorem dJ9_abs_067f4_0 : decode cJ9_abs_067f4 0 = .ok (.lload_n 0, 1) := by decide +kernel
theorem dJ9_abs_067f4_1 : decode cJ9_abs_067f4 1 = .ok (.lconst 0, 1) := by decide +kernel
theorem dJ9_abs_067f4_2 : decode cJ9_abs_067f4 2 = .ok (.lcmp, 1) := by decide +kernel
theorem dJ9_abs_067f4_3 : decode cJ9_abs_067f4 3 = .ok (.ifCond .ge 8, 3) := by decide +kernel
theorem dJ9_abs_067f4_6 : decode cJ9_abs_067f4 6 = .ok (.lload_n 0, 1) := by decide +kernel
theorem dJ9_abs_067f4_7 : decode cJ9_abs_067f4 7 = .ok (.lneg, 1) := by decide +kernel
theorem dJ9_abs_067f4_8 : decode cJ9_abs_067f4 8 = .ok (.goto 4, 3) := by decide +kernel
theorem dJ9_abs_067f4_11 : decode cJ9_abs_067f4 11 = .ok (.lload_n 0, 1) := by decide +kernel
theorem dJ9_abs_067f4_12 : decode cJ9_abs_067f4 12 = .ok (.lreturn, 1) := by decide +kernel
theorem dJ9_max_f86c9_0 : decode cJ9_max_f86c9 0 = .ok (.lload_n 0, 1) := by decide +kernel
theorem dJ9_max_f86c9_1 : decode cJ9_max_f86c9 1 = .ok (.lload_n 2, 1) := by decide +kernel
theorem dJ9_max_f86c9_2 : decode cJ9_max_f86c9 2 = .ok (.lcmp, 1) := by decide +kernel
theorem dJ9_max_f86c9_3 : decode cJ9_max_f86c9 3 = .ok (.ifCond .lt 7, 3) := by decide +kernel
theorem dJ9_max_f86c9_6 : decode cJ9_max_f86c9 6 = .ok (.lload_n 0, 1) := by decide +kernel
theorem dJ9_max_f86c9_7 : decode cJ9_max_f86c9 7 = .ok (.goto 4, 3) := by decide +kernel
theorem dJ9_max_f86c9_10 : decode cJ9_max_f86c9 10 = .ok (.lload_n 2, 1) := by decide +kernel
theorem dJ9_max_f86c9_11 : decode cJ9_max_f86c9 11 = .ok (.lreturn, 1) := by decide +kernel
theorem dJ9_min_7cf53_0 : decode cJ9_min_7cf53 0 = .ok (.iload_n 0, 1) := by decide +kernel
theorem dJ9_min_7cf53_1 : decode cJ9_min_7cf53 1 = .ok (.iload_n 1, 1) := by decide +kernel
theorem dJ9_min_7cf53_2 : decode cJ9_min_7cf53 2 = .ok (.if_icmp .gt 7, 3) := by decide +kernel
theorem dJ9_min_7cf53_5 : decode cJ9_min_7cf53 5 = .ok (.iload_n 0, 1) := by decide +kernel
theorem dJ9_min_7cf53_6 : decode cJ9_min_7cf53 6 = .ok (.goto 4, 3) := by decide +kernel
theorem dJ9_min_7cf53_9 : decode cJ9_min_7cf53 9 = .ok (.iload_n 1, 1) := by decide +kernel
theorem dJ9_min_7cf53_10 : decode cJ9_min_7cf53 10 = .ok (.ireturn, 1) := by decide +kernel
set_option maxRecDepth 20000 in
theorem ggL_set_X5_set : GoodIn wsL_set wsX5_set := goodIn_ca (goodIn_r _ [6, 7, 8, 9, 10, 11, 5, 12, 13, 14, 15, 16, 17, 18, 19, 20, 21, 22, 23, 24, 25, 26, 27, 28, 29, 30, 31, 32, 33, 34, 35, 36, 37, 38, 39, 40, 41, 42, 43, 44, 45, 46, 47, 48, 49, 50, 51, 52, 53, 54, 55, 56, 57, 58, 59, 60, 61, 62, 63, 64, 65, 66, 67, 68, 69, 70, 71, 72, 73, 74, 75, 76, 77, 78, 79, 80, 81, 82, 83, 84, 85, 86, 87, 88, 89] (by decide +kernel) (by decide +kernel)) (goodIn_sub (fun _ h => List.mem_cons_of_mem _ (List.mem_append_right _ h)) (by decide +kernel))
set_option maxRecDepth 20000 in
theorem gL_set_X5_set : GoodIn wsL_set (wsV RL 7 RX5 yX5_set wsX5_set) := goodIn_app (goodIn_of _ (by decide +kernel)) ggL_set_X5_set
theorem dL_set_0 : decode cL_set 0 = .ok (.aload_n 3, 1) := by decide +kernel
theorem dL_set_1 : decode cL_set 1 = .ok (.iconst 0, 1) := by decide +kernel
theorem dL_set_2 : decode cL_set 2 = .ok (.aload_n 0, 1) := by decide +kernel
theorem dL_set_3 : decode cL_set 3 = .ok (.iload_n 1, 1) := by decide +kernel
theorem dL_set_4 : decode cL_set 4 = .ok (.iload_n 2, 1) := by decide +kernel
theorem dL_set_5 : decode cL_set 5 = .ok (.invokevirtual 7, 3) := by decide +kernel
theorem dL_set_8 : decode cL_set 8 = .ok (.i2l, 1) := by decide +kernel
theorem dL_set_9 : decode cL_set 9 = .ok (.lastore, 1) := by decide +kernel
theorem dL_set_10 : decode cL_set 10 = .ok (.goto 7, 3) := by decide +kernel
theorem dL_set_13 : decode cL_set 13 = .ok (.astore 4, 2) := by decide +kernel
theorem dL_set_15 : decode cL_set 15 = .ok (.iconst 1, 1) := by decide +kernel
theorem dL_set_16 : decode cL_set 16 = .ok (.ireturn, 1) := by decide +kernel
theorem dL_set_17 : decode cL_set 17 = .ok (.iconst 0, 1) := by decide +kernel
theorem dL_set_18 : decode cL_set 18 = .ok (.ireturn, 1) := by decide +kernel
set_option maxRecDepth 20000 in
theorem ggL_value_X5_value : GoodIn wsL_value wsX5_value := goodIn_ca (goodIn_r _ [6, 7, 8, 9, 5, 10, 11, 12, 13, 14, 15, 16, 17, 18, 19, 20, 21, 22, 23] (by decide +kernel) (by decide +kernel)) (goodIn_sub (fun _ h => List.mem_cons_of_mem _ (List.mem_append_right _ h)) (by decide +kernel))
set_option maxRecDepth 20000 in
theorem gL_value_X5_value : GoodIn wsL_value (wsV RL 15 RX5 yX5_value wsX5_value) := goodIn_app (goodIn_of _ (by decide +kernel)) ggL_value_X5_value
theorem dL_value_0 : decode cL_value 0 = .ok (.aload_n 2, 1) := by decide +kernel
theorem dL_value_1 : decode cL_value 1 = .ok (.iconst 0, 1) := by decide +kernel
theorem dL_value_2 : decode cL_value 2 = .ok (.aload_n 0, 1) := by decide +kernel
theorem dL_value_3 : decode cL_value 3 = .ok (.iload_n 1, 1) := by decide +kernel
theorem dL_value_4 : decode cL_value 4 = .ok (.invokevirtual 15, 3) := by decide +kernel
theorem dL_value_7 : decode cL_value 7 = .ok (.i2l, 1) := by decide +kernel
theorem dL_value_8 : decode cL_value 8 = .ok (.lastore, 1) := by decide +kernel
theorem dL_value_9 : decode cL_value 9 = .ok (.goto 6, 3) := by decide +kernel
theorem dL_value_12 : decode cL_value 12 = .ok (.astore_n 3, 1) := by decide +kernel
theorem dL_value_13 : decode cL_value 13 = .ok (.iconst 1, 1) := by decide +kernel
theorem dL_value_14 : decode cL_value 14 = .ok (.ireturn, 1) := by decide +kernel
theorem dL_value_15 : decode cL_value 15 = .ok (.iconst 0, 1) := by decide +kernel
theorem dL_value_16 : decode cL_value 16 = .ok (.ireturn, 1) := by decide +kernel
set_option maxRecDepth 20000 in
theorem ggL_setBox_X5_setBox : GoodIn wsL_setBox wsX5_setBox := goodIn_ca (goodIn_ca (goodIn_r _ [7, 8, 9, 10, 11, 12, 6, 13, 14, 15, 16, 17, 18, 19, 20, 21, 22, 23, 24, 25, 26, 27, 28, 29, 30, 31, 32, 33, 34, 35, 36, 37, 38, 39, 40, 41, 42, 43, 44, 45, 46, 47, 48, 49, 50, 51, 52, 53, 54, 55, 56, 57, 58, 59, 60, 61, 62, 63, 64, 65, 66, 67, 68, 69, 70, 71, 72, 73, 74, 75, 76, 77, 78, 79, 80, 81, 82, 83, 84, 85, 86, 87, 88, 89, 90, 91, 92, 93, 94, 95, 96, 97, 98, 99, 100] (by decide +kernel) (by decide +kernel)) (goodIn_sub (fun _ h => List.mem_cons_of_mem _ (List.mem_append_left _ (List.mem_append_right _ h))) (by decide +kernel))) (goodIn_sub (fun _ h => List.mem_cons_of_mem _ (List.mem_append_right _ h)) (by decide +kernel))
set_option maxRecDepth 20000 in
theorem gL_setBox_X5_setBox : GoodIn wsL_setBox (wsV RL 19 RX5 yX5_setBox wsX5_setBox) := goodIn_app (goodIn_of _ (by decide +kernel)) ggL_setBox_X5_setBox
theorem dL_setBox_0 : decode cL_setBox 0 = .ok (.aload 4, 2) := by decide +kernel
theorem dL_setBox_2 : decode cL_setBox 2 = .ok (.iconst 0, 1) := by decide +kernel
theorem dL_setBox_3 : decode cL_setBox 3 = .ok (.aload_n 0, 1) := by decide +kernel
theorem dL_setBox_4 : decode cL_setBox 4 = .ok (.iload_n 1, 1) := by decide +kernel
theorem dL_setBox_5 : decode cL_setBox 5 = .ok (.iload_n 2, 1) := by decide +kernel
theorem dL_setBox_6 : decode cL_setBox 6 = .ok (.iload_n 3, 1) := by decide +kernel
theorem dL_setBox_7 : decode cL_setBox 7 = .ok (.invokevirtual 19, 3) := by decide +kernel
theorem dL_setBox_10 : decode cL_setBox 10 = .ok (.i2l, 1) := by decide +kernel
theorem dL_setBox_11 : decode cL_setBox 11 = .ok (.lastore, 1) := by decide +kernel
theorem dL_setBox_12 : decode cL_setBox 12 = .ok (.goto 11, 3) := by decide +kernel
theorem dL_setBox_15 : decode cL_setBox 15 = .ok (.astore 5, 2) := by decide +kernel
theorem dL_setBox_17 : decode cL_setBox 17 = .ok (.iconst 1, 1) := by decide +kernel
theorem dL_setBox_18 : decode cL_setBox 18 = .ok (.ireturn, 1) := by decide +kernel
theorem dL_setBox_19 : decode cL_setBox 19 = .ok (.astore 5, 2) := by decide +kernel
theorem dL_setBox_21 : decode cL_setBox 21 = .ok (.iconst 2, 1) := by decide +kernel
theorem dL_setBox_22 : decode cL_setBox 22 = .ok (.ireturn, 1) := by decide +kernel
theorem dL_setBox_23 : decode cL_setBox 23 = .ok (.iconst 0, 1) := by decide +kernel
theorem dL_setBox_24 : decode cL_setBox 24 = .ok (.ireturn, 1) := by decide +kernel
set_option maxRecDepth 20000 in
theorem ggL_box_X5_box : GoodIn wsL_box wsX5_box := goodIn_ca (goodIn_r _ [6, 7, 8, 9, 5, 10, 11, 12, 13, 14, 15, 16, 17, 18, 19, 20, 21, 22, 23, 24, 25, 26, 27, 28] (by decide +kernel) (by decide +kernel)) (goodIn_sub (fun _ h => List.mem_cons_of_mem _ (List.mem_append_right _ h)) (by decide +kernel))
set_option maxRecDepth 20000 in
theorem gL_box_X5_box : GoodIn wsL_box (wsV RL 25 RX5 yX5_box wsX5_box) := goodIn_app (goodIn_of _ (by decide +kernel)) ggL_box_X5_box
theorem dL_box_0 : decode cL_box 0 = .ok (.aload_n 3, 1) := by decide +kernel
theorem dL_box_1 : decode cL_box 1 = .ok (.iconst 0, 1) := by decide +kernel
theorem dL_box_2 : decode cL_box 2 = .ok (.aload_n 0, 1) := by decide +kernel
theorem dL_box_3 : decode cL_box 3 = .ok (.iload_n 1, 1) := by decide +kernel
theorem dL_box_4 : decode cL_box 4 = .ok (.iload_n 2, 1) := by decide +kernel
theorem dL_box_5 : decode cL_box 5 = .ok (.invokevirtual 25, 3) := by decide +kernel
theorem dL_box_8 : decode cL_box 8 = .ok (.i2l, 1) := by decide +kernel
theorem dL_box_9 : decode cL_box 9 = .ok (.lastore, 1) := by decide +kernel
theorem dL_box_10 : decode cL_box 10 = .ok (.goto 7, 3) := by decide +kernel
theorem dL_box_13 : decode cL_box 13 = .ok (.astore 4, 2) := by decide +kernel
theorem dL_box_15 : decode cL_box 15 = .ok (.iconst 1, 1) := by decide +kernel
theorem dL_box_16 : decode cL_box 16 = .ok (.ireturn, 1) := by decide +kernel
theorem dL_box_17 : decode cL_box 17 = .ok (.iconst 0, 1) := by decide +kernel
theorem dL_box_18 : decode cL_box 18 = .ok (.ireturn, 1) := by decide +kernel
set_option maxRecDepth 20000 in
theorem ggL_setPlant_X5_setPlant : GoodIn wsL_setPlant wsX5_setPlant := goodIn_ca (goodIn_r _ [6, 7, 8, 9, 5, 10, 11, 12, 13, 14, 15, 16, 17, 18, 19, 20, 21, 22, 23, 24, 25, 26, 27, 28, 29, 30, 31, 32, 33, 34, 35, 36, 37, 38, 39, 40, 41, 42, 43, 44, 45, 46, 47, 48, 49, 50, 51, 52, 53, 54, 55, 56, 57, 58, 59, 60, 61, 62, 63, 64, 65, 66, 67, 68, 69, 70, 71, 72, 73, 74, 75, 76, 77, 78, 79, 80, 81, 82, 83, 84, 85, 86, 87] (by decide +kernel) (by decide +kernel)) (goodIn_sub (fun _ h => List.mem_cons_of_mem _ (List.mem_append_right _ h)) (by decide +kernel))
set_option maxRecDepth 20000 in
theorem gL_setPlant_X5_setPlant : GoodIn wsL_setPlant (wsV RL 29 RX5 yX5_setPlant wsX5_setPlant) := goodIn_app (goodIn_of _ (by decide +kernel)) ggL_setPlant_X5_setPlant
theorem dL_setPlant_0 : decode cL_setPlant 0 = .ok (.aload 5, 2) := by decide +kernel
theorem dL_setPlant_2 : decode cL_setPlant 2 = .ok (.iconst 0, 1) := by decide +kernel
theorem dL_setPlant_3 : decode cL_setPlant 3 = .ok (.aload_n 0, 1) := by decide +kernel
theorem dL_setPlant_4 : decode cL_setPlant 4 = .ok (.iload_n 1, 1) := by decide +kernel
theorem dL_setPlant_5 : decode cL_setPlant 5 = .ok (.iload_n 2, 1) := by decide +kernel
theorem dL_setPlant_6 : decode cL_setPlant 6 = .ok (.iload_n 3, 1) := by decide +kernel
theorem dL_setPlant_7 : decode cL_setPlant 7 = .ok (.iload 4, 2) := by decide +kernel
theorem dL_setPlant_9 : decode cL_setPlant 9 = .ok (.invokevirtual 29, 3) := by decide +kernel
theorem dL_setPlant_12 : decode cL_setPlant 12 = .ok (.i2l, 1) := by decide +kernel
theorem dL_setPlant_13 : decode cL_setPlant 13 = .ok (.lastore, 1) := by decide +kernel
theorem dL_setPlant_14 : decode cL_setPlant 14 = .ok (.goto 7, 3) := by decide +kernel
theorem dL_setPlant_17 : decode cL_setPlant 17 = .ok (.astore 6, 2) := by decide +kernel
theorem dL_setPlant_19 : decode cL_setPlant 19 = .ok (.iconst 1, 1) := by decide +kernel
theorem dL_setPlant_20 : decode cL_setPlant 20 = .ok (.ireturn, 1) := by decide +kernel
theorem dL_setPlant_21 : decode cL_setPlant 21 = .ok (.iconst 0, 1) := by decide +kernel
theorem dL_setPlant_22 : decode cL_setPlant 22 = .ok (.ireturn, 1) := by decide +kernel
set_option maxRecDepth 20000 in
theorem ggL_seed_X5_seed : GoodIn wsL_seed wsX5_seed := goodIn_ca (goodIn_r _ [6, 7, 8, 9, 10, 5, 11, 12, 13, 14, 15, 16, 17, 18, 19, 20, 21, 22, 23, 24, 25, 26, 27, 28, 29, 30, 31, 32, 33, 34, 35, 36, 37, 38, 39, 40, 41, 42, 43, 44, 45, 46, 47, 48, 49, 50, 51, 52, 53, 54, 55, 56, 57, 58, 59, 60, 61, 62, 63, 64, 65, 66, 67, 68, 69, 70, 71, 72, 73, 74, 75, 76, 77, 78, 79, 80, 81, 82, 83, 84, 85, 86, 87, 88] (by decide +kernel) (by decide +kernel)) (goodIn_sub (fun _ h => List.mem_cons_of_mem _ (List.mem_append_right _ h)) (by decide +kernel))
set_option maxRecDepth 20000 in
theorem gL_seed_X5_seed : GoodIn wsL_seed (wsV RL 33 RX5 yX5_seed wsX5_seed) := goodIn_app (goodIn_of _ (by decide +kernel)) ggL_seed_X5_seed
theorem dL_seed_0 : decode cL_seed 0 = .ok (.aload_n 3, 1) := by decide +kernel
theorem dL_seed_1 : decode cL_seed 1 = .ok (.iconst 0, 1) := by decide +kernel
theorem dL_seed_2 : decode cL_seed 2 = .ok (.aload_n 0, 1) := by decide +kernel
theorem dL_seed_3 : decode cL_seed 3 = .ok (.iload_n 1, 1) := by decide +kernel
theorem dL_seed_4 : decode cL_seed 4 = .ok (.iload_n 2, 1) := by decide +kernel
theorem dL_seed_5 : decode cL_seed 5 = .ok (.invokevirtual 33, 3) := by decide +kernel
theorem dL_seed_8 : decode cL_seed 8 = .ok (.i2l, 1) := by decide +kernel
theorem dL_seed_9 : decode cL_seed 9 = .ok (.lastore, 1) := by decide +kernel
theorem dL_seed_10 : decode cL_seed 10 = .ok (.goto 7, 3) := by decide +kernel
theorem dL_seed_13 : decode cL_seed 13 = .ok (.astore 4, 2) := by decide +kernel
theorem dL_seed_15 : decode cL_seed 15 = .ok (.iconst 1, 1) := by decide +kernel
theorem dL_seed_16 : decode cL_seed 16 = .ok (.ireturn, 1) := by decide +kernel
theorem dL_seed_17 : decode cL_seed 17 = .ok (.iconst 0, 1) := by decide +kernel
theorem dL_seed_18 : decode cL_seed 18 = .ok (.ireturn, 1) := by decide +kernel
set_option maxRecDepth 20000 in
theorem ggL_sample_X5_sample : GoodIn wsL_sample wsX5_sample := goodIn_ca (goodIn_r _ [6, 7, 8, 9, 10, 5, 11, 12, 13, 14, 15, 16, 17, 18, 19, 20, 21, 22, 23, 24, 25, 26, 27, 28, 29, 30, 31, 32, 33, 34, 35, 36, 37, 38, 39, 40, 41, 42, 43, 44, 45, 46, 47, 48, 49, 50, 51, 52, 53, 54, 55, 56, 57, 58, 59, 60, 61, 62, 63, 64, 65, 66, 67, 68, 69, 70, 71, 72, 73, 74, 75, 76, 77, 78, 79, 80, 81, 82, 83, 84, 85, 86, 87, 88, 89, 90, 91, 92, 93, 94, 95, 96, 97, 98, 99, 100, 101, 102, 103, 104, 105, 106, 107, 108, 109, 110, 111, 112, 113, 114, 115, 116, 117, 118, 119, 120, 121, 122, 123, 124, 125, 126, 127, 128, 129, 130, 131, 132, 133, 134, 135, 136, 137, 138, 139, 140, 141, 142, 143, 144, 145, 146, 147, 148, 149, 150, 151, 152] (by decide +kernel) (by decide +kernel)) (goodIn_sub (fun _ h => List.mem_cons_of_mem _ (List.mem_append_right _ h)) (by decide +kernel))
set_option maxRecDepth 20000 in
theorem gL_sample_X5_sample : GoodIn wsL_sample (wsV RL 36 RX5 yX5_sample wsX5_sample) := goodIn_app (goodIn_of _ (by decide +kernel)) ggL_sample_X5_sample
theorem dL_sample_0 : decode cL_sample 0 = .ok (.aload 4, 2) := by decide +kernel
theorem dL_sample_2 : decode cL_sample 2 = .ok (.iconst 0, 1) := by decide +kernel
theorem dL_sample_3 : decode cL_sample 3 = .ok (.aload_n 0, 1) := by decide +kernel
theorem dL_sample_4 : decode cL_sample 4 = .ok (.iload_n 1, 1) := by decide +kernel
theorem dL_sample_5 : decode cL_sample 5 = .ok (.iload_n 2, 1) := by decide +kernel
theorem dL_sample_6 : decode cL_sample 6 = .ok (.iload_n 3, 1) := by decide +kernel
theorem dL_sample_7 : decode cL_sample 7 = .ok (.invokevirtual 36, 3) := by decide +kernel
theorem dL_sample_10 : decode cL_sample 10 = .ok (.lastore, 1) := by decide +kernel
theorem dL_sample_11 : decode cL_sample 11 = .ok (.goto 7, 3) := by decide +kernel
theorem dL_sample_14 : decode cL_sample 14 = .ok (.astore 5, 2) := by decide +kernel
theorem dL_sample_16 : decode cL_sample 16 = .ok (.iconst 1, 1) := by decide +kernel
theorem dL_sample_17 : decode cL_sample 17 = .ok (.ireturn, 1) := by decide +kernel
theorem dL_sample_18 : decode cL_sample 18 = .ok (.iconst 0, 1) := by decide +kernel
theorem dL_sample_19 : decode cL_sample 19 = .ok (.ireturn, 1) := by decide +kernel
set_option maxRecDepth 20000 in
theorem ggL_parameter_X5_parameter : GoodIn wsL_parameter wsX5_parameter := goodIn_ca (goodIn_r _ [6, 7, 8, 9, 5, 10, 11, 12, 13, 14, 15, 16, 17, 18, 19, 20, 21, 22, 23, 24, 25, 26, 27, 28] (by decide +kernel) (by decide +kernel)) (goodIn_sub (fun _ h => List.mem_cons_of_mem _ (List.mem_append_right _ h)) (by decide +kernel))
set_option maxRecDepth 20000 in
theorem gL_parameter_X5_parameter : GoodIn wsL_parameter (wsV RL 40 RX5 yX5_parameter wsX5_parameter) := goodIn_app (goodIn_of _ (by decide +kernel)) ggL_parameter_X5_parameter
theorem dL_parameter_0 : decode cL_parameter 0 = .ok (.aload_n 2, 1) := by decide +kernel
theorem dL_parameter_1 : decode cL_parameter 1 = .ok (.iconst 0, 1) := by decide +kernel
theorem dL_parameter_2 : decode cL_parameter 2 = .ok (.aload_n 0, 1) := by decide +kernel
theorem dL_parameter_3 : decode cL_parameter 3 = .ok (.iload_n 1, 1) := by decide +kernel
theorem dL_parameter_4 : decode cL_parameter 4 = .ok (.invokevirtual 40, 3) := by decide +kernel
theorem dL_parameter_7 : decode cL_parameter 7 = .ok (.i2l, 1) := by decide +kernel
theorem dL_parameter_8 : decode cL_parameter 8 = .ok (.lastore, 1) := by decide +kernel
theorem dL_parameter_9 : decode cL_parameter 9 = .ok (.goto 6, 3) := by decide +kernel
theorem dL_parameter_12 : decode cL_parameter 12 = .ok (.astore_n 3, 1) := by decide +kernel
theorem dL_parameter_13 : decode cL_parameter 13 = .ok (.iconst 1, 1) := by decide +kernel
theorem dL_parameter_14 : decode cL_parameter 14 = .ok (.ireturn, 1) := by decide +kernel
theorem dL_parameter_15 : decode cL_parameter 15 = .ok (.iconst 0, 1) := by decide +kernel
theorem dL_parameter_16 : decode cL_parameter 16 = .ok (.ireturn, 1) := by decide +kernel
set_option maxRecDepth 20000 in
theorem ggL_covariance_X5_covariance : GoodIn wsL_covariance wsX5_covariance := goodIn_ca (goodIn_r _ [6, 7, 8, 9, 5, 10, 11, 12, 13, 14, 15, 16, 17, 18, 19, 20, 21, 22, 23, 24, 25, 26, 27, 28] (by decide +kernel) (by decide +kernel)) (goodIn_sub (fun _ h => List.mem_cons_of_mem _ (List.mem_append_right _ h)) (by decide +kernel))
set_option maxRecDepth 20000 in
theorem gL_covariance_X5_covariance : GoodIn wsL_covariance (wsV RL 43 RX5 yX5_covariance wsX5_covariance) := goodIn_app (goodIn_of _ (by decide +kernel)) ggL_covariance_X5_covariance
theorem dL_covariance_0 : decode cL_covariance 0 = .ok (.aload_n 3, 1) := by decide +kernel
theorem dL_covariance_1 : decode cL_covariance 1 = .ok (.iconst 0, 1) := by decide +kernel
theorem dL_covariance_2 : decode cL_covariance 2 = .ok (.aload_n 0, 1) := by decide +kernel
theorem dL_covariance_3 : decode cL_covariance 3 = .ok (.iload_n 1, 1) := by decide +kernel
theorem dL_covariance_4 : decode cL_covariance 4 = .ok (.iload_n 2, 1) := by decide +kernel
theorem dL_covariance_5 : decode cL_covariance 5 = .ok (.invokevirtual 43, 3) := by decide +kernel
theorem dL_covariance_8 : decode cL_covariance 8 = .ok (.lastore, 1) := by decide +kernel
theorem dL_covariance_9 : decode cL_covariance 9 = .ok (.goto 7, 3) := by decide +kernel
theorem dL_covariance_12 : decode cL_covariance 12 = .ok (.astore 4, 2) := by decide +kernel
theorem dL_covariance_14 : decode cL_covariance 14 = .ok (.iconst 1, 1) := by decide +kernel
theorem dL_covariance_15 : decode cL_covariance 15 = .ok (.ireturn, 1) := by decide +kernel
theorem dL_covariance_16 : decode cL_covariance 16 = .ok (.iconst 0, 1) := by decide +kernel
theorem dL_covariance_17 : decode cL_covariance 17 = .ok (.ireturn, 1) := by decide +kernel
set_option maxRecDepth 20000 in
theorem ggL_count_X5_count : GoodIn wsL_count wsX5_count := goodIn_ca (goodIn_r _ [6, 7, 8, 9, 5, 10, 11, 12, 13, 14, 15, 16, 17, 18, 19, 20, 21, 22, 23, 24, 25, 26, 27, 28, 29, 30, 31] (by decide +kernel) (by decide +kernel)) (goodIn_sub (fun _ h => List.mem_cons_of_mem _ (List.mem_append_right _ h)) (by decide +kernel))
set_option maxRecDepth 20000 in
theorem gL_count_X5_count : GoodIn wsL_count (wsV RL 47 RX5 yX5_count wsX5_count) := goodIn_app (goodIn_of _ (by decide +kernel)) ggL_count_X5_count
theorem dL_count_0 : decode cL_count 0 = .ok (.aload_n 2, 1) := by decide +kernel
theorem dL_count_1 : decode cL_count 1 = .ok (.iconst 0, 1) := by decide +kernel
theorem dL_count_2 : decode cL_count 2 = .ok (.aload_n 0, 1) := by decide +kernel
theorem dL_count_3 : decode cL_count 3 = .ok (.iload_n 1, 1) := by decide +kernel
theorem dL_count_4 : decode cL_count 4 = .ok (.invokevirtual 47, 3) := by decide +kernel
theorem dL_count_7 : decode cL_count 7 = .ok (.i2l, 1) := by decide +kernel
theorem dL_count_8 : decode cL_count 8 = .ok (.lastore, 1) := by decide +kernel
theorem dL_count_9 : decode cL_count 9 = .ok (.goto 6, 3) := by decide +kernel
theorem dL_count_12 : decode cL_count 12 = .ok (.astore_n 3, 1) := by decide +kernel
theorem dL_count_13 : decode cL_count 13 = .ok (.iconst 1, 1) := by decide +kernel
theorem dL_count_14 : decode cL_count 14 = .ok (.ireturn, 1) := by decide +kernel
theorem dL_count_15 : decode cL_count 15 = .ok (.iconst 0, 1) := by decide +kernel
theorem dL_count_16 : decode cL_count 16 = .ok (.ireturn, 1) := by decide +kernel
set_option maxRecDepth 20000 in
theorem ggL_predict_X5_predict : GoodIn wsL_predict wsX5_predict := goodIn_ca (goodIn_r _ [6, 7, 8, 9, 10, 5, 11, 12, 13, 14, 15, 16, 17, 18, 19, 20, 21, 22, 23, 24, 25, 26, 27, 28, 29, 30, 31, 32, 33, 34, 35, 36, 37, 38, 39, 40, 41, 42, 43, 44, 45, 46, 47] (by decide +kernel) (by decide +kernel)) (goodIn_sub (fun _ h => List.mem_cons_of_mem _ (List.mem_append_right _ h)) (by decide +kernel))
set_option maxRecDepth 20000 in
theorem gL_predict_X5_predict : GoodIn wsL_predict (wsV RL 50 RX5 yX5_predict wsX5_predict) := goodIn_app (goodIn_of _ (by decide +kernel)) ggL_predict_X5_predict
theorem dL_predict_0 : decode cL_predict 0 = .ok (.aload_n 3, 1) := by decide +kernel
theorem dL_predict_1 : decode cL_predict 1 = .ok (.iconst 0, 1) := by decide +kernel
theorem dL_predict_2 : decode cL_predict 2 = .ok (.aload_n 0, 1) := by decide +kernel
theorem dL_predict_3 : decode cL_predict 3 = .ok (.iload_n 1, 1) := by decide +kernel
theorem dL_predict_4 : decode cL_predict 4 = .ok (.iload_n 2, 1) := by decide +kernel
theorem dL_predict_5 : decode cL_predict 5 = .ok (.invokevirtual 50, 3) := by decide +kernel
theorem dL_predict_8 : decode cL_predict 8 = .ok (.lastore, 1) := by decide +kernel
theorem dL_predict_9 : decode cL_predict 9 = .ok (.goto 7, 3) := by decide +kernel
theorem dL_predict_12 : decode cL_predict 12 = .ok (.astore 4, 2) := by decide +kernel
theorem dL_predict_14 : decode cL_predict 14 = .ok (.iconst 1, 1) := by decide +kernel
theorem dL_predict_15 : decode cL_predict 15 = .ok (.ireturn, 1) := by decide +kernel
theorem dL_predict_16 : decode cL_predict 16 = .ok (.iconst 0, 1) := by decide +kernel
theorem dL_predict_17 : decode cL_predict 17 = .ok (.ireturn, 1) := by decide +kernel
set_option maxRecDepth 20000 in
theorem ggL_uncertainty_X5_uncertainty : GoodIn wsL_uncertainty wsX5_uncertainty := goodIn_ca (goodIn_r _ [6, 7, 8, 9, 10, 5, 11, 12, 13, 14, 15, 16, 17, 18, 19, 20, 21, 22, 23, 24, 25, 26, 27, 28, 29, 30, 31, 32, 33, 34, 35, 36, 37, 38, 39, 40, 41, 42, 43, 44, 45] (by decide +kernel) (by decide +kernel)) (goodIn_sub (fun _ h => List.mem_cons_of_mem _ (List.mem_append_right _ h)) (by decide +kernel))
set_option maxRecDepth 20000 in
theorem gL_uncertainty_X5_uncertainty : GoodIn wsL_uncertainty (wsV RL 53 RX5 yX5_uncertainty wsX5_uncertainty) := goodIn_app (goodIn_of _ (by decide +kernel)) ggL_uncertainty_X5_uncertainty
theorem dL_uncertainty_0 : decode cL_uncertainty 0 = .ok (.aload_n 3, 1) := by decide +kernel
theorem dL_uncertainty_1 : decode cL_uncertainty 1 = .ok (.iconst 0, 1) := by decide +kernel
theorem dL_uncertainty_2 : decode cL_uncertainty 2 = .ok (.aload_n 0, 1) := by decide +kernel
theorem dL_uncertainty_3 : decode cL_uncertainty 3 = .ok (.iload_n 1, 1) := by decide +kernel
theorem dL_uncertainty_4 : decode cL_uncertainty 4 = .ok (.iload_n 2, 1) := by decide +kernel
theorem dL_uncertainty_5 : decode cL_uncertainty 5 = .ok (.invokevirtual 53, 3) := by decide +kernel
theorem dL_uncertainty_8 : decode cL_uncertainty 8 = .ok (.dastore, 1) := by decide +kernel
theorem dL_uncertainty_9 : decode cL_uncertainty 9 = .ok (.goto 7, 3) := by decide +kernel
theorem dL_uncertainty_12 : decode cL_uncertainty 12 = .ok (.astore 4, 2) := by decide +kernel
theorem dL_uncertainty_14 : decode cL_uncertainty 14 = .ok (.iconst 1, 1) := by decide +kernel
theorem dL_uncertainty_15 : decode cL_uncertainty 15 = .ok (.ireturn, 1) := by decide +kernel
theorem dL_uncertainty_16 : decode cL_uncertainty 16 = .ok (.iconst 0, 1) := by decide +kernel
theorem dL_uncertainty_17 : decode cL_uncertainty 17 = .ok (.ireturn, 1) := by decide +kernel
set_option maxRecDepth 20000 in
theorem ggL_control_X5_control : GoodIn wsL_control wsX5_control := goodIn_ca (goodIn_r _ [6, 7, 8, 9, 5, 10, 11, 12, 13, 14, 15, 16, 17, 18, 19, 20, 21, 22, 23, 24, 25, 26, 27, 28, 29, 30, 31, 32, 33, 34, 35, 36, 37, 38, 39, 40, 41, 42, 43, 44, 45, 46, 47, 48, 49, 50, 51, 52, 53, 54, 55, 56] (by decide +kernel) (by decide +kernel)) (goodIn_sub (fun _ h => List.mem_cons_of_mem _ (List.mem_append_right _ h)) (by decide +kernel))
set_option maxRecDepth 20000 in
theorem gL_control_X5_control : GoodIn wsL_control (wsV RL 57 RX5 yX5_control wsX5_control) := goodIn_app (goodIn_of _ (by decide +kernel)) ggL_control_X5_control
theorem dL_control_0 : decode cL_control 0 = .ok (.aload_n 3, 1) := by decide +kernel
theorem dL_control_1 : decode cL_control 1 = .ok (.iconst 0, 1) := by decide +kernel
theorem dL_control_2 : decode cL_control 2 = .ok (.aload_n 0, 1) := by decide +kernel
theorem dL_control_3 : decode cL_control 3 = .ok (.iload_n 1, 1) := by decide +kernel
theorem dL_control_4 : decode cL_control 4 = .ok (.iload_n 2, 1) := by decide +kernel
theorem dL_control_5 : decode cL_control 5 = .ok (.invokevirtual 57, 3) := by decide +kernel
theorem dL_control_8 : decode cL_control 8 = .ok (.i2l, 1) := by decide +kernel
theorem dL_control_9 : decode cL_control 9 = .ok (.lastore, 1) := by decide +kernel
theorem dL_control_10 : decode cL_control 10 = .ok (.goto 7, 3) := by decide +kernel
theorem dL_control_13 : decode cL_control 13 = .ok (.astore 4, 2) := by decide +kernel
theorem dL_control_15 : decode cL_control 15 = .ok (.iconst 1, 1) := by decide +kernel
theorem dL_control_16 : decode cL_control 16 = .ok (.ireturn, 1) := by decide +kernel
theorem dL_control_17 : decode cL_control 17 = .ok (.iconst 0, 1) := by decide +kernel
theorem dL_control_18 : decode cL_control 18 = .ok (.ireturn, 1) := by decide +kernel
set_option maxRecDepth 20000 in
theorem ggL_run_X5_run : GoodIn wsL_run wsX5_run := goodIn_ca (goodIn_r _ [6, 7, 8, 9, 5, 10, 11, 12, 13, 14, 15, 16, 17, 18, 19, 20, 21, 22, 23, 24, 25, 26, 27, 28, 29, 30, 31, 32, 33, 34, 35, 36, 37, 38, 39, 40, 41, 42, 43, 44, 45, 46, 47, 48, 49, 50, 51, 52, 53, 54, 55, 56, 57, 58, 59, 60, 61, 62, 63, 64, 65, 66, 67, 68, 69, 70, 71, 72, 73, 74, 75, 76, 77, 78, 79, 80, 81, 82, 83, 84, 85, 86, 87, 88, 89, 90, 91, 92, 93, 94, 95, 96, 97, 98, 99, 100, 101, 102, 103, 104, 105, 106, 107, 108, 109, 110, 111, 112, 113, 114, 115, 116, 117, 118, 119, 120, 121, 122, 123, 124, 125, 126, 127, 128, 129, 130, 131, 132, 133, 134, 135, 136, 137, 138, 139, 140, 141, 142, 143, 144, 145, 146, 147, 148, 149, 150, 151, 152, 153, 154, 155, 156, 157, 158, 159, 160, 161, 162, 163, 164, 165, 166, 167, 168, 169, 170, 171, 172, 173, 174, 175, 176, 177] (by decide +kernel) (by decide +kernel)) (goodIn_sub (fun _ h => List.mem_cons_of_mem _ (List.mem_append_right _ h)) (by decide +kernel))
set_option maxRecDepth 20000 in
theorem gL_run_X5_run : GoodIn wsL_run (wsV RL 60 RX5 yX5_run wsX5_run) := goodIn_app (goodIn_of _ (by decide +kernel)) ggL_run_X5_run
theorem dL_run_0 : decode cL_run 0 = .ok (.aload_n 3, 1) := by decide +kernel
theorem dL_run_1 : decode cL_run 1 = .ok (.iconst 0, 1) := by decide +kernel
theorem dL_run_2 : decode cL_run 2 = .ok (.aload_n 0, 1) := by decide +kernel
theorem dL_run_3 : decode cL_run 3 = .ok (.iload_n 1, 1) := by decide +kernel
theorem dL_run_4 : decode cL_run 4 = .ok (.iload_n 2, 1) := by decide +kernel
theorem dL_run_5 : decode cL_run 5 = .ok (.invokevirtual 60, 3) := by decide +kernel
theorem dL_run_8 : decode cL_run 8 = .ok (.i2l, 1) := by decide +kernel
theorem dL_run_9 : decode cL_run 9 = .ok (.lastore, 1) := by decide +kernel
theorem dL_run_10 : decode cL_run 10 = .ok (.goto 7, 3) := by decide +kernel
theorem dL_run_13 : decode cL_run 13 = .ok (.astore 4, 2) := by decide +kernel
theorem dL_run_15 : decode cL_run 15 = .ok (.iconst 1, 1) := by decide +kernel
theorem dL_run_16 : decode cL_run 16 = .ok (.ireturn, 1) := by decide +kernel
theorem dL_run_17 : decode cL_run 17 = .ok (.iconst 0, 1) := by decide +kernel
theorem dL_run_18 : decode cL_run 18 = .ok (.ireturn, 1) := by decide +kernel
set_option maxRecDepth 20000 in
theorem ggL_drive_X5_drive : GoodIn wsL_drive wsX5_drive := goodIn_ca (goodIn_r _ [6, 7, 8, 9, 5, 10, 11, 12, 13, 14, 15, 16, 17, 18, 19, 20, 21, 22, 23, 24, 25, 26, 27, 28, 29, 30, 31, 32, 33, 34, 35, 36, 37, 38, 39, 40, 41, 42, 43, 44, 45, 46, 47, 48, 49, 50, 51, 52, 53, 54, 55, 56, 57, 58, 59, 60, 61, 62, 63, 64, 65, 66, 67, 68, 69, 70, 71, 72, 73, 74, 75, 76, 77, 78, 79, 80, 81, 82, 83, 84, 85, 86, 87, 88, 89, 90, 91, 92, 93, 94, 95, 96, 97, 98, 99, 100, 101, 102, 103, 104, 105, 106, 107, 108, 109, 110, 111, 112, 113, 114, 115, 116, 117, 118, 119, 120, 121, 122, 123, 124, 125, 126, 127, 128, 129, 130, 131, 132, 133, 134, 135, 136, 137, 138, 139, 140, 141, 142, 143, 144, 145, 146, 147, 148, 149, 150, 151, 152, 153, 154, 155, 156, 157, 158, 159, 160, 161, 162, 163, 164, 165, 166, 167, 168, 169, 170, 171] (by decide +kernel) (by decide +kernel)) (goodIn_sub (fun _ h => List.mem_cons_of_mem _ (List.mem_append_right _ h)) (by decide +kernel))
set_option maxRecDepth 20000 in
theorem gL_drive_X5_drive : GoodIn wsL_drive (wsV RL 63 RX5 yX5_drive wsX5_drive) := goodIn_app (goodIn_of _ (by decide +kernel)) ggL_drive_X5_drive
theorem dL_drive_0 : decode cL_drive 0 = .ok (.aload_n 3, 1) := by decide +kernel
theorem dL_drive_1 : decode cL_drive 1 = .ok (.iconst 0, 1) := by decide +kernel
theorem dL_drive_2 : decode cL_drive 2 = .ok (.aload_n 0, 1) := by decide +kernel
theorem dL_drive_3 : decode cL_drive 3 = .ok (.iload_n 1, 1) := by decide +kernel
theorem dL_drive_4 : decode cL_drive 4 = .ok (.iload_n 2, 1) := by decide +kernel
theorem dL_drive_5 : decode cL_drive 5 = .ok (.invokevirtual 63, 3) := by decide +kernel
theorem dL_drive_8 : decode cL_drive 8 = .ok (.i2l, 1) := by decide +kernel
theorem dL_drive_9 : decode cL_drive 9 = .ok (.lastore, 1) := by decide +kernel
theorem dL_drive_10 : decode cL_drive 10 = .ok (.goto 7, 3) := by decide +kernel
theorem dL_drive_13 : decode cL_drive 13 = .ok (.astore 4, 2) := by decide +kernel
theorem dL_drive_15 : decode cL_drive 15 = .ok (.iconst 1, 1) := by decide +kernel
theorem dL_drive_16 : decode cL_drive 16 = .ok (.ireturn, 1) := by decide +kernel
theorem dL_drive_17 : decode cL_drive 17 = .ok (.iconst 0, 1) := by decide +kernel
theorem dL_drive_18 : decode cL_drive 18 = .ok (.ireturn, 1) := by decide +kernel
set_option maxRecDepth 20000 in
theorem ggL_bias_X5_bias : GoodIn wsL_bias wsX5_bias := goodIn_ca (goodIn_r _ [6, 7, 8, 9, 10, 11, 5, 12, 13, 14, 15, 16, 17, 18, 19, 20, 21, 22, 23, 24, 25, 26, 27, 28, 29, 30, 31, 32, 33, 34, 35, 36, 37, 38, 39, 40, 41] (by decide +kernel) (by decide +kernel)) (goodIn_sub (fun _ h => List.mem_cons_of_mem _ (List.mem_append_right _ h)) (by decide +kernel))
set_option maxRecDepth 20000 in
theorem gL_bias_X5_bias : GoodIn wsL_bias (wsV RL 66 RX5 yX5_bias wsX5_bias) := goodIn_app (goodIn_of _ (by decide +kernel)) ggL_bias_X5_bias
theorem dL_bias_0 : decode cL_bias 0 = .ok (.aload_n 2, 1) := by decide +kernel
theorem dL_bias_1 : decode cL_bias 1 = .ok (.iconst 0, 1) := by decide +kernel
theorem dL_bias_2 : decode cL_bias 2 = .ok (.aload_n 0, 1) := by decide +kernel
theorem dL_bias_3 : decode cL_bias 3 = .ok (.iload_n 1, 1) := by decide +kernel
theorem dL_bias_4 : decode cL_bias 4 = .ok (.invokevirtual 66, 3) := by decide +kernel
theorem dL_bias_7 : decode cL_bias 7 = .ok (.i2l, 1) := by decide +kernel
theorem dL_bias_8 : decode cL_bias 8 = .ok (.lastore, 1) := by decide +kernel
theorem dL_bias_9 : decode cL_bias 9 = .ok (.goto 6, 3) := by decide +kernel
theorem dL_bias_12 : decode cL_bias 12 = .ok (.astore_n 3, 1) := by decide +kernel
theorem dL_bias_13 : decode cL_bias 13 = .ok (.iconst 1, 1) := by decide +kernel
theorem dL_bias_14 : decode cL_bias 14 = .ok (.ireturn, 1) := by decide +kernel
theorem dL_bias_15 : decode cL_bias 15 = .ok (.iconst 0, 1) := by decide +kernel
theorem dL_bias_16 : decode cL_bias 16 = .ok (.ireturn, 1) := by decide +kernel
set_option maxRecDepth 20000 in
theorem ggL_costOf_X5_costOf : GoodIn wsL_costOf wsX5_costOf := goodIn_ca (goodIn_r _ [6, 7, 8, 9, 10, 5, 11, 12, 13, 14, 15, 16, 17, 18, 19, 20, 21, 22, 23, 24, 25, 26, 27, 28, 29, 30, 31, 32, 33, 34, 35, 36, 37, 38, 39, 40, 41, 42, 43, 44, 45, 46, 47, 48, 49, 50, 51, 52, 53, 54, 55, 56, 57, 58, 59, 60, 61, 62, 63, 64, 65, 66, 67, 68, 69, 70, 71, 72, 73, 74, 75, 76, 77, 78, 79, 80, 81, 82, 83, 84, 85, 86, 87, 88, 89, 90, 91, 92, 93, 94, 95, 96, 97, 98, 99, 100, 101, 102, 103, 104, 105, 106, 107, 108, 109, 110, 111, 112, 113, 114, 115, 116, 117, 118, 119, 120, 121, 122, 123, 124, 125, 126, 127, 128, 129, 130, 131, 132, 133, 134, 135, 136, 137, 138, 139, 140, 141, 142, 143, 144, 145, 146, 147, 148, 149, 150, 151, 152, 153, 154, 155, 156, 157, 158, 159, 160, 161, 162, 163, 164, 165, 166, 167, 168, 169, 170, 171, 172, 173, 174, 175, 176] (by decide +kernel) (by decide +kernel)) (goodIn_sub (fun _ h => List.mem_cons_of_mem _ (List.mem_append_right _ h)) (by decide +kernel))
set_option maxRecDepth 20000 in
theorem gL_costOf_X5_costOf : GoodIn wsL_costOf (wsV RL 69 RX5 yX5_costOf wsX5_costOf) := goodIn_app (goodIn_of _ (by decide +kernel)) ggL_costOf_X5_costOf
theorem dL_costOf_0 : decode cL_costOf 0 = .ok (.aload_n 3, 1) := by decide +kernel
theorem dL_costOf_1 : decode cL_costOf 1 = .ok (.iconst 0, 1) := by decide +kernel
theorem dL_costOf_2 : decode cL_costOf 2 = .ok (.aload_n 0, 1) := by decide +kernel
theorem dL_costOf_3 : decode cL_costOf 3 = .ok (.iload_n 1, 1) := by decide +kernel
theorem dL_costOf_4 : decode cL_costOf 4 = .ok (.iload_n 2, 1) := by decide +kernel
theorem dL_costOf_5 : decode cL_costOf 5 = .ok (.invokevirtual 69, 3) := by decide +kernel
theorem dL_costOf_8 : decode cL_costOf 8 = .ok (.lastore, 1) := by decide +kernel
theorem dL_costOf_9 : decode cL_costOf 9 = .ok (.goto 7, 3) := by decide +kernel
theorem dL_costOf_12 : decode cL_costOf 12 = .ok (.astore 4, 2) := by decide +kernel
theorem dL_costOf_14 : decode cL_costOf 14 = .ok (.iconst 1, 1) := by decide +kernel
theorem dL_costOf_15 : decode cL_costOf 15 = .ok (.ireturn, 1) := by decide +kernel
theorem dL_costOf_16 : decode cL_costOf 16 = .ok (.iconst 0, 1) := by decide +kernel
theorem dL_costOf_17 : decode cL_costOf 17 = .ok (.ireturn, 1) := by decide +kernel
set_option maxRecDepth 20000 in
theorem ggL_settling_X5_settling : GoodIn wsL_settling wsX5_settling := goodIn_ca (goodIn_r _ [6, 7, 8, 9, 10, 11, 12, 13, 14, 5, 15, 16, 17, 18, 19, 20, 21, 22, 23, 24, 25, 26, 27, 28, 29, 30, 31, 32, 33, 34, 35, 36, 37, 38, 39, 40, 41, 42, 43, 44, 45, 46, 47, 48, 49, 50, 51, 52, 53, 54, 55, 56, 57, 58, 59, 60, 61, 62, 63, 64, 65, 66, 67, 68, 69, 70, 71, 72, 73, 74, 75, 76, 77, 78, 79, 80, 81, 82, 83, 84, 85, 86, 87, 88, 89, 90, 91, 92, 93, 94, 95, 96, 97, 98, 99, 100, 101, 102, 103, 104, 105, 106, 107, 108, 109, 110, 111, 112, 113, 114, 115, 116, 117, 118, 119, 120, 121, 122, 123, 124, 125, 126, 127, 128, 129, 130, 131, 132, 133, 134, 135, 136, 137, 138, 139, 140, 141, 142, 143, 144, 145, 146, 147, 148, 149, 150, 151, 152, 153, 154, 155, 156, 157, 158, 159, 160, 161, 162, 163, 164, 165, 166, 167, 168, 169, 170, 171] (by decide +kernel) (by decide +kernel)) (goodIn_sub (fun _ h => List.mem_cons_of_mem _ (List.mem_append_right _ h)) (by decide +kernel))
set_option maxRecDepth 20000 in
theorem gL_settling_X5_settling : GoodIn wsL_settling (wsV RL 72 RX5 yX5_settling wsX5_settling) := goodIn_app (goodIn_of _ (by decide +kernel)) ggL_settling_X5_settling
theorem dL_settling_0 : decode cL_settling 0 = .ok (.aload_n 3, 1) := by decide +kernel
theorem dL_settling_1 : decode cL_settling 1 = .ok (.iconst 0, 1) := by decide +kernel
theorem dL_settling_2 : decode cL_settling 2 = .ok (.aload_n 0, 1) := by decide +kernel
theorem dL_settling_3 : decode cL_settling 3 = .ok (.iload_n 1, 1) := by decide +kernel
theorem dL_settling_4 : decode cL_settling 4 = .ok (.iload_n 2, 1) := by decide +kernel
theorem dL_settling_5 : decode cL_settling 5 = .ok (.invokevirtual 72, 3) := by decide +kernel
theorem dL_settling_8 : decode cL_settling 8 = .ok (.i2l, 1) := by decide +kernel
theorem dL_settling_9 : decode cL_settling 9 = .ok (.lastore, 1) := by decide +kernel
theorem dL_settling_10 : decode cL_settling 10 = .ok (.goto 7, 3) := by decide +kernel
theorem dL_settling_13 : decode cL_settling 13 = .ok (.astore 4, 2) := by decide +kernel
theorem dL_settling_15 : decode cL_settling 15 = .ok (.iconst 1, 1) := by decide +kernel
theorem dL_settling_16 : decode cL_settling 16 = .ok (.ireturn, 1) := by decide +kernel
theorem dL_settling_17 : decode cL_settling 17 = .ok (.iconst 0, 1) := by decide +kernel
theorem dL_settling_18 : decode cL_settling 18 = .ok (.ireturn, 1) := by decide +kernel
set_option maxRecDepth 20000 in
theorem ggL_bestDither_X5_bestDither : GoodIn wsL_bestDither wsX5_bestDither := goodIn_ca (goodIn_r _ [6, 7, 8, 9, 10, 5, 11, 12, 13, 14, 15, 16, 17, 18, 19, 20, 21, 22, 23, 24, 25, 26, 27, 28, 29, 30, 31, 32, 33, 34, 35, 36, 37, 38, 39, 40, 41, 42, 43, 44, 45, 46, 47, 48, 49, 50, 51, 52, 53, 54, 55, 56, 57, 58, 59, 60, 61, 62, 63, 64, 65, 66, 67, 68, 69, 70, 71, 72, 73, 74, 75, 76, 77, 78, 79, 80, 81, 82, 83, 84, 85, 86, 87, 88, 89, 90, 91, 92, 93, 94, 95, 96, 97, 98, 99, 100, 101, 102, 103, 104, 105, 106, 107, 108, 109, 110, 111, 112, 113, 114, 115, 116, 117, 118, 119, 120, 121, 122, 123, 124, 125, 126, 127, 128, 129, 130, 131, 132, 133, 134, 135, 136, 137, 138, 139, 140, 141, 142, 143, 144, 145, 146, 147, 148, 149, 150, 151, 152, 153, 154, 155, 156, 157, 158, 159, 160, 161, 162, 163, 164, 165, 166, 167, 168, 169, 170, 171, 172, 173, 174, 175, 176] (by decide +kernel) (by decide +kernel)) (goodIn_sub (fun _ h => List.mem_cons_of_mem _ (List.mem_append_right _ h)) (by decide +kernel))
set_option maxRecDepth 20000 in
theorem gL_bestDither_X5_bestDither : GoodIn wsL_bestDither (wsV RL 75 RX5 yX5_bestDither wsX5_bestDither) := goodIn_app (goodIn_of _ (by decide +kernel)) ggL_bestDither_X5_bestDither
theorem dL_bestDither_0 : decode cL_bestDither 0 = .ok (.aload 4, 2) := by decide +kernel
theorem dL_bestDither_2 : decode cL_bestDither 2 = .ok (.iconst 0, 1) := by decide +kernel
theorem dL_bestDither_3 : decode cL_bestDither 3 = .ok (.aload_n 0, 1) := by decide +kernel
theorem dL_bestDither_4 : decode cL_bestDither 4 = .ok (.iload_n 1, 1) := by decide +kernel
theorem dL_bestDither_5 : decode cL_bestDither 5 = .ok (.iload_n 2, 1) := by decide +kernel
theorem dL_bestDither_6 : decode cL_bestDither 6 = .ok (.iload_n 3, 1) := by decide +kernel
theorem dL_bestDither_7 : decode cL_bestDither 7 = .ok (.invokevirtual 75, 3) := by decide +kernel
theorem dL_bestDither_10 : decode cL_bestDither 10 = .ok (.i2l, 1) := by decide +kernel
theorem dL_bestDither_11 : decode cL_bestDither 11 = .ok (.lastore, 1) := by decide +kernel
theorem dL_bestDither_12 : decode cL_bestDither 12 = .ok (.goto 7, 3) := by decide +kernel
theorem dL_bestDither_15 : decode cL_bestDither 15 = .ok (.astore 5, 2) := by decide +kernel
theorem dL_bestDither_17 : decode cL_bestDither 17 = .ok (.iconst 1, 1) := by decide +kernel
theorem dL_bestDither_18 : decode cL_bestDither 18 = .ok (.ireturn, 1) := by decide +kernel
theorem dL_bestDither_19 : decode cL_bestDither 19 = .ok (.iconst 0, 1) := by decide +kernel
theorem dL_bestDither_20 : decode cL_bestDither 20 = .ok (.ireturn, 1) := by decide +kernel
set_option maxRecDepth 20000 in
theorem ggL_append_X5_append : GoodIn wsL_append wsX5_append := goodIn_ca (goodIn_ca (goodIn_r _ [7, 8, 9, 10, 11, 12, 6, 13, 14, 15, 16, 17, 18, 19, 20, 21, 22, 23, 24, 25, 26, 27, 28, 29, 30, 31, 32, 33, 34] (by decide +kernel) (by decide +kernel)) (goodIn_sub (fun _ h => List.mem_cons_of_mem _ (List.mem_append_left _ (List.mem_append_right _ h))) (by decide +kernel))) (goodIn_sub (fun _ h => List.mem_cons_of_mem _ (List.mem_append_right _ h)) (by decide +kernel))
set_option maxRecDepth 20000 in
theorem gL_append_X5_append : GoodIn wsL_append (wsV RL 78 RX5 yX5_append wsX5_append) := goodIn_app (goodIn_of _ (by decide +kernel)) ggL_append_X5_append
theorem dL_append_0 : decode cL_append 0 = .ok (.aload_n 2, 1) := by decide +kernel
theorem dL_append_1 : decode cL_append 1 = .ok (.iconst 0, 1) := by decide +kernel
theorem dL_append_2 : decode cL_append 2 = .ok (.aload_n 0, 1) := by decide +kernel
theorem dL_append_3 : decode cL_append 3 = .ok (.iload_n 1, 1) := by decide +kernel
theorem dL_append_4 : decode cL_append 4 = .ok (.invokevirtual 78, 3) := by decide +kernel
theorem dL_append_7 : decode cL_append 7 = .ok (.i2l, 1) := by decide +kernel
theorem dL_append_8 : decode cL_append 8 = .ok (.lastore, 1) := by decide +kernel
theorem dL_append_9 : decode cL_append 9 = .ok (.goto 9, 3) := by decide +kernel
theorem dL_append_12 : decode cL_append 12 = .ok (.astore_n 3, 1) := by decide +kernel
theorem dL_append_13 : decode cL_append 13 = .ok (.iconst 1, 1) := by decide +kernel
theorem dL_append_14 : decode cL_append 14 = .ok (.ireturn, 1) := by decide +kernel
theorem dL_append_15 : decode cL_append 15 = .ok (.astore_n 3, 1) := by decide +kernel
theorem dL_append_16 : decode cL_append 16 = .ok (.iconst 2, 1) := by decide +kernel
theorem dL_append_17 : decode cL_append 17 = .ok (.ireturn, 1) := by decide +kernel
theorem dL_append_18 : decode cL_append 18 = .ok (.iconst 0, 1) := by decide +kernel
theorem dL_append_19 : decode cL_append 19 = .ok (.ireturn, 1) := by decide +kernel
set_option maxRecDepth 20000 in
theorem ggL_undo_X5_undo : GoodIn wsL_undo wsX5_undo := goodIn_ca (goodIn_r _ [6, 7, 8, 9, 10, 11, 12, 13, 14, 15, 16, 17, 18, 19, 20, 21, 22, 23, 24, 25, 26, 27, 28, 29, 30, 31, 32, 33, 34, 35, 36, 37, 38, 39, 40, 41, 42, 43, 44, 45, 46, 47, 48, 49, 50, 51, 52, 53, 54, 55, 56, 57, 58, 59, 60, 61, 62, 63, 64, 65, 66, 67, 68, 69, 70, 71, 72, 73] (by decide +kernel) (by decide +kernel)) (goodIn_sub (fun _ h => List.mem_cons_of_mem _ (List.mem_append_right _ h)) (by decide +kernel))
set_option maxRecDepth 20000 in
theorem gL_undo_X5_undo : GoodIn wsL_undo (wsV RL 83 RX5 yX5_undo wsX5_undo) := goodIn_app (goodIn_of _ (by decide +kernel)) ggL_undo_X5_undo
theorem dL_undo_0 : decode cL_undo 0 = .ok (.aload_n 1, 1) := by decide +kernel
theorem dL_undo_1 : decode cL_undo 1 = .ok (.iconst 0, 1) := by decide +kernel
theorem dL_undo_2 : decode cL_undo 2 = .ok (.aload_n 0, 1) := by decide +kernel
theorem dL_undo_3 : decode cL_undo 3 = .ok (.invokevirtual 83, 3) := by decide +kernel
theorem dL_undo_6 : decode cL_undo 6 = .ok (.i2l, 1) := by decide +kernel
theorem dL_undo_7 : decode cL_undo 7 = .ok (.lastore, 1) := by decide +kernel
theorem dL_undo_8 : decode cL_undo 8 = .ok (.goto 6, 3) := by decide +kernel
theorem dL_undo_11 : decode cL_undo 11 = .ok (.astore_n 2, 1) := by decide +kernel
theorem dL_undo_12 : decode cL_undo 12 = .ok (.iconst 1, 1) := by decide +kernel
theorem dL_undo_13 : decode cL_undo 13 = .ok (.ireturn, 1) := by decide +kernel
theorem dL_undo_14 : decode cL_undo 14 = .ok (.iconst 0, 1) := by decide +kernel
theorem dL_undo_15 : decode cL_undo 15 = .ok (.ireturn, 1) := by decide +kernel
