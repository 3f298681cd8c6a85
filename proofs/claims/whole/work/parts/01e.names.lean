theorem dX5_run_61 : decode cX5_run 61 = .ok (.getfield 88, 3) := by decide +kernel
theorem dX5_run_64 : decode cX5_run 64 = .ok (.ireturn, 1) := by decide +kernel
set_option maxRecDepth 20000 in
theorem ggX5_drive_X5_demandSignal : GoodIn wsX5_drive wsX5_demandSignal := goodIn_ca (goodIn_r _ [5, 6, 7, 4, 8, 9, 10, 11, 12, 13] (by decide +kernel) (by decide +kernel)) (goodIn_sub (fun _ h => List.mem_cons_of_mem _ (List.mem_append_right _ h)) (by decide +kernel))
set_option maxRecDepth 20000 in
theorem gX5_drive_X5_demandSignal : GoodIn wsX5_drive (va_wsS RX5 96 yX5_demandSignal wsX5_demandSignal) := goodIn_app (goodIn_of _ (by decide +kernel)) ggX5_drive_X5_demandSignal
set_option maxRecDepth 20000 in
theorem ggX5_drive_X5_demandRange : GoodIn wsX5_drive wsX5_demandRange := goodIn_ca (goodIn_r _ [8, 9, 10, 11, 12, 4, 13] (by decide +kernel) (by decide +kernel)) (goodIn_sub (fun _ h => List.mem_cons_of_mem _ (List.mem_append_right _ h)) (by decide +kernel))
set_option maxRecDepth 20000 in
theorem gX5_drive_X5_demandRange : GoodIn wsX5_drive (va_wsS RX5 34 yX5_demandRange wsX5_demandRange) := goodIn_app (goodIn_of _ (by decide +kernel)) ggX5_drive_X5_demandRange
set_option maxRecDepth 20000 in
theorem ggX5_drive_X5_saveState : GoodIn wsX5_drive wsX5_saveState := goodIn_r _ [17, 18, 19, 1, 20, 21, 22, 4, 23, 24, 25, 26, 27, 28, 29, 30, 31, 32, 33, 34, 35, 36, 37, 38, 39, 40, 41, 42, 43, 44, 45, 46, 47, 48, 49, 50, 51, 52, 53, 54, 55, 56, 57, 58, 59, 60, 61, 62, 144, 145, 146, 147, 148, 149, 150, 151, 156, 157, 158, 159, 160, 161, 162, 163, 164, 165, 166, 152, 153, 154, 155] (by decide +kernel) (by decide +kernel)
set_option maxRecDepth 20000 in
theorem gX5_drive_X5_saveState : GoodIn wsX5_drive (wsV RX5 45 RX5 yX5_saveState wsX5_saveState) := goodIn_app (goodIn_of _ (by decide +kernel)) ggX5_drive_X5_saveState
set_option maxRecDepth 20000 in
theorem ggX5_drive_X3_step : GoodIn wsX5_drive wsX3_step := goodIn_r _ [65, 34, 33, 28, 66, 55, 67, 68, 69, 61, 70, 71, 58, 62, 72, 73, 74, 75, 76, 77, 78, 79, 4, 80, 81, 82, 83, 84, 85, 86, 87, 88, 89, 60, 90, 91, 92, 36, 93, 94, 95, 44, 45, 96, 97, 98, 99, 43, 100, 101, 102, 103, 104, 42, 105, 47, 106, 107, 50, 51, 30, 31, 32, 52, 53, 108, 109, 110, 111, 112, 113, 114, 115, 116, 117, 118, 119, 120, 121, 122, 123, 124, 125, 126, 127, 128, 129, 130, 131, 132, 133, 39, 41, 134, 135, 136, 137, 138, 139, 140, 141, 142, 143, 149, 150, 151, 152, 153, 154, 155, 156, 157, 158, 159, 160, 161, 162, 163, 164, 165, 166] (by decide +kernel) (by decide +kernel)
set_option maxRecDepth 20000 in
theorem gX5_drive_X3_step_n156 : GoodIn wsX5_drive (wsX3_step) := ggX5_drive_X3_step
theorem dX5_drive_0 : decode cX5_drive 0 = .ok (.iload_n 1, 1) := by decide +kernel
theorem dX5_drive_1 : decode cX5_drive 1 = .ok (.invokestatic 96, 3) := by decide +kernel
theorem dX5_drive_4 : decode cX5_drive 4 = .ok (.iload_n 2, 1) := by decide +kernel
theorem dX5_drive_5 : decode cX5_drive 5 = .ok (.iconst 0, 1) := by decide +kernel
theorem dX5_drive_6 : decode cX5_drive 6 = .ok (.sipush 500, 3) := by decide +kernel
theorem dX5_drive_9 : decode cX5_drive 9 = .ok (.invokestatic 34, 3) := by decide +kernel
theorem dX5_drive_12 : decode cX5_drive 12 = .ok (.aload_n 0, 1) := by decide +kernel
theorem dX5_drive_13 : decode cX5_drive 13 = .ok (.invokevirtual 45, 3) := by decide +kernel
theorem dX5_drive_16 : decode cX5_drive 16 = .ok (.iconst 0, 1) := by decide +kernel
theorem dX5_drive_17 : decode cX5_drive 17 = .ok (.istore_n 3, 1) := by decide +kernel
theorem dX5_drive_18 : decode cX5_drive 18 = .ok (.iload_n 3, 1) := by decide +kernel
theorem dX5_drive_19 : decode cX5_drive 19 = .ok (.iload_n 2, 1) := by decide +kernel
theorem dX5_drive_20 : decode cX5_drive 20 = .ok (.if_icmp .ge 17, 3) := by decide +kernel
theorem dX5_drive_23 : decode cX5_drive 23 = .ok (.aload_n 0, 1) := by decide +kernel
theorem dX5_drive_24 : decode cX5_drive 24 = .ok (.getfield 12, 3) := by decide +kernel
theorem dX5_drive_27 : decode cX5_drive 27 = .ok (.iload_n 1, 1) := by decide +kernel
theorem dX5_drive_28 : decode cX5_drive 28 = .ok (.invokevirtual 156, 3) := by decide +kernel
theorem dX5_drive_31 : decode cX5_drive 31 = .ok (.iinc 3 1, 3) := by decide +kernel
theorem dX5_drive_34 : decode cX5_drive 34 = .ok (.goto (-16), 3) := by decide +kernel
theorem dX5_drive_37 : decode cX5_drive 37 = .ok (.aload_n 0, 1) := by decide +kernel
theorem dX5_drive_38 : decode cX5_drive 38 = .ok (.getfield 12, 3) := by decide +kernel
theorem dX5_drive_41 : decode cX5_drive 41 = .ok (.getfield 76, 3) := by decide +kernel
theorem dX5_drive_44 : decode cX5_drive 44 = .ok (.getfield 88, 3) := by decide +kernel
theorem dX5_drive_47 : decode cX5_drive 47 = .ok (.ireturn, 1) := by decide +kernel
theorem dX5_output_0 : decode cX5_output 0 = .ok (.aload_n 0, 1) := by decide +kernel
theorem dX5_output_1 : decode cX5_output 1 = .ok (.getfield 12, 3) := by decide +kernel
theorem dX5_output_4 : decode cX5_output 4 = .ok (.getfield 76, 3) := by decide +kernel
theorem dX5_output_7 : decode cX5_output 7 = .ok (.getfield 88, 3) := by decide +kernel
theorem dX5_output_10 : decode cX5_output 10 = .ok (.ireturn, 1) := by decide +kernel
set_option maxRecDepth 20000 in
theorem ggX5_bias_X5_demandParameter : GoodIn wsX5_bias wsX5_demandParameter := goodIn_ca (goodIn_r _ [7, 8, 9] (by decide +kernel) (by decide +kernel)) (goodIn_sub (fun _ h => List.mem_cons_of_mem _ (List.mem_append_right _ h)) (by decide +kernel))
set_option maxRecDepth 20000 in
theorem gX5_bias_X5_demandParameter : GoodIn wsX5_bias (va_wsS RX5 51 yX5_demandParameter wsX5_demandParameter) := goodIn_app (goodIn_of _ (by decide +kernel)) ggX5_bias_X5_demandParameter
set_option maxRecDepth 20000 in
theorem ggX5_bias_X5_divideDown : GoodIn wsX5_bias wsX5_divideDown := goodIn_r _ [12, 13, 14, 15, 16] (by decide +kernel) (by decide +kernel)
set_option maxRecDepth 20000 in
theorem gX5_bias_X5_divideDown : GoodIn wsX5_bias (va_wsS RX5 105 yX5_divideDown wsX5_divideDown) := goodIn_app (goodIn_of _ (by decide +kernel)) ggX5_bias_X5_divideDown
theorem dX5_bias_0 : decode cX5_bias 0 = .ok (.iload_n 1, 1) := by decide +kernel
theorem dX5_bias_1 : decode cX5_bias 1 = .ok (.invokestatic 51, 3) := by decide +kernel
theorem dX5_bias_4 : decode cX5_bias 4 = .ok (.ldc2_w 103, 3) := by decide +kernel
theorem dX5_bias_7 : decode cX5_bias 7 = .ok (.aload_n 0, 1) := by decide +kernel
theorem dX5_bias_8 : decode cX5_bias 8 = .ok (.getfield 12, 3) := by decide +kernel
theorem dX5_bias_11 : decode cX5_bias 11 = .ok (.getfield 76, 3) := by decide +kernel
theorem dX5_bias_14 : decode cX5_bias 14 = .ok (.getfield 80, 3) := by decide +kernel
theorem dX5_bias_17 : decode cX5_bias 17 = .ok (.iload_n 1, 1) := by decide +kernel
theorem dX5_bias_18 : decode cX5_bias 18 = .ok (.iaload, 1) := by decide +kernel
theorem dX5_bias_19 : decode cX5_bias 19 = .ok (.i2l, 1) := by decide +kernel
theorem dX5_bias_20 : decode cX5_bias 20 = .ok (.lmul, 1) := by decide +kernel
theorem dX5_bias_21 : decode cX5_bias 21 = .ok (.ldc2_w 150, 3) := by decide +kernel
theorem dX5_bias_24 : decode cX5_bias 24 = .ok (.invokestatic 105, 3) := by decide +kernel
theorem dX5_bias_27 : decode cX5_bias 27 = .ok (.lstore_n 2, 1) := by decide +kernel
theorem dX5_bias_28 : decode cX5_bias 28 = .ok (.aload_n 0, 1) := by decide +kernel
theorem dX5_bias_29 : decode cX5_bias 29 = .ok (.getfield 12, 3) := by decide +kernel
theorem dX5_bias_32 : decode cX5_bias 32 = .ok (.getfield 57, 3) := by decide +kernel
theorem dX5_bias_35 : decode cX5_bias 35 = .ok (.getfield 69, 3) := by decide +kernel
theorem dX5_bias_38 : decode cX5_bias 38 = .ok (.iload_n 1, 1) := by decide +kernel
theorem dX5_bias_39 : decode cX5_bias 39 = .ok (.iaload, 1) := by decide +kernel
theorem dX5_bias_40 : decode cX5_bias 40 = .ok (.i2l, 1) := by decide +kernel
theorem dX5_bias_41 : decode cX5_bias 41 = .ok (.lload_n 2, 1) := by decide +kernel
theorem dX5_bias_42 : decode cX5_bias 42 = .ok (.lsub, 1) := by decide +kernel
theorem dX5_bias_43 : decode cX5_bias 43 = .ok (.l2i, 1) := by decide +kernel
theorem dX5_bias_44 : decode cX5_bias 44 = .ok (.ireturn, 1) := by decide +kernel
set_option maxRecDepth 20000 in
theorem ggX5_costOf_X5_demandSignal : GoodIn wsX5_costOf wsX5_demandSignal := goodIn_ca (goodIn_r _ [6, 7, 8, 5, 9, 10, 11, 12, 13, 14] (by decide +kernel) (by decide +kernel)) (goodIn_sub (fun _ h => List.mem_cons_of_mem _ (List.mem_append_right _ h)) (by decide +kernel))
set_option maxRecDepth 20000 in
theorem gX5_costOf_X5_demandSignal : GoodIn wsX5_costOf (va_wsS RX5 96 yX5_demandSignal wsX5_demandSignal) := goodIn_app (goodIn_of _ (by decide +kernel)) ggX5_costOf_X5_demandSignal
set_option maxRecDepth 20000 in
theorem ggX5_costOf_X5_demandRange : GoodIn wsX5_costOf wsX5_demandRange := goodIn_ca (goodIn_r _ [9, 10, 11, 12, 13, 5, 14] (by decide +kernel) (by decide +kernel)) (goodIn_sub (fun _ h => List.mem_cons_of_mem _ (List.mem_append_right _ h)) (by decide +kernel))
set_option maxRecDepth 20000 in
theorem gX5_costOf_X5_demandRange : GoodIn wsX5_costOf (va_wsS RX5 34 yX5_demandRange wsX5_demandRange) := goodIn_app (goodIn_of _ (by decide +kernel)) ggX5_costOf_X5_demandRange
set_option maxRecDepth 20000 in
theorem ggX5_costOf_X3_copyFrom : GoodIn wsX5_costOf wsX3_copyFrom := goodIn_r _ [18, 19, 20, 21, 22, 23, 24, 25, 26, 27, 28, 29, 30, 31, 32, 33, 34, 35, 36, 37, 38, 39, 40, 41, 42, 43, 44, 45, 46, 47, 48, 49, 50, 51, 52, 53, 154, 155, 156, 157, 158, 159, 160, 161, 162, 163, 164, 165, 166, 167, 168, 169, 170, 171] (by decide +kernel) (by decide +kernel)
set_option maxRecDepth 20000 in
theorem gX5_costOf_X3_copyFrom_n159 : GoodIn wsX5_costOf (wsX3_copyFrom) := ggX5_costOf_X3_copyFrom
set_option maxRecDepth 20000 in
theorem ggX5_costOf_X3_costOfSteps : GoodIn wsX5_costOf wsX3_costOfSteps := goodIn_r _ [56, 25, 57, 58, 59, 60, 61, 62, 63, 16, 64, 65, 24, 66, 67, 68, 19, 69, 70, 71, 72, 5, 73, 74, 75, 76, 77, 78, 79, 80, 81, 82, 83, 84, 46, 85, 86, 87, 52, 88, 89, 49, 53, 90, 91, 92, 93, 94, 95, 96, 97, 98, 99, 100, 101, 51, 102, 27, 103, 104, 105, 35, 36, 106, 34, 107, 108, 109, 110, 111, 33, 112, 38, 113, 114, 41, 42, 21, 22, 23, 43, 44, 115, 116, 117, 118, 119, 120, 121, 122, 123, 124, 125, 126, 127, 128, 129, 130, 131, 132, 133, 134, 135, 136, 137, 138, 30, 32, 139, 140, 141, 142, 143, 144, 145, 146, 147, 148, 154, 155, 156, 168, 169, 170, 171, 157, 158, 159, 160, 161, 162, 163, 164, 165, 166, 167] (by decide +kernel) (by decide +kernel)
set_option maxRecDepth 20000 in
theorem gX5_costOf_X3_costOfSteps_n163 : GoodIn wsX5_costOf (wsX3_costOfSteps) := ggX5_costOf_X3_costOfSteps
theorem dX5_costOf_0 : decode cX5_costOf 0 = .ok (.iload_n 1, 1) := by decide +kernel
theorem dX5_costOf_1 : decode cX5_costOf 1 = .ok (.invokestatic 96, 3) := by decide +kernel
theorem dX5_costOf_4 : decode cX5_costOf 4 = .ok (.iload_n 2, 1) := by decide +kernel
theorem dX5_costOf_5 : decode cX5_costOf 5 = .ok (.iconst 0, 1) := by decide +kernel
theorem dX5_costOf_6 : decode cX5_costOf 6 = .ok (.sipush 500, 3) := by decide +kernel
theorem dX5_costOf_9 : decode cX5_costOf 9 = .ok (.invokestatic 34, 3) := by decide +kernel
theorem dX5_costOf_12 : decode cX5_costOf 12 = .ok (.aload_n 0, 1) := by decide +kernel
theorem dX5_costOf_13 : decode cX5_costOf 13 = .ok (.getfield 16, 3) := by decide +kernel
theorem dX5_costOf_16 : decode cX5_costOf 16 = .ok (.aload_n 0, 1) := by decide +kernel
theorem dX5_costOf_17 : decode cX5_costOf 17 = .ok (.getfield 12, 3) := by decide +kernel
theorem dX5_costOf_20 : decode cX5_costOf 20 = .ok (.invokevirtual 159, 3) := by decide +kernel
theorem dX5_costOf_23 : decode cX5_costOf 23 = .ok (.aload_n 0, 1) := by decide +kernel
theorem dX5_costOf_24 : decode cX5_costOf 24 = .ok (.getfield 16, 3) := by decide +kernel
theorem dX5_costOf_27 : decode cX5_costOf 27 = .ok (.iload_n 1, 1) := by decide +kernel
theorem dX5_costOf_28 : decode cX5_costOf 28 = .ok (.iload_n 2, 1) := by decide +kernel
theorem dX5_costOf_29 : decode cX5_costOf 29 = .ok (.invokevirtual 163, 3) := by decide +kernel
theorem dX5_costOf_32 : decode cX5_costOf 32 = .ok (.lreturn, 1) := by decide +kernel
set_option maxRecDepth 20000 in
theorem ggX5_settling_X5_demandSignal : GoodIn wsX5_settling wsX5_demandSignal := goodIn_ca (goodIn_r _ [10, 11, 12, 9, 13, 14, 15, 16, 17, 18] (by decide +kernel) (by decide +kernel)) (goodIn_sub (fun _ h => List.mem_cons_of_mem _ (List.mem_append_right _ h)) (by decide +kernel))
set_option maxRecDepth 20000 in
theorem gX5_settling_X5_demandSignal : GoodIn wsX5_settling (va_wsS RX5 96 yX5_demandSignal wsX5_demandSignal) := goodIn_app (goodIn_of _ (by decide +kernel)) ggX5_settling_X5_demandSignal
set_option maxRecDepth 20000 in
theorem ggX5_settling_X5_demandRange : GoodIn wsX5_settling wsX5_demandRange := goodIn_ca (goodIn_r _ [13, 14, 15, 16, 17, 9, 18] (by decide +kernel) (by decide +kernel)) (goodIn_sub (fun _ h => List.mem_cons_of_mem _ (List.mem_append_right _ h)) (by decide +kernel))
set_option maxRecDepth 20000 in
theorem gX5_settling_X5_demandRange : GoodIn wsX5_settling (va_wsS RX5 34 yX5_demandRange wsX5_demandRange) := goodIn_app (goodIn_of _ (by decide +kernel)) ggX5_settling_X5_demandRange
set_option maxRecDepth 20000 in
theorem ggX5_settling_X3_copyFrom : GoodIn wsX5_settling wsX3_copyFrom := goodIn_r _ [22, 23, 24, 25, 26, 27, 28, 29, 30, 31, 32, 33, 34, 35, 36, 37, 38, 39, 40, 41, 42, 43, 44, 45, 46, 47, 48, 49, 50, 51, 52, 53, 54, 55, 56, 57, 149, 150, 151, 156, 157, 158, 159, 160, 161, 162, 163, 164, 165, 166, 152, 153, 154, 155] (by decide +kernel) (by decide +kernel)
set_option maxRecDepth 20000 in
theorem gX5_settling_X3_copyFrom_n159 : GoodIn wsX5_settling (wsX3_copyFrom) := ggX5_settling_X3_copyFrom
set_option maxRecDepth 20000 in
theorem ggX5_settling_X3_inputFor : GoodIn wsX5_settling wsX3_inputFor := goodIn_r _ [60, 61, 28, 62, 63, 5, 64, 23, 65, 66, 67, 68, 9, 69, 70, 71, 72, 73, 74, 75, 149, 150, 151, 156, 157, 158, 159, 160, 161, 162, 163] (by decide +kernel) (by decide +kernel)
set_option maxRecDepth 20000 in
theorem gX5_settling_X3_inputFor_n152 : GoodIn wsX5_settling (wsX3_inputFor) := ggX5_settling_X3_inputFor
set_option maxRecDepth 20000 in
theorem ggX5_settling_X3_step : GoodIn wsX5_settling wsX3_step := goodIn_r _ [78, 29, 28, 23, 79, 50, 80, 81, 82, 56, 83, 84, 53, 57, 85, 86, 87, 88, 89, 72, 90, 68, 9, 69, 70, 71, 73, 91, 92, 93, 94, 95, 96, 55, 74, 75, 97, 31, 98, 99, 100, 39, 40, 101, 63, 5, 64, 38, 102, 103, 104, 105, 106, 37, 107, 42, 108, 109, 45, 46, 25, 26, 27, 47, 48, 110, 111, 112, 113, 114, 115, 116, 117, 118, 66, 67, 119, 120, 121, 122, 123, 124, 125, 126, 127, 128, 129, 130, 131, 132, 133, 34, 36, 134, 135, 136, 137, 138, 139, 140, 141, 142, 143, 149, 150, 151, 152, 153, 154, 155, 156, 157, 158, 159, 160, 161, 162, 163, 164, 165, 166] (by decide +kernel) (by decide +kernel)
set_option maxRecDepth 20000 in
theorem gX5_settling_X3_step_n156 : GoodIn wsX5_settling (wsX3_step) := ggX5_settling_X3_step
theorem dX5_settling_0 : decode cX5_settling 0 = .ok (.iload_n 1, 1) := by decide +kernel
theorem dX5_settling_1 : decode cX5_settling 1 = .ok (.invokestatic 96, 3) := by decide +kernel
theorem dX5_settling_4 : decode cX5_settling 4 = .ok (.iload_n 2, 1) := by decide +kernel
theorem dX5_settling_5 : decode cX5_settling 5 = .ok (.iconst 0, 1) := by decide +kernel
theorem dX5_settling_6 : decode cX5_settling 6 = .ok (.sipush 500, 3) := by decide +kernel
theorem dX5_settling_9 : decode cX5_settling 9 = .ok (.invokestatic 34, 3) := by decide +kernel
theorem dX5_settling_12 : decode cX5_settling 12 = .ok (.aload_n 0, 1) := by decide +kernel
theorem dX5_settling_13 : decode cX5_settling 13 = .ok (.getfield 16, 3) := by decide +kernel
theorem dX5_settling_16 : decode cX5_settling 16 = .ok (.aload_n 0, 1) := by decide +kernel
theorem dX5_settling_17 : decode cX5_settling 17 = .ok (.getfield 12, 3) := by decide +kernel
theorem dX5_settling_20 : decode cX5_settling 20 = .ok (.invokevirtual 159, 3) := by decide +kernel
theorem dX5_settling_23 : decode cX5_settling 23 = .ok (.iconst 0, 1) := by decide +kernel
theorem dX5_settling_24 : decode cX5_settling 24 = .ok (.istore_n 3, 1) := by decide +kernel
theorem dX5_settling_25 : decode cX5_settling 25 = .ok (.iconst 1, 1) := by decide +kernel
theorem dX5_settling_26 : decode cX5_settling 26 = .ok (.istore 4, 2) := by decide +kernel
theorem dX5_settling_28 : decode cX5_settling 28 = .ok (.iload 4, 2) := by decide +kernel
theorem dX5_settling_30 : decode cX5_settling 30 = .ok (.sipush 500, 3) := by decide +kernel
theorem dX5_settling_33 : decode cX5_settling 33 = .ok (.if_icmp .gt 69, 3) := by decide +kernel
theorem dX5_settling_36 : decode cX5_settling 36 = .ok (.aload_n 0, 1) := by decide +kernel
theorem dX5_settling_37 : decode cX5_settling 37 = .ok (.getfield 16, 3) := by decide +kernel
theorem dX5_settling_40 : decode cX5_settling 40 = .ok (.aload_n 0, 1) := by decide +kernel
theorem dX5_settling_41 : decode cX5_settling 41 = .ok (.getfield 16, 3) := by decide +kernel
theorem dX5_settling_44 : decode cX5_settling 44 = .ok (.iload_n 1, 1) := by decide +kernel
theorem dX5_settling_45 : decode cX5_settling 45 = .ok (.aload_n 0, 1) := by decide +kernel
theorem dX5_settling_46 : decode cX5_settling 46 = .ok (.getfield 16, 3) := by decide +kernel
theorem dX5_settling_49 : decode cX5_settling 49 = .ok (.getfield 76, 3) := by decide +kernel
theorem dX5_settling_52 : decode cX5_settling 52 = .ok (.getfield 88, 3) := by decide +kernel
theorem dX5_settling_55 : decode cX5_settling 55 = .ok (.invokevirtual 152, 3) := by decide +kernel
theorem dX5_settling_58 : decode cX5_settling 58 = .ok (.invokevirtual 156, 3) := by decide +kernel
theorem dX5_settling_61 : decode cX5_settling 61 = .ok (.iload_n 1, 1) := by decide +kernel
theorem dX5_settling_62 : decode cX5_settling 62 = .ok (.aload_n 0, 1) := by decide +kernel
theorem dX5_settling_63 : decode cX5_settling 63 = .ok (.getfield 16, 3) := by decide +kernel
theorem dX5_settling_66 : decode cX5_settling 66 = .ok (.getfield 76, 3) := by decide +kernel
theorem dX5_settling_69 : decode cX5_settling 69 = .ok (.getfield 88, 3) := by decide +kernel
theorem dX5_settling_72 : decode cX5_settling 72 = .ok (.isub, 1) := by decide +kernel
theorem dX5_settling_73 : decode cX5_settling 73 = .ok (.invokestatic 166, 3) := by decide +kernel
theorem dX5_settling_76 : decode cX5_settling 76 = .ok (.iload_n 2, 1) := by decide +kernel
theorem dX5_settling_77 : decode cX5_settling 77 = .ok (.if_icmp .gt 9, 3) := by decide +kernel
theorem dX5_settling_80 : decode cX5_settling 80 = .ok (.iload_n 3, 1) := by decide +kernel
theorem dX5_settling_81 : decode cX5_settling 81 = .ok (.iconst 1, 1) := by decide +kernel
theorem dX5_settling_82 : decode cX5_settling 82 = .ok (.iadd, 1) := by decide +kernel
theorem dX5_settling_83 : decode cX5_settling 83 = .ok (.goto 4, 3) := by decide +kernel
theorem dX5_settling_86 : decode cX5_settling 86 = .ok (.iconst 0, 1) := by decide +kernel
theorem dX5_settling_87 : decode cX5_settling 87 = .ok (.istore_n 3, 1) := by decide +kernel
theorem dX5_settling_88 : decode cX5_settling 88 = .ok (.iload_n 3, 1) := by decide +kernel
theorem dX5_settling_89 : decode cX5_settling 89 = .ok (.iconst 5, 1) := by decide +kernel
theorem dX5_settling_90 : decode cX5_settling 90 = .ok (.if_icmp .ne 6, 3) := by decide +kernel
theorem dX5_settling_93 : decode cX5_settling 93 = .ok (.iload 4, 2) := by decide +kernel
theorem dX5_settling_95 : decode cX5_settling 95 = .ok (.ireturn, 1) := by decide +kernel
theorem dX5_settling_96 : decode cX5_settling 96 = .ok (.iinc 4 1, 3) := by decide +kernel
theorem dX5_settling_99 : decode cX5_settling 99 = .ok (.goto (-71), 3) := by decide +kernel
theorem dX5_settling_102 : decode cX5_settling 102 = .ok (.iconst (-1), 1) := by decide +kernel
theorem dX5_settling_103 : decode cX5_settling 103 = .ok (.ireturn, 1) := by decide +kernel
set_option maxRecDepth 20000 in
theorem ggX5_bestDither_X5_demandSignal : GoodIn wsX5_bestDither wsX5_demandSignal := goodIn_ca (goodIn_r _ [6, 7, 8, 5, 9, 10, 11, 12, 13, 14] (by decide +kernel) (by decide +kernel)) (goodIn_sub (fun _ h => List.mem_cons_of_mem _ (List.mem_append_right _ h)) (by decide +kernel))
set_option maxRecDepth 20000 in
theorem gX5_bestDither_X5_demandSignal : GoodIn wsX5_bestDither (va_wsS RX5 96 yX5_demandSignal wsX5_demandSignal) := goodIn_app (goodIn_of _ (by decide +kernel)) ggX5_bestDither_X5_demandSignal
set_option maxRecDepth 20000 in
theorem ggX5_bestDither_X5_demandRange : GoodIn wsX5_bestDither wsX5_demandRange := goodIn_ca (goodIn_r _ [9, 10, 11, 12, 13, 5, 14] (by decide +kernel) (by decide +kernel)) (goodIn_sub (fun _ h => List.mem_cons_of_mem _ (List.mem_append_right _ h)) (by decide +kernel))
set_option maxRecDepth 20000 in
theorem gX5_bestDither_X5_demandRange : GoodIn wsX5_bestDither (va_wsS RX5 34 yX5_demandRange wsX5_demandRange) := goodIn_app (goodIn_of _ (by decide +kernel)) ggX5_bestDither_X5_demandRange
set_option maxRecDepth 20000 in
theorem ggX5_bestDither_X3_copyFrom : GoodIn wsX5_bestDither wsX3_copyFrom := goodIn_r _ [18, 19, 20, 21, 22, 23, 24, 25, 26, 27, 28, 29, 30, 31, 32, 33, 34, 35, 36, 37, 38, 39, 40, 41, 42, 43, 44, 45, 46, 47, 48, 49, 50, 51, 52, 53, 154, 155, 156, 157, 158, 159, 160, 161, 162, 163, 164, 165, 166, 167, 168, 169, 170, 171] (by decide +kernel) (by decide +kernel)
set_option maxRecDepth 20000 in
theorem gX5_bestDither_X3_copyFrom_n159 : GoodIn wsX5_bestDither (wsX3_copyFrom) := ggX5_bestDither_X3_copyFrom
set_option maxRecDepth 20000 in
theorem ggX5_bestDither_X3_costOfSteps : GoodIn wsX5_bestDither wsX3_costOfSteps := goodIn_r _ [56, 25, 57, 58, 59, 60, 61, 62, 63, 16, 64, 65, 24, 66, 67, 68, 19, 69, 70, 71, 72, 5, 73, 74, 75, 76, 77, 78, 79, 80, 81, 82, 83, 84, 46, 85, 86, 87, 52, 88, 89, 49, 53, 90, 91, 92, 93, 94, 95, 96, 97, 98, 99, 100, 101, 51, 102, 27, 103, 104, 105, 35, 36, 106, 34, 107, 108, 109, 110, 111, 33, 112, 38, 113, 114, 41, 42, 21, 22, 23, 43, 44, 115, 116, 117, 118, 119, 120, 121, 122, 123, 124, 125, 126, 127, 128, 129, 130, 131, 132, 133, 134, 135, 136, 137, 138, 30, 32, 139, 140, 141, 142, 143, 144, 145, 146, 147, 148, 154, 155, 156, 168, 169, 170, 171, 157, 158, 159, 160, 161, 162, 163, 164, 165, 166, 167] (by decide +kernel) (by decide +kernel)
set_option maxRecDepth 20000 in
theorem gX5_bestDither_X3_costOfSteps_n163 : GoodIn wsX5_bestDither (wsX3_costOfSteps) := ggX5_bestDither_X3_costOfSteps
theorem dX5_bestDither_0 : decode cX5_bestDither 0 = .ok (.iload_n 1, 1) := by decide +kernel
theorem dX5_bestDither_1 : decode cX5_bestDither 1 = .ok (.invokestatic 96, 3) := by decide +kernel
theorem dX5_bestDither_4 : decode cX5_bestDither 4 = .ok (.iload_n 2, 1) := by decide +kernel
theorem dX5_bestDither_5 : decode cX5_bestDither 5 = .ok (.iconst 1, 1) := by decide +kernel
theorem dX5_bestDither_6 : decode cX5_bestDither 6 = .ok (.bipush 50, 2) := by decide +kernel
theorem dX5_bestDither_8 : decode cX5_bestDither 8 = .ok (.invokestatic 34, 3) := by decide +kernel
theorem dX5_bestDither_11 : decode cX5_bestDither 11 = .ok (.iload_n 3, 1) := by decide +kernel
theorem dX5_bestDither_12 : decode cX5_bestDither 12 = .ok (.iconst 0, 1) := by decide +kernel
theorem dX5_bestDither_13 : decode cX5_bestDither 13 = .ok (.bipush 100, 2) := by decide +kernel
theorem dX5_bestDither_15 : decode cX5_bestDither 15 = .ok (.invokestatic 34, 3) := by decide +kernel
theorem dX5_bestDither_18 : decode cX5_bestDither 18 = .ok (.iconst (-1), 1) := by decide +kernel
theorem dX5_bestDither_19 : decode cX5_bestDither 19 = .ok (.istore 4, 2) := by decide +kernel
theorem dX5_bestDither_21 : decode cX5_bestDither 21 = .ok (.lconst 0, 1) := by decide +kernel
theorem dX5_bestDither_22 : decode cX5_bestDither 22 = .ok (.lstore 5, 2) := by decide +kernel
theorem dX5_bestDither_24 : decode cX5_bestDither 24 = .ok (.iconst 0, 1) := by decide +kernel
theorem dX5_bestDither_25 : decode cX5_bestDither 25 = .ok (.istore 7, 2) := by decide +kernel
theorem dX5_bestDither_27 : decode cX5_bestDither 27 = .ok (.iload 7, 2) := by decide +kernel
theorem dX5_bestDither_29 : decode cX5_bestDither 29 = .ok (.iload_n 3, 1) := by decide +kernel
theorem dX5_bestDither_30 : decode cX5_bestDither 30 = .ok (.if_icmp .gt 64, 3) := by decide +kernel
theorem dX5_bestDither_33 : decode cX5_bestDither 33 = .ok (.aload_n 0, 1) := by decide +kernel
theorem dX5_bestDither_34 : decode cX5_bestDither 34 = .ok (.getfield 16, 3) := by decide +kernel
theorem dX5_bestDither_37 : decode cX5_bestDither 37 = .ok (.aload_n 0, 1) := by decide +kernel
theorem dX5_bestDither_38 : decode cX5_bestDither 38 = .ok (.getfield 12, 3) := by decide +kernel
theorem dX5_bestDither_41 : decode cX5_bestDither 41 = .ok (.invokevirtual 159, 3) := by decide +kernel
theorem dX5_bestDither_44 : decode cX5_bestDither 44 = .ok (.aload_n 0, 1) := by decide +kernel
theorem dX5_bestDither_45 : decode cX5_bestDither 45 = .ok (.getfield 16, 3) := by decide +kernel
theorem dX5_bestDither_48 : decode cX5_bestDither 48 = .ok (.getfield 48, 3) := by decide +kernel
theorem dX5_bestDither_51 : decode cX5_bestDither 51 = .ok (.iconst 5, 1) := by decide +kernel
theorem dX5_bestDither_52 : decode cX5_bestDither 52 = .ok (.iload 7, 2) := by decide +kernel
theorem dX5_bestDither_54 : decode cX5_bestDither 54 = .ok (.iastore, 1) := by decide +kernel
theorem dX5_bestDither_55 : decode cX5_bestDither 55 = .ok (.aload_n 0, 1) := by decide +kernel
theorem dX5_bestDither_56 : decode cX5_bestDither 56 = .ok (.getfield 16, 3) := by decide +kernel
theorem dX5_bestDither_59 : decode cX5_bestDither 59 = .ok (.iload_n 1, 1) := by decide +kernel
theorem dX5_bestDither_60 : decode cX5_bestDither 60 = .ok (.iload_n 2, 1) := by decide +kernel
theorem dX5_bestDither_61 : decode cX5_bestDither 61 = .ok (.invokevirtual 163, 3) := by decide +kernel
theorem dX5_bestDither_64 : decode cX5_bestDither 64 = .ok (.lstore 8, 2) := by decide +kernel
theorem dX5_bestDither_66 : decode cX5_bestDither 66 = .ok (.iload 4, 2) := by decide +kernel
theorem dX5_bestDither_68 : decode cX5_bestDither 68 = .ok (.iconst (-1), 1) := by decide +kernel
theorem dX5_bestDither_69 : decode cX5_bestDither 69 = .ok (.if_icmp .eq 11, 3) := by decide +kernel
theorem dX5_bestDither_72 : decode cX5_bestDither 72 = .ok (.lload 8, 2) := by decide +kernel
theorem dX5_bestDither_74 : decode cX5_bestDither 74 = .ok (.lload 5, 2) := by decide +kernel
theorem dX5_bestDither_76 : decode cX5_bestDither 76 = .ok (.lcmp, 1) := by decide +kernel
theorem dX5_bestDither_77 : decode cX5_bestDither 77 = .ok (.ifCond .ge 11, 3) := by decide +kernel
theorem dX5_bestDither_80 : decode cX5_bestDither 80 = .ok (.lload 8, 2) := by decide +kernel
theorem dX5_bestDither_82 : decode cX5_bestDither 82 = .ok (.lstore 5, 2) := by decide +kernel
theorem dX5_bestDither_84 : decode cX5_bestDither 84 = .ok (.iload 7, 2) := by decide +kernel
theorem dX5_bestDither_86 : decode cX5_bestDither 86 = .ok (.istore 4, 2) := by decide +kernel
theorem dX5_bestDither_88 : decode cX5_bestDither 88 = .ok (.iinc 7 1, 3) := by decide +kernel
theorem dX5_bestDither_91 : decode cX5_bestDither 91 = .ok (.goto (-64), 3) := by decide +kernel
theorem dX5_bestDither_94 : decode cX5_bestDither 94 = .ok (.iload 4, 2) := by decide +kernel
theorem dX5_bestDither_96 : decode cX5_bestDither 96 = .ok (.ireturn, 1) := by decide +kernel
set_option maxRecDepth 20000 in
theorem ggX5_append_X5_demandRange : GoodIn wsX5_append wsX5_demandRange := goodIn_ca (goodIn_r _ [7, 8, 9, 10, 11, 6, 12] (by decide +kernel) (by decide +kernel)) (goodIn_sub (fun _ h => List.mem_cons_of_mem _ (List.mem_append_right _ h)) (by decide +kernel))
set_option maxRecDepth 20000 in
theorem gX5_append_X5_demandRange : GoodIn wsX5_append (va_wsS RX5 34 yX5_demandRange wsX5_demandRange) := goodIn_app (goodIn_of _ (by decide +kernel)) ggX5_append_X5_demandRange
set_option maxRecDepth 20000 in
theorem ggX5_append_X2_addIfRoom : GoodIn wsX5_append wsX2_addIfRoom := goodIn_r _ [16, 17, 18, 24, 25, 26, 27, 28] (by decide +kernel) (by decide +kernel)
set_option maxRecDepth 20000 in
theorem gX5_append_X2_addIfRoom_n171 : GoodIn wsX5_append (wsX2_addIfRoom) := ggX5_append_X2_addIfRoom
theorem dX5_append_0 : decode cX5_append 0 = .ok (.iload_n 1, 1) := by decide +kernel
theorem dX5_append_1 : decode cX5_append 1 = .ok (.iconst 0, 1) := by decide +kernel
theorem dX5_append_2 : decode cX5_append 2 = .ok (.bipush 127, 2) := by decide +kernel
theorem dX5_append_4 : decode cX5_append 4 = .ok (.invokestatic 34, 3) := by decide +kernel
theorem dX5_append_7 : decode cX5_append 7 = .ok (.aload_n 0, 1) := by decide +kernel
theorem dX5_append_8 : decode cX5_append 8 = .ok (.getfield 30, 3) := by decide +kernel
theorem dX5_append_11 : decode cX5_append 11 = .ok (.iload_n 1, 1) := by decide +kernel
theorem dX5_append_12 : decode cX5_append 12 = .ok (.invokevirtual 171, 3) := by decide +kernel
theorem dX5_append_15 : decode cX5_append 15 = .ok (.ifCond .ne 13, 3) := by decide +kernel
theorem dX5_append_18 : decode cX5_append 18 = .ok (.new 175, 3) := by decide +kernel
theorem dX5_append_21 : decode cX5_append 21 = .ok (.dup, 1) := by decide +kernel
theorem dX5_append_22 : decode cX5_append 22 = .ok (.ldc 177, 2) := by decide +kernel
theorem dX5_append_24 : decode cX5_append 24 = .ok (.invokespecial 179, 3) := by decide +kernel
theorem dX5_append_27 : decode cX5_append 27 = .ok (.athrow, 1) := by decide +kernel
theorem dX5_append_28 : decode cX5_append 28 = .ok (.aload_n 0, 1) := by decide +kernel
theorem dX5_append_29 : decode cX5_append 29 = .ok (.getfield 30, 3) := by decide +kernel
theorem dX5_append_32 : decode cX5_append 32 = .ok (.getfield 182, 3) := by decide +kernel
theorem dX5_append_35 : decode cX5_append 35 = .ok (.ireturn, 1) := by decide +kernel
theorem dX5_clearText_0 : decode cX5_clearText 0 = .ok (.aload_n 0, 1) := by decide +kernel
theorem dX5_clearText_1 : decode cX5_clearText 1 = .ok (.getfield 30, 3) := by decide +kernel
theorem dX5_clearText_4 : decode cX5_clearText 4 = .ok (.getfield 182, 3) := by decide +kernel
theorem dX5_clearText_7 : decode cX5_clearText 7 = .ok (.istore_n 1, 1) := by decide +kernel
theorem dX5_clearText_8 : decode cX5_clearText 8 = .ok (.aload_n 0, 1) := by decide +kernel
theorem dX5_clearText_9 : decode cX5_clearText 9 = .ok (.getfield 30, 3) := by decide +kernel
theorem dX5_clearText_12 : decode cX5_clearText 12 = .ok (.iconst 0, 1) := by decide +kernel
theorem dX5_clearText_13 : decode cX5_clearText 13 = .ok (.putfield 182, 3) := by decide +kernel
theorem dX5_clearText_16 : decode cX5_clearText 16 = .ok (.iload_n 1, 1) := by decide +kernel
theorem dX5_clearText_17 : decode cX5_clearText 17 = .ok (.ireturn, 1) := by decide +kernel
set_option maxRecDepth 20000 in
theorem ggX5_replay_X2_read : GoodIn wsX5_replay wsX2_read := goodIn_r _ [6, 7, 8, 9, 10, 11, 12, 4, 13, 14, 15, 16, 17, 18, 19, 20, 21, 22, 23, 24, 25, 26, 148, 149, 150, 151, 152] (by decide +kernel) (by decide +kernel)
set_option maxRecDepth 20000 in
theorem gX5_replay_X2_read_n185 : GoodIn wsX5_replay (wsX2_read) := ggX5_replay_X2_read
set_option maxRecDepth 20000 in
theorem ggX5_replay_X2_firstOutOfRange : GoodIn wsX5_replay wsX2_firstOutOfRange := goodIn_r _ [29, 7, 30, 31, 32, 4, 33, 14, 24, 25, 26, 148, 149, 150, 151, 152] (by decide +kernel) (by decide +kernel)
set_option maxRecDepth 20000 in
theorem gX5_replay_X2_firstOutOfRange_n188 : GoodIn wsX5_replay (wsX2_firstOutOfRange) := ggX5_replay_X2_firstOutOfRange
set_option maxRecDepth 20000 in
theorem ggX5_replay_X5_saveState : GoodIn wsX5_replay wsX5_saveState := goodIn_r _ [37, 38, 39, 2, 40, 41, 42, 25, 43, 44, 45, 46, 47, 48, 49, 50, 51, 52, 53, 54, 55, 56, 57, 58, 59, 60, 61, 62, 63, 64, 65, 66, 67, 68, 69, 70, 71, 72, 73, 74, 75, 76, 77, 78, 79, 80, 81, 82, 143, 144, 145, 146, 147, 153, 154, 155, 156, 157, 158, 159, 160, 161, 162, 163, 164, 165, 166, 167, 168, 169, 170] (by decide +kernel) (by decide +kernel)
set_option maxRecDepth 20000 in
theorem gX5_replay_X5_saveState : GoodIn wsX5_replay (wsV RX5 45 RX5 yX5_saveState wsX5_saveState) := goodIn_app (goodIn_of _ (by decide +kernel)) ggX5_replay_X5_saveState
set_option maxRecDepth 20000 in
theorem ggX5_replay_X2_number : GoodIn wsX5_replay wsX2_number := goodIn_r _ [33, 14, 148, 149, 150, 151, 152] (by decide +kernel) (by decide +kernel)
set_option maxRecDepth 20000 in
theorem gX5_replay_X2_number_n194 : GoodIn wsX5_replay (wsX2_number) := ggX5_replay_X2_number
set_option maxRecDepth 20000 in
theorem ggX5_replay_X0_take : GoodIn wsX5_replay wsX0_take := goodIn_r _ [85, 86, 64, 65, 87, 88, 89, 90, 63, 91, 92, 93, 94, 56, 95, 62, 96, 67, 97, 98, 70, 71, 50, 51, 52, 72, 73, 99, 100, 101, 102, 103, 104, 105, 106, 107, 108, 109, 110, 111, 112, 113, 114, 115, 116, 117, 25, 118, 119, 120, 121, 122, 123, 124, 125, 126, 127, 128, 129, 130, 131, 132, 59, 61, 133, 134, 135, 136, 137, 138, 139, 140, 141, 142, 156, 157, 158, 159, 160, 161, 162, 163, 164, 165, 166] (by decide +kernel) (by decide +kernel)
set_option maxRecDepth 20000 in
theorem gX5_replay_X0_take_n99 : GoodIn wsX5_replay (wsX0_take) := ggX5_replay_X0_take
theorem dX5_replay_0 : decode cX5_replay 0 = .ok (.aload_n 0, 1) := by decide +kernel
theorem dX5_replay_1 : decode cX5_replay 1 = .ok (.getfield 30, 3) := by decide +kernel
theorem dX5_replay_4 : decode cX5_replay 4 = .ok (.invokevirtual 185, 3) := by decide +kernel
theorem dX5_replay_7 : decode cX5_replay 7 = .ok (.istore_n 1, 1) := by decide +kernel
theorem dX5_replay_8 : decode cX5_replay 8 = .ok (.iload_n 1, 1) := by decide +kernel
theorem dX5_replay_9 : decode cX5_replay 9 = .ok (.iconst (-1), 1) := by decide +kernel
theorem dX5_replay_10 : decode cX5_replay 10 = .ok (.if_icmp .eq 8, 3) := by decide +kernel
theorem dX5_replay_13 : decode cX5_replay 13 = .ok (.bipush (-10), 2) := by decide +kernel
theorem dX5_replay_15 : decode cX5_replay 15 = .ok (.iload_n 1, 1) := by decide +kernel
theorem dX5_replay_16 : decode cX5_replay 16 = .ok (.isub, 1) := by decide +kernel
theorem dX5_replay_17 : decode cX5_replay 17 = .ok (.ireturn, 1) := by decide +kernel
theorem dX5_replay_18 : decode cX5_replay 18 = .ok (.aload_n 0, 1) := by decide +kernel
theorem dX5_replay_19 : decode cX5_replay 19 = .ok (.getfield 30, 3) := by decide +kernel
theorem dX5_replay_22 : decode cX5_replay 22 = .ok (.invokevirtual 188, 3) := by decide +kernel
theorem dX5_replay_25 : decode cX5_replay 25 = .ok (.istore_n 2, 1) := by decide +kernel
theorem dX5_replay_26 : decode cX5_replay 26 = .ok (.iload_n 2, 1) := by decide +kernel
theorem dX5_replay_27 : decode cX5_replay 27 = .ok (.iconst (-1), 1) := by decide +kernel
theorem dX5_replay_28 : decode cX5_replay 28 = .ok (.if_icmp .eq 9, 3) := by decide +kernel
theorem dX5_replay_31 : decode cX5_replay 31 = .ok (.sipush (-1000), 3) := by decide +kernel
theorem dX5_replay_34 : decode cX5_replay 34 = .ok (.iload_n 2, 1) := by decide +kernel
theorem dX5_replay_35 : decode cX5_replay 35 = .ok (.isub, 1) := by decide +kernel
theorem dX5_replay_36 : decode cX5_replay 36 = .ok (.ireturn, 1) := by decide +kernel
theorem dX5_replay_37 : decode cX5_replay 37 = .ok (.aload_n 0, 1) := by decide +kernel
theorem dX5_replay_38 : decode cX5_replay 38 = .ok (.invokevirtual 45, 3) := by decide +kernel
theorem dX5_replay_41 : decode cX5_replay 41 = .ok (.iconst 0, 1) := by decide +kernel
theorem dX5_replay_42 : decode cX5_replay 42 = .ok (.istore_n 3, 1) := by decide +kernel
theorem dX5_replay_43 : decode cX5_replay 43 = .ok (.iload_n 3, 1) := by decide +kernel
theorem dX5_replay_44 : decode cX5_replay 44 = .ok (.aload_n 0, 1) := by decide +kernel
theorem dX5_replay_45 : decode cX5_replay 45 = .ok (.getfield 30, 3) := by decide +kernel
theorem dX5_replay_48 : decode cX5_replay 48 = .ok (.getfield 191, 3) := by decide +kernel
theorem dX5_replay_51 : decode cX5_replay 51 = .ok (.if_icmp .ge 54, 3) := by decide +kernel
theorem dX5_replay_54 : decode cX5_replay 54 = .ok (.aload_n 0, 1) := by decide +kernel
theorem dX5_replay_55 : decode cX5_replay 55 = .ok (.getfield 12, 3) := by decide +kernel
theorem dX5_replay_58 : decode cX5_replay 58 = .ok (.getfield 57, 3) := by decide +kernel
theorem dX5_replay_61 : decode cX5_replay 61 = .ok (.aload_n 0, 1) := by decide +kernel
theorem dX5_replay_62 : decode cX5_replay 62 = .ok (.getfield 12, 3) := by decide +kernel
theorem dX5_replay_65 : decode cX5_replay 65 = .ok (.getfield 48, 3) := by decide +kernel
theorem dX5_replay_68 : decode cX5_replay 68 = .ok (.aload_n 0, 1) := by decide +kernel
theorem dX5_replay_69 : decode cX5_replay 69 = .ok (.getfield 30, 3) := by decide +kernel
theorem dX5_replay_72 : decode cX5_replay 72 = .ok (.iload_n 3, 1) := by decide +kernel
theorem dX5_replay_73 : decode cX5_replay 73 = .ok (.iconst 0, 1) := by decide +kernel
theorem dX5_replay_74 : decode cX5_replay 74 = .ok (.invokevirtual 194, 3) := by decide +kernel
theorem dX5_replay_77 : decode cX5_replay 77 = .ok (.aload_n 0, 1) := by decide +kernel
theorem dX5_replay_78 : decode cX5_replay 78 = .ok (.getfield 30, 3) := by decide +kernel
theorem dX5_replay_81 : decode cX5_replay 81 = .ok (.iload_n 3, 1) := by decide +kernel
theorem dX5_replay_82 : decode cX5_replay 82 = .ok (.iconst 1, 1) := by decide +kernel
theorem dX5_replay_83 : decode cX5_replay 83 = .ok (.invokevirtual 194, 3) := by decide +kernel
theorem dX5_replay_86 : decode cX5_replay 86 = .ok (.aload_n 0, 1) := by decide +kernel
theorem dX5_replay_87 : decode cX5_replay 87 = .ok (.getfield 30, 3) := by decide +kernel
theorem dX5_replay_90 : decode cX5_replay 90 = .ok (.iload_n 3, 1) := by decide +kernel
theorem dX5_replay_91 : decode cX5_replay 91 = .ok (.iconst 2, 1) := by decide +kernel
theorem dX5_replay_92 : decode cX5_replay 92 = .ok (.invokevirtual 194, 3) := by decide +kernel
theorem dX5_replay_95 : decode cX5_replay 95 = .ok (.invokevirtual 99, 3) := by decide +kernel
theorem dX5_replay_98 : decode cX5_replay 98 = .ok (.pop2, 1) := by decide +kernel
theorem dX5_replay_99 : decode cX5_replay 99 = .ok (.iinc 3 1, 3) := by decide +kernel
theorem dX5_replay_102 : decode cX5_replay 102 = .ok (.goto (-59), 3) := by decide +kernel
theorem dX5_replay_105 : decode cX5_replay 105 = .ok (.aload_n 0, 1) := by decide +kernel
theorem dX5_replay_106 : decode cX5_replay 106 = .ok (.getfield 30, 3) := by decide +kernel
theorem dX5_replay_109 : decode cX5_replay 109 = .ok (.getfield 191, 3) := by decide +kernel
theorem dX5_replay_112 : decode cX5_replay 112 = .ok (.ireturn, 1) := by decide +kernel
set_option maxRecDepth 20000 in
theorem ggX5_undo_X3_copyFrom : GoodIn wsX5_undo wsX3_copyFrom := goodIn_r _ [9, 10, 11, 12, 13, 14, 15, 16, 17, 18, 19, 20, 21, 22, 23, 24, 25, 26, 27, 28, 29, 30, 31, 32, 33, 34, 35, 36, 37, 38, 39, 40, 41, 42, 43, 44, 50, 51, 52, 53, 54, 55, 56, 57, 58, 59, 60, 61, 62, 63, 64, 65, 66, 67] (by decide +kernel) (by decide +kernel)
set_option maxRecDepth 20000 in
theorem gX5_undo_X3_copyFrom_n159 : GoodIn wsX5_undo (wsX3_copyFrom) := ggX5_undo_X3_copyFrom
theorem dX5_undo_0 : decode cX5_undo 0 = .ok (.aload_n 0, 1) := by decide +kernel
theorem dX5_undo_1 : decode cX5_undo 1 = .ok (.getfield 23, 3) := by decide +kernel
theorem dX5_undo_4 : decode cX5_undo 4 = .ok (.ifCond .gt 13, 3) := by decide +kernel
theorem dX5_undo_7 : decode cX5_undo 7 = .ok (.new 175, 3) := by decide +kernel
theorem dX5_undo_10 : decode cX5_undo 10 = .ok (.dup, 1) := by decide +kernel
theorem dX5_undo_11 : decode cX5_undo 11 = .ok (.ldc 197, 2) := by decide +kernel
theorem dX5_undo_13 : decode cX5_undo 13 = .ok (.invokespecial 179, 3) := by decide +kernel
theorem dX5_undo_16 : decode cX5_undo 16 = .ok (.athrow, 1) := by decide +kernel
theorem dX5_undo_17 : decode cX5_undo 17 = .ok (.aload_n 0, 1) := by decide +kernel
theorem dX5_undo_18 : decode cX5_undo 18 = .ok (.dup, 1) := by decide +kernel
theorem dX5_undo_19 : decode cX5_undo 19 = .ok (.getfield 23, 3) := by decide +kernel
theorem dX5_undo_22 : decode cX5_undo 22 = .ok (.iconst 1, 1) := by decide +kernel
theorem dX5_undo_23 : decode cX5_undo 23 = .ok (.isub, 1) := by decide +kernel
theorem dX5_undo_24 : decode cX5_undo 24 = .ok (.putfield 23, 3) := by decide +kernel
theorem dX5_undo_27 : decode cX5_undo 27 = .ok (.aload_n 0, 1) := by decide +kernel
theorem dX5_undo_28 : decode cX5_undo 28 = .ok (.getfield 12, 3) := by decide +kernel
theorem dX5_undo_31 : decode cX5_undo 31 = .ok (.aload_n 0, 1) := by decide +kernel
theorem dX5_undo_32 : decode cX5_undo 32 = .ok (.getfield 19, 3) := by decide +kernel
theorem dX5_undo_35 : decode cX5_undo 35 = .ok (.aload_n 0, 1) := by decide +kernel
theorem dX5_undo_36 : decode cX5_undo 36 = .ok (.getfield 23, 3) := by decide +kernel
theorem dX5_undo_39 : decode cX5_undo 39 = .ok (.aaload, 1) := by decide +kernel
theorem dX5_undo_40 : decode cX5_undo 40 = .ok (.invokevirtual 159, 3) := by decide +kernel
theorem dX5_undo_43 : decode cX5_undo 43 = .ok (.aload_n 0, 1) := by decide +kernel
theorem dX5_undo_44 : decode cX5_undo 44 = .ok (.getfield 23, 3) := by decide +kernel
theorem dX5_undo_47 : decode cX5_undo 47 = .ok (.ireturn, 1) := by decide +kernel
set_option maxRecDepth 20000 in
theorem ggX5_digest_X5_mixed : GoodIn wsX5_digest wsX5_mixed := goodIn_r _ [8, 9] (by decide +kernel) (by decide +kernel)
set_option maxRecDepth 20000 in
theorem gX5_digest_X5_mixed : GoodIn wsX5_digest (va_wsS RX5 201 yX5_mixed wsX5_mixed) := goodIn_app (goodIn_of _ (by decide +kernel)) ggX5_digest_X5_mixed
set_option maxRecDepth 20000 in
theorem ggX5_digest_X3_mixedSettings : GoodIn wsX5_digest wsX3_mixedSettings := goodIn_r _ [13, 14, 6, 7, 8, 9, 65, 66, 67] (by decide +kernel) (by decide +kernel)
set_option maxRecDepth 20000 in
theorem gX5_digest_X3_mixedSettings_n204 : GoodIn wsX5_digest (wsX3_mixedSettings) := ggX5_digest_X3_mixedSettings
set_option maxRecDepth 20000 in
theorem ggX5_digest_X0_mixedInto : GoodIn wsX5_digest wsX0_mixedInto := goodIn_r _ [18, 19, 20, 21, 22, 23, 6, 7, 8, 9, 68, 69, 70, 71, 72, 73, 74, 75] (by decide +kernel) (by decide +kernel)
set_option maxRecDepth 20000 in
theorem gX5_digest_X0_mixedInto_n208 : GoodIn wsX5_digest (wsX0_mixedInto) := ggX5_digest_X0_mixedInto
set_option maxRecDepth 20000 in
theorem ggX5_digest_X1_mixedInto : GoodIn wsX5_digest wsX1_mixedInto := goodIn_r _ [27, 28, 29, 30, 31, 6, 7, 8, 9, 76, 77, 78, 79] (by decide +kernel) (by decide +kernel)
set_option maxRecDepth 20000 in
theorem gX5_digest_X1_mixedInto_n211 : GoodIn wsX5_digest (wsX1_mixedInto) := ggX5_digest_X1_mixedInto
set_option maxRecDepth 20000 in
theorem ggX5_digest_X5_inWindow : GoodIn wsX5_digest wsX5_inWindow := goodIn_r _ [35, 3, 36, 37, 38, 39, 40, 41, 42, 43, 44, 55, 56, 57, 58, 59, 65, 66, 67, 68, 69, 70, 71, 72, 73, 74, 75, 80, 81, 82] (by decide +kernel) (by decide +kernel)
set_option maxRecDepth 20000 in
theorem gX5_digest_X5_inWindow : GoodIn wsX5_digest (wsV RX5 142 RX5 yX5_inWindow wsX5_inWindow) := goodIn_app (goodIn_of _ (by decide +kernel)) ggX5_digest_X5_inWindow
set_option maxRecDepth 20000 in
theorem ggX5_digest_X5_determinant : GoodIn wsX5_digest wsX5_determinant := goodIn_r _ [48, 3, 49, 37, 50, 51, 52, 53, 54, 36, 38, 39, 40, 41, 42, 43, 44, 55, 56, 57, 58, 59, 65, 66, 67, 68, 69, 70, 71, 72, 73, 74, 75, 80, 81, 82] (by decide +kernel) (by decide +kernel)
set_option maxRecDepth 20000 in
theorem gX5_digest_X5_determinant : GoodIn wsX5_digest (wsV RX5 146 RX5 yX5_determinant wsX5_determinant) := goodIn_app (goodIn_of _ (by decide +kernel)) ggX5_digest_X5_determinant
theorem dX5_digest_0 : decode cX5_digest 0 = .ok (.ldc2_w 199, 3) := by decide +kernel
theorem dX5_digest_3 : decode cX5_digest 3 = .ok (.aload_n 0, 1) := by decide +kernel
theorem dX5_digest_4 : decode cX5_digest 4 = .ok (.getfield 30, 3) := by decide +kernel
theorem dX5_digest_7 : decode cX5_digest 7 = .ok (.getfield 182, 3) := by decide +kernel
theorem dX5_digest_10 : decode cX5_digest 10 = .ok (.i2l, 1) := by decide +kernel
theorem dX5_digest_11 : decode cX5_digest 11 = .ok (.invokestatic 201, 3) := by decide +kernel
theorem dX5_digest_14 : decode cX5_digest 14 = .ok (.lstore_n 1, 1) := by decide +kernel
theorem dX5_digest_15 : decode cX5_digest 15 = .ok (.aload_n 0, 1) := by decide +kernel
theorem dX5_digest_16 : decode cX5_digest 16 = .ok (.getfield 12, 3) := by decide +kernel
theorem dX5_digest_19 : decode cX5_digest 19 = .ok (.lload_n 1, 1) := by decide +kernel
theorem dX5_digest_20 : decode cX5_digest 20 = .ok (.invokevirtual 204, 3) := by decide +kernel
theorem dX5_digest_23 : decode cX5_digest 23 = .ok (.lstore_n 1, 1) := by decide +kernel
theorem dX5_digest_24 : decode cX5_digest 24 = .ok (.aload_n 0, 1) := by decide +kernel
theorem dX5_digest_25 : decode cX5_digest 25 = .ok (.getfield 12, 3) := by decide +kernel
theorem dX5_digest_28 : decode cX5_digest 28 = .ok (.getfield 57, 3) := by decide +kernel
theorem dX5_digest_31 : decode cX5_digest 31 = .ok (.lload_n 1, 1) := by decide +kernel
theorem dX5_digest_32 : decode cX5_digest 32 = .ok (.invokevirtual 208, 3) := by decide +kernel
theorem dX5_digest_35 : decode cX5_digest 35 = .ok (.lstore_n 1, 1) := by decide +kernel
theorem dX5_digest_36 : decode cX5_digest 36 = .ok (.aload_n 0, 1) := by decide +kernel
theorem dX5_digest_37 : decode cX5_digest 37 = .ok (.getfield 12, 3) := by decide +kernel
theorem dX5_digest_40 : decode cX5_digest 40 = .ok (.getfield 76, 3) := by decide +kernel
theorem dX5_digest_43 : decode cX5_digest 43 = .ok (.lload_n 1, 1) := by decide +kernel
theorem dX5_digest_44 : decode cX5_digest 44 = .ok (.invokevirtual 211, 3) := by decide +kernel
theorem dX5_digest_47 : decode cX5_digest 47 = .ok (.lstore_n 1, 1) := by decide +kernel
theorem dX5_digest_48 : decode cX5_digest 48 = .ok (.lload_n 1, 1) := by decide +kernel
theorem dX5_digest_49 : decode cX5_digest 49 = .ok (.aload_n 0, 1) := by decide +kernel
theorem dX5_digest_50 : decode cX5_digest 50 = .ok (.invokevirtual 142, 3) := by decide +kernel
theorem dX5_digest_53 : decode cX5_digest 53 = .ok (.i2l, 1) := by decide +kernel
theorem dX5_digest_54 : decode cX5_digest 54 = .ok (.invokestatic 201, 3) := by decide +kernel
theorem dX5_digest_57 : decode cX5_digest 57 = .ok (.lstore_n 1, 1) := by decide +kernel
theorem dX5_digest_58 : decode cX5_digest 58 = .ok (.lload_n 1, 1) := by decide +kernel
theorem dX5_digest_59 : decode cX5_digest 59 = .ok (.aload_n 0, 1) := by decide +kernel
theorem dX5_digest_60 : decode cX5_digest 60 = .ok (.invokevirtual 146, 3) := by decide +kernel
theorem dX5_digest_63 : decode cX5_digest 63 = .ok (.invokestatic 201, 3) := by decide +kernel
theorem dX5_digest_66 : decode cX5_digest 66 = .ok (.lstore_n 1, 1) := by decide +kernel
theorem dX5_digest_67 : decode cX5_digest 67 = .ok (.lload_n 1, 1) := by decide +kernel
theorem dX5_digest_68 : decode cX5_digest 68 = .ok (.aload_n 0, 1) := by decide +kernel
theorem dX5_digest_69 : decode cX5_digest 69 = .ok (.getfield 23, 3) := by decide +kernel
theorem dX5_digest_72 : decode cX5_digest 72 = .ok (.i2l, 1) := by decide +kernel
theorem dX5_digest_73 : decode cX5_digest 73 = .ok (.invokestatic 201, 3) := by decide +kernel
theorem dX5_digest_76 : decode cX5_digest 76 = .ok (.lreturn, 1) := by decide +kernel
set_option maxRecDepth 20000 in
theorem ggX5_saveState_X5_dropOldestState : GoodIn wsX5_saveState wsX5_dropOldestState := goodIn_r _ [8, 2, 1, 48, 49, 50, 51, 52] (by decide +kernel) (by decide +kernel)
set_option maxRecDepth 20000 in
theorem gX5_saveState_X5_dropOldestState : GoodIn wsX5_saveState (wsV RX5 212 RX5 yX5_dropOldestState wsX5_dropOldestState) := goodIn_app (goodIn_of _ (by decide +kernel)) ggX5_saveState_X5_dropOldestState
set_option maxRecDepth 20000 in
theorem ggX5_saveState_X3_copyFrom : GoodIn wsX5_saveState wsX3_copyFrom := goodIn_r _ [12, 13, 14, 15, 16, 17, 18, 19, 20, 21, 22, 23, 24, 25, 26, 27, 28, 29, 30, 31, 32, 33, 34, 35, 36, 37, 38, 39, 40, 41, 42, 43, 44, 45, 46, 47, 53, 54, 55, 56, 57, 58, 59, 60, 61, 62, 63, 64, 65, 66, 67, 68, 69, 70] (by decide +kernel) (by decide +kernel)
set_option maxRecDepth 20000 in
theorem gX5_saveState_X3_copyFrom_n159 : GoodIn wsX5_saveState (wsX3_copyFrom) := ggX5_saveState_X3_copyFrom
theorem dX5_saveState_0 : decode cX5_saveState 0 = .ok (.aload_n 0, 1) := by decide +kernel
theorem dX5_saveState_1 : decode cX5_saveState 1 = .ok (.getfield 23, 3) := by decide +kernel
theorem dX5_saveState_4 : decode cX5_saveState 4 = .ok (.iconst 4, 1) := by decide +kernel
theorem dX5_saveState_5 : decode cX5_saveState 5 = .ok (.if_icmp .lt 7, 3) := by decide +kernel
theorem dX5_saveState_8 : decode cX5_saveState 8 = .ok (.aload_n 0, 1) := by decide +kernel
theorem dX5_saveState_9 : decode cX5_saveState 9 = .ok (.invokevirtual 212, 3) := by decide +kernel
theorem dX5_saveState_12 : decode cX5_saveState 12 = .ok (.aload_n 0, 1) := by decide +kernel
theorem dX5_saveState_13 : decode cX5_saveState 13 = .ok (.getfield 19, 3) := by decide +kernel
theorem dX5_saveState_16 : decode cX5_saveState 16 = .ok (.aload_n 0, 1) := by decide +kernel
theorem dX5_saveState_17 : decode cX5_saveState 17 = .ok (.getfield 23, 3) := by decide +kernel
theorem dX5_saveState_20 : decode cX5_saveState 20 = .ok (.aaload, 1) := by decide +kernel
theorem dX5_saveState_21 : decode cX5_saveState 21 = .ok (.aload_n 0, 1) := by decide +kernel
theorem dX5_saveState_22 : decode cX5_saveState 22 = .ok (.getfield 12, 3) := by decide +kernel
theorem dX5_saveState_25 : decode cX5_saveState 25 = .ok (.invokevirtual 159, 3) := by decide +kernel
theorem dX5_saveState_28 : decode cX5_saveState 28 = .ok (.aload_n 0, 1) := by decide +kernel
theorem dX5_saveState_29 : decode cX5_saveState 29 = .ok (.dup, 1) := by decide +kernel
theorem dX5_saveState_30 : decode cX5_saveState 30 = .ok (.getfield 23, 3) := by decide +kernel
theorem dX5_saveState_33 : decode cX5_saveState 33 = .ok (.iconst 1, 1) := by decide +kernel
theorem dX5_saveState_34 : decode cX5_saveState 34 = .ok (.iadd, 1) := by decide +kernel
theorem dX5_saveState_35 : decode cX5_saveState 35 = .ok (.putfield 23, 3) := by decide +kernel
theorem dX5_saveState_38 : decode cX5_saveState 38 = .ok (.return_, 1) := by decide +kernel
theorem dX5_dropOldestState_0 : decode cX5_dropOldestState 0 = .ok (.aload_n 0, 1) := by decide +kernel
theorem dX5_dropOldestState_1 : decode cX5_dropOldestState 1 = .ok (.getfield 19, 3) := by decide +kernel
theorem dX5_dropOldestState_4 : decode cX5_dropOldestState 4 = .ok (.iconst 0, 1) := by decide +kernel
theorem dX5_dropOldestState_5 : decode cX5_dropOldestState 5 = .ok (.aaload, 1) := by decide +kernel
theorem dX5_dropOldestState_6 : decode cX5_dropOldestState 6 = .ok (.astore_n 1, 1) := by decide +kernel
theorem dX5_dropOldestState_7 : decode cX5_dropOldestState 7 = .ok (.iconst 1, 1) := by decide +kernel
theorem dX5_dropOldestState_8 : decode cX5_dropOldestState 8 = .ok (.istore_n 2, 1) := by decide +kernel
theorem dX5_dropOldestState_9 : decode cX5_dropOldestState 9 = .ok (.iload_n 2, 1) := by decide +kernel
theorem dX5_dropOldestState_10 : decode cX5_dropOldestState 10 = .ok (.iconst 4, 1) := by decide +kernel
theorem dX5_dropOldestState_11 : decode cX5_dropOldestState 11 = .ok (.if_icmp .ge 23, 3) := by decide +kernel
theorem dX5_dropOldestState_14 : decode cX5_dropOldestState 14 = .ok (.aload_n 0, 1) := by decide +kernel
theorem dX5_dropOldestState_15 : decode cX5_dropOldestState 15 = .ok (.getfield 19, 3) := by decide +kernel
theorem dX5_dropOldestState_18 : decode cX5_dropOldestState 18 = .ok (.iload_n 2, 1) := by decide +kernel
theorem dX5_dropOldestState_19 : decode cX5_dropOldestState 19 = .ok (.iconst 1, 1) := by decide +kernel
theorem dX5_dropOldestState_20 : decode cX5_dropOldestState 20 = .ok (.isub, 1) := by decide +kernel
theorem dX5_dropOldestState_21 : decode cX5_dropOldestState 21 = .ok (.aload_n 0, 1) := by decide +kernel
theorem dX5_dropOldestState_22 : decode cX5_dropOldestState 22 = .ok (.getfield 19, 3) := by decide +kernel
theorem dX5_dropOldestState_25 : decode cX5_dropOldestState 25 = .ok (.iload_n 2, 1) := by decide +kernel
theorem dX5_dropOldestState_26 : decode cX5_dropOldestState 26 = .ok (.aaload, 1) := by decide +kernel
theorem dX5_dropOldestState_27 : decode cX5_dropOldestState 27 = .ok (.aastore, 1) := by decide +kernel
theorem dX5_dropOldestState_28 : decode cX5_dropOldestState 28 = .ok (.iinc 2 1, 3) := by decide +kernel
theorem dX5_dropOldestState_31 : decode cX5_dropOldestState 31 = .ok (.goto (-22), 3) := by decide +kernel
theorem dX5_dropOldestState_34 : decode cX5_dropOldestState 34 = .ok (.aload_n 0, 1) := by decide +kernel
theorem dX5_dropOldestState_35 : decode cX5_dropOldestState 35 = .ok (.getfield 19, 3) := by decide +kernel
theorem dX5_dropOldestState_38 : decode cX5_dropOldestState 38 = .ok (.iconst 3, 1) := by decide +kernel
theorem dX5_dropOldestState_39 : decode cX5_dropOldestState 39 = .ok (.aload_n 1, 1) := by decide +kernel
theorem dX5_dropOldestState_40 : decode cX5_dropOldestState 40 = .ok (.aastore, 1) := by decide +kernel
theorem dX5_dropOldestState_41 : decode cX5_dropOldestState 41 = .ok (.aload_n 0, 1) := by decide +kernel
theorem dX5_dropOldestState_42 : decode cX5_dropOldestState 42 = .ok (.iconst 3, 1) := by decide +kernel
theorem dX5_dropOldestState_43 : decode cX5_dropOldestState 43 = .ok (.putfield 23, 3) := by decide +kernel
theorem dX5_dropOldestState_46 : decode cX5_dropOldestState 46 = .ok (.return_, 1) := by decide +kernel
theorem dX5_demandParameter_0 : decode cX5_demandParameter 0 = .ok (.iload_n 0, 1) := by decide +kernel
theorem dX5_demandParameter_1 : decode cX5_demandParameter 1 = .ok (.ifCond .lt 8, 3) := by decide +kernel
theorem dX5_demandParameter_4 : decode cX5_demandParameter 4 = .ok (.iload_n 0, 1) := by decide +kernel
theorem dX5_demandParameter_5 : decode cX5_demandParameter 5 = .ok (.iconst 3, 1) := by decide +kernel
theorem dX5_demandParameter_6 : decode cX5_demandParameter 6 = .ok (.if_icmp .lt 13, 3) := by decide +kernel
theorem dX5_demandParameter_9 : decode cX5_demandParameter 9 = .ok (.new 215, 3) := by decide +kernel
theorem dX5_demandParameter_12 : decode cX5_demandParameter 12 = .ok (.dup, 1) := by decide +kernel
theorem dX5_demandParameter_13 : decode cX5_demandParameter 13 = .ok (.ldc 217, 2) := by decide +kernel
theorem dX5_demandParameter_15 : decode cX5_demandParameter 15 = .ok (.invokespecial 219, 3) := by decide +kernel
theorem dX5_demandParameter_18 : decode cX5_demandParameter 18 = .ok (.athrow, 1) := by decide +kernel
theorem dX5_demandParameter_19 : decode cX5_demandParameter 19 = .ok (.return_, 1) := by decide +kernel
set_option maxRecDepth 20000 in
theorem ggX5_demandSignal_X5_demandRange : GoodIn wsX5_demandSignal wsX5_demandRange := goodIn_ca (goodIn_r _ [4, 5, 6, 7, 8, 3, 9] (by decide +kernel) (by decide +kernel)) (goodIn_sub (fun _ h => List.mem_cons_of_mem _ (List.mem_append_right _ h)) (by decide +kernel))
set_option maxRecDepth 20000 in
theorem gX5_demandSignal_X5_demandRange : GoodIn wsX5_demandSignal (va_wsS RX5 34 yX5_demandRange wsX5_demandRange) := goodIn_app (goodIn_of _ (by decide +kernel)) ggX5_demandSignal_X5_demandRange
theorem dX5_demandSignal_0 : decode cX5_demandSignal 0 = .ok (.iload_n 0, 1) := by decide +kernel
theorem dX5_demandSignal_1 : decode cX5_demandSignal 1 = .ok (.sipush (-2000), 3) := by decide +kernel
theorem dX5_demandSignal_4 : decode cX5_demandSignal 4 = .ok (.sipush 2000, 3) := by decide +kernel
theorem dX5_demandSignal_7 : decode cX5_demandSignal 7 = .ok (.invokestatic 34, 3) := by decide +kernel
theorem dX5_demandSignal_10 : decode cX5_demandSignal 10 = .ok (.return_, 1) := by decide +kernel
set_option maxRecDepth 20000 in
theorem ggX5_demandRange_X5_isWithin : GoodIn wsX5_demandRange wsX5_isWithin := goodIn_r _ [6] (by decide +kernel) (by decide +kernel)
set_option maxRecDepth 20000 in
theorem gX5_demandRange_X5_isWithin : GoodIn wsX5_demandRange (va_wsS RX5 220 yX5_isWithin wsX5_isWithin) := goodIn_app (goodIn_of _ (by decide +kernel)) ggX5_demandRange_X5_isWithin
theorem dX5_demandRange_0 : decode cX5_demandRange 0 = .ok (.iload_n 0, 1) := by decide +kernel
theorem dX5_demandRange_1 : decode cX5_demandRange 1 = .ok (.iload_n 1, 1) := by decide +kernel
theorem dX5_demandRange_2 : decode cX5_demandRange 2 = .ok (.iload_n 2, 1) := by decide +kernel
theorem dX5_demandRange_3 : decode cX5_demandRange 3 = .ok (.invokestatic 220, 3) := by decide +kernel
theorem dX5_demandRange_6 : decode cX5_demandRange 6 = .ok (.ifCond .ne 13, 3) := by decide +kernel
theorem dX5_demandRange_9 : decode cX5_demandRange 9 = .ok (.new 224, 3) := by decide +kernel
theorem dX5_demandRange_12 : decode cX5_demandRange 12 = .ok (.dup, 1) := by decide +kernel
theorem dX5_demandRange_13 : decode cX5_demandRange 13 = .ok (.ldc 226, 2) := by decide +kernel
theorem dX5_demandRange_15 : decode cX5_demandRange 15 = .ok (.invokespecial 228, 3) := by decide +kernel
theorem dX5_demandRange_18 : decode cX5_demandRange 18 = .ok (.athrow, 1) := by decide +kernel
theorem dX5_demandRange_19 : decode cX5_demandRange 19 = .ok (.return_, 1) := by decide +kernel
theorem dX5_isWithin_0 : decode cX5_isWithin 0 = .ok (.iload_n 0, 1) := by decide +kernel
theorem dX5_isWithin_1 : decode cX5_isWithin 1 = .ok (.iload_n 1, 1) := by decide +kernel
theorem dX5_isWithin_2 : decode cX5_isWithin 2 = .ok (.if_icmp .lt 12, 3) := by decide +kernel
theorem dX5_isWithin_5 : decode cX5_isWithin 5 = .ok (.iload_n 0, 1) := by decide +kernel
theorem dX5_isWithin_6 : decode cX5_isWithin 6 = .ok (.iload_n 2, 1) := by decide +kernel
theorem dX5_isWithin_7 : decode cX5_isWithin 7 = .ok (.if_icmp .gt 7, 3) := by decide +kernel
theorem dX5_isWithin_10 : decode cX5_isWithin 10 = .ok (.iconst 1, 1) := by decide +kernel
theorem dX5_isWithin_11 : decode cX5_isWithin 11 = .ok (.goto 4, 3) := by decide +kernel
theorem dX5_isWithin_14 : decode cX5_isWithin 14 = .ok (.iconst 0, 1) := by decide +kernel
theorem dX5_isWithin_15 : decode cX5_isWithin 15 = .ok (.ireturn, 1) := by decide +kernel
theorem dX5_bring_0 : decode cX5_bring 0 = .ok (.lload_n 0, 1) := by decide +kernel
theorem dX5_bring_1 : decode cX5_bring 1 = .ok (.lload_n 2, 1) := by decide +kernel
theorem dX5_bring_2 : decode cX5_bring 2 = .ok (.lcmp, 1) := by decide +kernel
theorem dX5_bring_3 : decode cX5_bring 3 = .ok (.ifCond .ge 7, 3) := by decide +kernel
theorem dX5_bring_6 : decode cX5_bring 6 = .ok (.lload_n 2, 1) := by decide +kernel
theorem dX5_bring_7 : decode cX5_bring 7 = .ok (.goto 16, 3) := by decide +kernel
theorem dX5_bring_10 : decode cX5_bring 10 = .ok (.lload_n 0, 1) := by decide +kernel
theorem dX5_bring_11 : decode cX5_bring 11 = .ok (.lload 4, 2) := by decide +kernel
theorem dX5_bring_13 : decode cX5_bring 13 = .ok (.lcmp, 1) := by decide +kernel
theorem dX5_bring_14 : decode cX5_bring 14 = .ok (.ifCond .le 8, 3) := by decide +kernel
theorem dX5_bring_17 : decode cX5_bring 17 = .ok (.lload 4, 2) := by decide +kernel
theorem dX5_bring_19 : decode cX5_bring 19 = .ok (.goto 4, 3) := by decide +kernel
theorem dX5_bring_22 : decode cX5_bring 22 = .ok (.lload_n 0, 1) := by decide +kernel
theorem dX5_bring_23 : decode cX5_bring 23 = .ok (.lreturn, 1) := by decide +kernel
set_option maxRecDepth 20000 in
theorem ggX5_divideDown_J9_floorDiv_f86c9 : GoodIn wsX5_divideDown wsJ9_floorDiv_f86c9 := goodIn_r _ [4] (by decide +kernel) (by decide +kernel)
set_option maxRecDepth 20000 in
theorem gX5_divideDown_J9_floorDiv_f86c9 : GoodIn wsX5_divideDown (va_wsS RX5 229 yJ9_floorDiv_f86c9 wsJ9_floorDiv_f86c9) := goodIn_app (goodIn_of _ (by decide +kernel)) ggX5_divideDown_J9_floorDiv_f86c9
theorem dX5_divideDown_0 : decode cX5_divideDown 0 = .ok (.lload_n 2, 1) := by decide +kernel
theorem dX5_divideDown_1 : decode cX5_divideDown 1 = .ok (.lconst 0, 1) := by decide +kernel
theorem dX5_divideDown_2 : decode cX5_divideDown 2 = .ok (.lcmp, 1) := by decide +kernel
theorem dX5_divideDown_3 : decode cX5_divideDown 3 = .ok (.ifCond .le 11, 3) := by decide +kernel
theorem dX5_divideDown_6 : decode cX5_divideDown 6 = .ok (.lload_n 0, 1) := by decide +kernel
theorem dX5_divideDown_7 : decode cX5_divideDown 7 = .ok (.lload_n 2, 1) := by decide +kernel
theorem dX5_divideDown_8 : decode cX5_divideDown 8 = .ok (.invokestatic 229, 3) := by decide +kernel
theorem dX5_divideDown_11 : decode cX5_divideDown 11 = .ok (.goto 4, 3) := by decide +kernel
theorem dX5_divideDown_14 : decode cX5_divideDown 14 = .ok (.lconst 0, 1) := by decide +kernel
theorem dX5_divideDown_15 : decode cX5_divideDown 15 = .ok (.lreturn, 1) := by decide +kernel
theorem dX5_mixed_0 : decode cX5_mixed 0 = .ok (.ldc2_w 232, 3) := by decide +kernel
theorem dX5_mixed_3 : decode cX5_mixed 3 = .ok (.lload_n 0, 1) := by decide +kernel
theorem dX5_mixed_4 : decode cX5_mixed 4 = .ok (.lmul, 1) := by decide +kernel
theorem dX5_mixed_5 : decode cX5_mixed 5 = .ok (.lload_n 2, 1) := by decide +kernel
theorem dX5_mixed_6 : decode cX5_mixed 6 = .ok (.ladd, 1) := by decide +kernel
theorem dX5_mixed_7 : decode cX5_mixed 7 = .ok (.lreturn, 1) := by decide +kernel
set_option maxRecDepth 20000 in
theorem ggX6_init_X6_begins : GoodIn wsX6_init wsX6_begins := goodIn_r _ [26, 5, 27, 28, 29, 30, 25, 31, 32, 33, 34, 35, 36, 37, 38, 39, 40, 41, 42, 43, 44, 45, 46, 47, 48, 49, 50, 51, 52] (by decide +kernel) (by decide +kernel)
set_option maxRecDepth 20000 in
theorem gX6_init_X6_begins : GoodIn wsX6_init (wsV RX6 51 RX6 yX6_begins wsX6_begins) := goodIn_app (goodIn_of _ (by decide +kernel)) ggX6_init_X6_begins
theorem dX6_init_0 : decode cX6_init 0 = .ok (.aload_n 0, 1) := by decide +kernel
theorem dX6_init_1 : decode cX6_init 1 = .ok (.invokespecial 1, 3) := by decide +kernel
theorem dX6_init_4 : decode cX6_init 4 = .ok (.aload_n 0, 1) := by decide +kernel
theorem dX6_init_5 : decode cX6_init 5 = .ok (.bipush 76, 2) := by decide +kernel
theorem dX6_init_7 : decode cX6_init 7 = .ok (.newarray .long, 2) := by decide +kernel
theorem dX6_init_9 : decode cX6_init 9 = .ok (.putfield 7, 3) := by decide +kernel
theorem dX6_init_12 : decode cX6_init 12 = .ok (.aload_n 0, 1) := by decide +kernel
theorem dX6_init_13 : decode cX6_init 13 = .ok (.sipush 304, 3) := by decide +kernel
theorem dX6_init_16 : decode cX6_init 16 = .ok (.newarray .long, 2) := by decide +kernel
theorem dX6_init_18 : decode cX6_init 18 = .ok (.putfield 13, 3) := by decide +kernel
theorem dX6_init_21 : decode cX6_init 21 = .ok (.aload_n 0, 1) := by decide +kernel
theorem dX6_init_22 : decode cX6_init 22 = .ok (.bipush 76, 2) := by decide +kernel
theorem dX6_init_24 : decode cX6_init 24 = .ok (.newarray .long, 2) := by decide +kernel
theorem dX6_init_26 : decode cX6_init 26 = .ok (.putfield 16, 3) := by decide +kernel
theorem dX6_init_29 : decode cX6_init 29 = .ok (.aload_n 0, 1) := by decide +kernel
theorem dX6_init_30 : decode cX6_init 30 = .ok (.iconst 3, 1) := by decide +kernel
theorem dX6_init_31 : decode cX6_init 31 = .ok (.newarray .long, 2) := by decide +kernel
theorem dX6_init_33 : decode cX6_init 33 = .ok (.putfield 19, 3) := by decide +kernel
theorem dX6_init_36 : decode cX6_init 36 = .ok (.aload_n 0, 1) := by decide +kernel
theorem dX6_init_37 : decode cX6_init 37 = .ok (.iconst 3, 1) := by decide +kernel
theorem dX6_init_38 : decode cX6_init 38 = .ok (.newarray .long, 2) := by decide +kernel
theorem dX6_init_40 : decode cX6_init 40 = .ok (.putfield 22, 3) := by decide +kernel
theorem dX6_init_43 : decode cX6_init 43 = .ok (.aload_n 0, 1) := by decide +kernel
theorem dX6_init_44 : decode cX6_init 44 = .ok (.iconst 3, 1) := by decide +kernel
theorem dX6_init_45 : decode cX6_init 45 = .ok (.newarray .long, 2) := by decide +kernel
theorem dX6_init_47 : decode cX6_init 47 = .ok (.putfield 25, 3) := by decide +kernel
theorem dX6_init_50 : decode cX6_init 50 = .ok (.aload_n 0, 1) := by decide +kernel
theorem dX6_init_51 : decode cX6_init 51 = .ok (.bipush 120, 2) := by decide +kernel
theorem dX6_init_53 : decode cX6_init 53 = .ok (.newarray .int, 2) := by decide +kernel
theorem dX6_init_55 : decode cX6_init 55 = .ok (.putfield 28, 3) := by decide +kernel
theorem dX6_init_58 : decode cX6_init 58 = .ok (.aload_n 0, 1) := by decide +kernel
theorem dX6_init_59 : decode cX6_init 59 = .ok (.bipush 63, 2) := by decide +kernel
theorem dX6_init_61 : decode cX6_init 61 = .ok (.newarray .int, 2) := by decide +kernel
theorem dX6_init_63 : decode cX6_init 63 = .ok (.putfield 32, 3) := by decide +kernel
theorem dX6_init_66 : decode cX6_init 66 = .ok (.aload_n 0, 1) := by decide +kernel
theorem dX6_init_67 : decode cX6_init 67 = .ok (.getfield 7, 3) := by decide +kernel
theorem dX6_init_70 : decode cX6_init 70 = .ok (.iconst 0, 1) := by decide +kernel
theorem dX6_init_71 : decode cX6_init 71 = .ok (.ldc2_w 35, 3) := by decide +kernel
theorem dX6_init_74 : decode cX6_init 74 = .ok (.lastore, 1) := by decide +kernel
theorem dX6_init_75 : decode cX6_init 75 = .ok (.aload_n 0, 1) := by decide +kernel
theorem dX6_init_76 : decode cX6_init 76 = .ok (.getfield 7, 3) := by decide +kernel
theorem dX6_init_79 : decode cX6_init 79 = .ok (.iconst 1, 1) := by decide +kernel
theorem dX6_init_80 : decode cX6_init 80 = .ok (.ldc2_w 37, 3) := by decide +kernel
theorem dX6_init_83 : decode cX6_init 83 = .ok (.lastore, 1) := by decide +kernel
theorem dX6_init_84 : decode cX6_init 84 = .ok (.aload_n 0, 1) := by decide +kernel
theorem dX6_init_85 : decode cX6_init 85 = .ok (.getfield 7, 3) := by decide +kernel
theorem dX6_init_88 : decode cX6_init 88 = .ok (.iconst 2, 1) := by decide +kernel
theorem dX6_init_89 : decode cX6_init 89 = .ok (.lconst 1, 1) := by decide +kernel
theorem dX6_init_90 : decode cX6_init 90 = .ok (.lastore, 1) := by decide +kernel
theorem dX6_init_91 : decode cX6_init 91 = .ok (.aload_n 0, 1) := by decide +kernel
theorem dX6_init_92 : decode cX6_init 92 = .ok (.getfield 7, 3) := by decide +kernel
theorem dX6_init_95 : decode cX6_init 95 = .ok (.iconst 3, 1) := by decide +kernel
theorem dX6_init_96 : decode cX6_init 96 = .ok (.ldc2_w 39, 3) := by decide +kernel
theorem dX6_init_99 : decode cX6_init 99 = .ok (.lastore, 1) := by decide +kernel
theorem dX6_init_100 : decode cX6_init 100 = .ok (.aload_n 0, 1) := by decide +kernel
theorem dX6_init_101 : decode cX6_init 101 = .ok (.getfield 7, 3) := by decide +kernel
theorem dX6_init_104 : decode cX6_init 104 = .ok (.iconst 4, 1) := by decide +kernel
theorem dX6_init_105 : decode cX6_init 105 = .ok (.ldc2_w 41, 3) := by decide +kernel
theorem dX6_init_108 : decode cX6_init 108 = .ok (.lastore, 1) := by decide +kernel
theorem dX6_init_109 : decode cX6_init 109 = .ok (.aload_n 0, 1) := by decide +kernel
theorem dX6_init_110 : decode cX6_init 110 = .ok (.getfield 7, 3) := by decide +kernel
theorem dX6_init_113 : decode cX6_init 113 = .ok (.bipush 6, 2) := by decide +kernel
theorem dX6_init_115 : decode cX6_init 115 = .ok (.ldc2_w 43, 3) := by decide +kernel
theorem dX6_init_118 : decode cX6_init 118 = .ok (.lastore, 1) := by decide +kernel
theorem dX6_init_119 : decode cX6_init 119 = .ok (.iconst 0, 1) := by decide +kernel
theorem dX6_init_120 : decode cX6_init 120 = .ok (.istore_n 1, 1) := by decide +kernel
theorem dX6_init_121 : decode cX6_init 121 = .ok (.iload_n 1, 1) := by decide +kernel
theorem dX6_init_122 : decode cX6_init 122 = .ok (.iconst 3, 1) := by decide +kernel
theorem dX6_init_123 : decode cX6_init 123 = .ok (.if_icmp .ge 39, 3) := by decide +kernel
theorem dX6_init_126 : decode cX6_init 126 = .ok (.aload_n 0, 1) := by decide +kernel
theorem dX6_init_127 : decode cX6_init 127 = .ok (.getfield 7, 3) := by decide +kernel
theorem dX6_init_130 : decode cX6_init 130 = .ok (.bipush 7, 2) := by decide +kernel
theorem dX6_init_132 : decode cX6_init 132 = .ok (.iconst 2, 1) := by decide +kernel
theorem dX6_init_133 : decode cX6_init 133 = .ok (.iload_n 1, 1) := by decide +kernel
theorem dX6_init_134 : decode cX6_init 134 = .ok (.imul, 1) := by decide +kernel
theorem dX6_init_135 : decode cX6_init 135 = .ok (.iadd, 1) := by decide +kernel
theorem dX6_init_136 : decode cX6_init 136 = .ok (.ldc2_w 45, 3) := by decide +kernel
theorem dX6_init_139 : decode cX6_init 139 = .ok (.lastore, 1) := by decide +kernel
theorem dX6_init_140 : decode cX6_init 140 = .ok (.aload_n 0, 1) := by decide +kernel
theorem dX6_init_141 : decode cX6_init 141 = .ok (.getfield 7, 3) := by decide +kernel
theorem dX6_init_144 : decode cX6_init 144 = .ok (.bipush 7, 2) := by decide +kernel
theorem dX6_init_146 : decode cX6_init 146 = .ok (.iconst 2, 1) := by decide +kernel
theorem dX6_init_147 : decode cX6_init 147 = .ok (.iload_n 1, 1) := by decide +kernel
theorem dX6_init_148 : decode cX6_init 148 = .ok (.imul, 1) := by decide +kernel
theorem dX6_init_149 : decode cX6_init 149 = .ok (.iadd, 1) := by decide +kernel
theorem dX6_init_150 : decode cX6_init 150 = .ok (.iconst 1, 1) := by decide +kernel
theorem dX6_init_151 : decode cX6_init 151 = .ok (.iadd, 1) := by decide +kernel
theorem dX6_init_152 : decode cX6_init 152 = .ok (.ldc2_w 47, 3) := by decide +kernel
theorem dX6_init_155 : decode cX6_init 155 = .ok (.lastore, 1) := by decide +kernel
theorem dX6_init_156 : decode cX6_init 156 = .ok (.iinc 1 1, 3) := by decide +kernel
theorem dX6_init_159 : decode cX6_init 159 = .ok (.goto (-38), 3) := by decide +kernel
theorem dX6_init_162 : decode cX6_init 162 = .ok (.aload_n 0, 1) := by decide +kernel
theorem dX6_init_163 : decode cX6_init 163 = .ok (.getfield 7, 3) := by decide +kernel
theorem dX6_init_166 : decode cX6_init 166 = .ok (.bipush 30, 2) := by decide +kernel
theorem dX6_init_168 : decode cX6_init 168 = .ok (.ldc2_w 49, 3) := by decide +kernel
theorem dX6_init_171 : decode cX6_init 171 = .ok (.lastore, 1) := by decide +kernel
theorem dX6_init_172 : decode cX6_init 172 = .ok (.aload_n 0, 1) := by decide +kernel
theorem dX6_init_173 : decode cX6_init 173 = .ok (.getfield 7, 3) := by decide +kernel
theorem dX6_init_176 : decode cX6_init 176 = .ok (.bipush 31, 2) := by decide +kernel
theorem dX6_init_178 : decode cX6_init 178 = .ok (.ldc2_w 41, 3) := by decide +kernel
theorem dX6_init_181 : decode cX6_init 181 = .ok (.lastore, 1) := by decide +kernel
theorem dX6_init_182 : decode cX6_init 182 = .ok (.aload_n 0, 1) := by decide +kernel
theorem dX6_init_183 : decode cX6_init 183 = .ok (.getfield 7, 3) := by decide +kernel
theorem dX6_init_186 : decode cX6_init 186 = .ok (.bipush 34, 2) := by decide +kernel
theorem dX6_init_188 : decode cX6_init 188 = .ok (.lconst 1, 1) := by decide +kernel
theorem dX6_init_189 : decode cX6_init 189 = .ok (.lastore, 1) := by decide +kernel
theorem dX6_init_190 : decode cX6_init 190 = .ok (.aload_n 0, 1) := by decide +kernel
theorem dX6_init_191 : decode cX6_init 191 = .ok (.invokevirtual 51, 3) := by decide +kernel
theorem dX6_init_194 : decode cX6_init 194 = .ok (.return_, 1) := by decide +kernel
theorem dX6_thrown_0 : decode cX6_thrown 0 = .ok (.aload_n 0, 1) := by decide +kernel
theorem dX6_thrown_1 : decode cX6_thrown 1 = .ok (.getfield 54, 3) := by decide +kernel
theorem dX6_thrown_4 : decode cX6_thrown 4 = .ok (.ireturn, 1) := by decide +kernel
theorem dX6_in_0 : decode cX6_in 0 = .ok (.lload_n 0, 1) := by decide +kernel
theorem dX6_in_1 : decode cX6_in 1 = .ok (.lload_n 2, 1) := by decide +kernel
theorem dX6_in_2 : decode cX6_in 2 = .ok (.lcmp, 1) := by decide +kernel
theorem dX6_in_3 : decode cX6_in 3 = .ok (.ifCond .lt 14, 3) := by decide +kernel
theorem dX6_in_6 : decode cX6_in 6 = .ok (.lload_n 0, 1) := by decide +kernel
theorem dX6_in_7 : decode cX6_in 7 = .ok (.lload 4, 2) := by decide +kernel
theorem dX6_in_9 : decode cX6_in 9 = .ok (.lcmp, 1) := by decide +kernel
theorem dX6_in_10 : decode cX6_in 10 = .ok (.ifCond .gt 7, 3) := by decide +kernel
theorem dX6_in_13 : decode cX6_in 13 = .ok (.iconst 1, 1) := by decide +kernel
theorem dX6_in_14 : decode cX6_in 14 = .ok (.goto 4, 3) := by decide +kernel
theorem dX6_in_17 : decode cX6_in 17 = .ok (.iconst 0, 1) := by decide +kernel
theorem dX6_in_18 : decode cX6_in 18 = .ok (.ireturn, 1) := by decide +kernel
theorem dX6_goes_0 : decode cX6_goes 0 = .ok (.aload_n 0, 1) := by decide +kernel
theorem dX6_goes_1 : decode cX6_goes 1 = .ok (.iload_n 1, 1) := by decide +kernel
theorem dX6_goes_2 : decode cX6_goes 2 = .ok (.ifCond .ne 7, 3) := by decide +kernel
theorem dX6_goes_5 : decode cX6_goes 5 = .ok (.iconst 1, 1) := by decide +kernel
theorem dX6_goes_6 : decode cX6_goes 6 = .ok (.goto 12, 3) := by decide +kernel
theorem dX6_goes_9 : decode cX6_goes 9 = .ok (.iload_n 2, 1) := by decide +kernel
theorem dX6_goes_10 : decode cX6_goes 10 = .ok (.ifCond .ne 7, 3) := by decide +kernel
theorem dX6_goes_13 : decode cX6_goes 13 = .ok (.iconst 2, 1) := by decide +kernel
theorem dX6_goes_14 : decode cX6_goes 14 = .ok (.goto 4, 3) := by decide +kernel
theorem dX6_goes_17 : decode cX6_goes 17 = .ok (.iconst 0, 1) := by decide +kernel
theorem dX6_goes_18 : decode cX6_goes 18 = .ok (.putfield 54, 3) := by decide +kernel
theorem dX6_goes_21 : decode cX6_goes 21 = .ok (.aload_n 0, 1) := by decide +kernel
theorem dX6_goes_22 : decode cX6_goes 22 = .ok (.getfield 54, 3) := by decide +kernel
theorem dX6_goes_25 : decode cX6_goes 25 = .ok (.ifCond .ne 7, 3) := by decide +kernel
theorem dX6_goes_28 : decode cX6_goes 28 = .ok (.iconst 1, 1) := by decide +kernel
theorem dX6_goes_29 : decode cX6_goes 29 = .ok (.goto 4, 3) := by decide +kernel
theorem dX6_goes_32 : decode cX6_goes 32 = .ok (.iconst 0, 1) := by decide +kernel
theorem dX6_goes_33 : decode cX6_goes 33 = .ok (.ireturn, 1) := by decide +kernel
theorem dX6_save_0 : decode cX6_save 0 = .ok (.aload_n 0, 1) := by decide +kernel
theorem dX6_save_1 : decode cX6_save 1 = .ok (.getfield 58, 3) := by decide +kernel
theorem dX6_save_4 : decode cX6_save 4 = .ok (.iconst 4, 1) := by decide +kernel
theorem dX6_save_5 : decode cX6_save 5 = .ok (.if_icmp .ne 43, 3) := by decide +kernel
theorem dX6_save_8 : decode cX6_save 8 = .ok (.iconst 0, 1) := by decide +kernel
theorem dX6_save_9 : decode cX6_save 9 = .ok (.istore_n 1, 1) := by decide +kernel
theorem dX6_save_10 : decode cX6_save 10 = .ok (.iload_n 1, 1) := by decide +kernel
theorem dX6_save_11 : decode cX6_save 11 = .ok (.sipush 228, 3) := by decide +kernel
theorem dX6_save_14 : decode cX6_save 14 = .ok (.if_icmp .ge 24, 3) := by decide +kernel
theorem dX6_save_17 : decode cX6_save 17 = .ok (.aload_n 0, 1) := by decide +kernel
theorem dX6_save_18 : decode cX6_save 18 = .ok (.getfield 13, 3) := by decide +kernel
theorem dX6_save_21 : decode cX6_save 21 = .ok (.iload_n 1, 1) := by decide +kernel
theorem dX6_save_22 : decode cX6_save 22 = .ok (.aload_n 0, 1) := by decide +kernel
theorem dX6_save_23 : decode cX6_save 23 = .ok (.getfield 13, 3) := by decide +kernel
theorem dX6_save_26 : decode cX6_save 26 = .ok (.iload_n 1, 1) := by decide +kernel
theorem dX6_save_27 : decode cX6_save 27 = .ok (.bipush 76, 2) := by decide +kernel
theorem dX6_save_29 : decode cX6_save 29 = .ok (.iadd, 1) := by decide +kernel
theorem dX6_save_30 : decode cX6_save 30 = .ok (.laload, 1) := by decide +kernel
theorem dX6_save_31 : decode cX6_save 31 = .ok (.lastore, 1) := by decide +kernel
theorem dX6_save_32 : decode cX6_save 32 = .ok (.iinc 1 1, 3) := by decide +kernel
theorem dX6_save_35 : decode cX6_save 35 = .ok (.goto (-25), 3) := by decide +kernel
theorem dX6_save_38 : decode cX6_save 38 = .ok (.aload_n 0, 1) := by decide +kernel
theorem dX6_save_39 : decode cX6_save 39 = .ok (.dup, 1) := by decide +kernel
theorem dX6_save_40 : decode cX6_save 40 = .ok (.getfield 58, 3) := by decide +kernel
theorem dX6_save_43 : decode cX6_save 43 = .ok (.iconst 1, 1) := by decide +kernel
theorem dX6_save_44 : decode cX6_save 44 = .ok (.isub, 1) := by decide +kernel
theorem dX6_save_45 : decode cX6_save 45 = .ok (.putfield 58, 3) := by decide +kernel
theorem dX6_save_48 : decode cX6_save 48 = .ok (.iconst 0, 1) := by decide +kernel
theorem dX6_save_49 : decode cX6_save 49 = .ok (.istore_n 1, 1) := by decide +kernel
theorem dX6_save_50 : decode cX6_save 50 = .ok (.iload_n 1, 1) := by decide +kernel
theorem dX6_save_51 : decode cX6_save 51 = .ok (.bipush 76, 2) := by decide +kernel
theorem dX6_save_53 : decode cX6_save 53 = .ok (.if_icmp .ge 29, 3) := by decide +kernel
theorem dX6_save_56 : decode cX6_save 56 = .ok (.aload_n 0, 1) := by decide +kernel
theorem dX6_save_57 : decode cX6_save 57 = .ok (.getfield 13, 3) := by decide +kernel
theorem dX6_save_60 : decode cX6_save 60 = .ok (.bipush 76, 2) := by decide +kernel
theorem dX6_save_62 : decode cX6_save 62 = .ok (.aload_n 0, 1) := by decide +kernel
theorem dX6_save_63 : decode cX6_save 63 = .ok (.getfield 58, 3) := by decide +kernel
theorem dX6_save_66 : decode cX6_save 66 = .ok (.imul, 1) := by decide +kernel
theorem dX6_save_67 : decode cX6_save 67 = .ok (.iload_n 1, 1) := by decide +kernel
theorem dX6_save_68 : decode cX6_save 68 = .ok (.iadd, 1) := by decide +kernel
theorem dX6_save_69 : decode cX6_save 69 = .ok (.aload_n 0, 1) := by decide +kernel
theorem dX6_save_70 : decode cX6_save 70 = .ok (.getfield 7, 3) := by decide +kernel
theorem dX6_save_73 : decode cX6_save 73 = .ok (.iload_n 1, 1) := by decide +kernel
theorem dX6_save_74 : decode cX6_save 74 = .ok (.laload, 1) := by decide +kernel
theorem dX6_save_75 : decode cX6_save 75 = .ok (.lastore, 1) := by decide +kernel
theorem dX6_save_76 : decode cX6_save 76 = .ok (.iinc 1 1, 3) := by decide +kernel
theorem dX6_save_79 : decode cX6_save 79 = .ok (.goto (-29), 3) := by decide +kernel
theorem dX6_save_82 : decode cX6_save 82 = .ok (.aload_n 0, 1) := by decide +kernel
theorem dX6_save_83 : decode cX6_save 83 = .ok (.dup, 1) := by decide +kernel
theorem dX6_save_84 : decode cX6_save 84 = .ok (.getfield 58, 3) := by decide +kernel
theorem dX6_save_87 : decode cX6_save 87 = .ok (.iconst 1, 1) := by decide +kernel
theorem dX6_save_88 : decode cX6_save 88 = .ok (.iadd, 1) := by decide +kernel
theorem dX6_save_89 : decode cX6_save 89 = .ok (.putfield 58, 3) := by decide +kernel
theorem dX6_save_92 : decode cX6_save 92 = .ok (.return_, 1) := by decide +kernel
theorem dX6_lays_0 : decode cX6_lays 0 = .ok (.iconst 0, 1) := by decide +kernel
theorem dX6_lays_1 : decode cX6_lays 1 = .ok (.istore_n 1, 1) := by decide +kernel
theorem dX6_lays_2 : decode cX6_lays 2 = .ok (.iload_n 1, 1) := by decide +kernel
theorem dX6_lays_3 : decode cX6_lays 3 = .ok (.bipush 76, 2) := by decide +kernel
theorem dX6_lays_5 : decode cX6_lays 5 = .ok (.if_icmp .ge 21, 3) := by decide +kernel
theorem dX6_lays_8 : decode cX6_lays 8 = .ok (.aload_n 0, 1) := by decide +kernel
theorem dX6_lays_9 : decode cX6_lays 9 = .ok (.getfield 16, 3) := by decide +kernel
theorem dX6_lays_12 : decode cX6_lays 12 = .ok (.iload_n 1, 1) := by decide +kernel
theorem dX6_lays_13 : decode cX6_lays 13 = .ok (.aload_n 0, 1) := by decide +kernel
theorem dX6_lays_14 : decode cX6_lays 14 = .ok (.getfield 7, 3) := by decide +kernel
theorem dX6_lays_17 : decode cX6_lays 17 = .ok (.iload_n 1, 1) := by decide +kernel
theorem dX6_lays_18 : decode cX6_lays 18 = .ok (.laload, 1) := by decide +kernel
theorem dX6_lays_19 : decode cX6_lays 19 = .ok (.lastore, 1) := by decide +kernel
theorem dX6_lays_20 : decode cX6_lays 20 = .ok (.iinc 1 1, 3) := by decide +kernel
theorem dX6_lays_23 : decode cX6_lays 23 = .ok (.goto (-21), 3) := by decide +kernel
theorem dX6_lays_26 : decode cX6_lays 26 = .ok (.return_, 1) := by decide +kernel
theorem dX6_takesBack_0 : decode cX6_takesBack 0 = .ok (.iconst 0, 1) := by decide +kernel
theorem dX6_takesBack_1 : decode cX6_takesBack 1 = .ok (.istore_n 1, 1) := by decide +kernel
theorem dX6_takesBack_2 : decode cX6_takesBack 2 = .ok (.iload_n 1, 1) := by decide +kernel
theorem dX6_takesBack_3 : decode cX6_takesBack 3 = .ok (.bipush 76, 2) := by decide +kernel
theorem dX6_takesBack_5 : decode cX6_takesBack 5 = .ok (.if_icmp .ge 21, 3) := by decide +kernel
theorem dX6_takesBack_8 : decode cX6_takesBack 8 = .ok (.aload_n 0, 1) := by decide +kernel
theorem dX6_takesBack_9 : decode cX6_takesBack 9 = .ok (.getfield 7, 3) := by decide +kernel
theorem dX6_takesBack_12 : decode cX6_takesBack 12 = .ok (.iload_n 1, 1) := by decide +kernel
theorem dX6_takesBack_13 : decode cX6_takesBack 13 = .ok (.aload_n 0, 1) := by decide +kernel
theorem dX6_takesBack_14 : decode cX6_takesBack 14 = .ok (.getfield 16, 3) := by decide +kernel
theorem dX6_takesBack_17 : decode cX6_takesBack 17 = .ok (.iload_n 1, 1) := by decide +kernel
theorem dX6_takesBack_18 : decode cX6_takesBack 18 = .ok (.laload, 1) := by decide +kernel
theorem dX6_takesBack_19 : decode cX6_takesBack 19 = .ok (.lastore, 1) := by decide +kernel
theorem dX6_takesBack_20 : decode cX6_takesBack 20 = .ok (.iinc 1 1, 3) := by decide +kernel
theorem dX6_takesBack_23 : decode cX6_takesBack 23 = .ok (.goto (-21), 3) := by decide +kernel
theorem dX6_takesBack_26 : decode cX6_takesBack 26 = .ok (.return_, 1) := by decide +kernel
theorem dX6_floor_0 : decode cX6_floor 0 = .ok (.lload_n 0, 1) := by decide +kernel
theorem dX6_floor_1 : decode cX6_floor 1 = .ok (.lconst 0, 1) := by decide +kernel
theorem dX6_floor_2 : decode cX6_floor 2 = .ok (.lcmp, 1) := by decide +kernel
theorem dX6_floor_3 : decode cX6_floor 3 = .ok (.ifCond .lt 9, 3) := by decide +kernel
theorem dX6_floor_6 : decode cX6_floor 6 = .ok (.lload_n 0, 1) := by decide +kernel
theorem dX6_floor_7 : decode cX6_floor 7 = .ok (.lload_n 2, 1) := by decide +kernel
theorem dX6_floor_8 : decode cX6_floor 8 = .ok (.ldiv, 1) := by decide +kernel
theorem dX6_floor_9 : decode cX6_floor 9 = .ok (.goto 12, 3) := by decide +kernel
theorem dX6_floor_12 : decode cX6_floor 12 = .ok (.lload_n 0, 1) := by decide +kernel
theorem dX6_floor_13 : decode cX6_floor 13 = .ok (.lneg, 1) := by decide +kernel
theorem dX6_floor_14 : decode cX6_floor 14 = .ok (.lload_n 2, 1) := by decide +kernel
theorem dX6_floor_15 : decode cX6_floor 15 = .ok (.ladd, 1) := by decide +kernel
theorem dX6_floor_16 : decode cX6_floor 16 = .ok (.lconst 1, 1) := by decide +kernel
theorem dX6_floor_17 : decode cX6_floor 17 = .ok (.lsub, 1) := by decide +kernel
theorem dX6_floor_18 : decode cX6_floor 18 = .ok (.lload_n 2, 1) := by decide +kernel
theorem dX6_floor_19 : decode cX6_floor 19 = .ok (.ldiv, 1) := by decide +kernel
theorem dX6_floor_20 : decode cX6_floor 20 = .ok (.lneg, 1) := by decide +kernel
theorem dX6_floor_21 : decode cX6_floor 21 = .ok (.lreturn, 1) := by decide +kernel
theorem dX6_within_0 : decode cX6_within 0 = .ok (.lload_n 0, 1) := by decide +kernel
theorem dX6_within_1 : decode cX6_within 1 = .ok (.lload_n 2, 1) := by decide +kernel
theorem dX6_within_2 : decode cX6_within 2 = .ok (.lcmp, 1) := by decide +kernel
theorem dX6_within_3 : decode cX6_within 3 = .ok (.ifCond .ge 7, 3) := by decide +kernel
theorem dX6_within_6 : decode cX6_within 6 = .ok (.lload_n 2, 1) := by decide +kernel
theorem dX6_within_7 : decode cX6_within 7 = .ok (.goto 16, 3) := by decide +kernel
theorem dX6_within_10 : decode cX6_within 10 = .ok (.lload_n 0, 1) := by decide +kernel
theorem dX6_within_11 : decode cX6_within 11 = .ok (.lload 4, 2) := by decide +kernel
theorem dX6_within_13 : decode cX6_within 13 = .ok (.lcmp, 1) := by decide +kernel
theorem dX6_within_14 : decode cX6_within 14 = .ok (.ifCond .le 8, 3) := by decide +kernel
theorem dX6_within_17 : decode cX6_within 17 = .ok (.lload 4, 2) := by decide +kernel
theorem dX6_within_19 : decode cX6_within 19 = .ok (.goto 4, 3) := by decide +kernel
theorem dX6_within_22 : decode cX6_within 22 = .ok (.lload_n 0, 1) := by decide +kernel
theorem dX6_within_23 : decode cX6_within 23 = .ok (.lreturn, 1) := by decide +kernel
set_option maxRecDepth 20000 in
theorem ggX6_isSignal_X6_in : GoodIn wsX6_isSignal wsX6_in := goodIn_r _ [6] (by decide +kernel) (by decide +kernel)
set_option maxRecDepth 20000 in
theorem gX6_isSignal_X6_in : GoodIn wsX6_isSignal (va_wsS RX6 65 yX6_in wsX6_in) := goodIn_app (goodIn_of _ (by decide +kernel)) ggX6_isSignal_X6_in
theorem dX6_isSignal_0 : decode cX6_isSignal 0 = .ok (.lload_n 0, 1) := by decide +kernel
theorem dX6_isSignal_1 : decode cX6_isSignal 1 = .ok (.ldc2_w 61, 3) := by decide +kernel
theorem dX6_isSignal_4 : decode cX6_isSignal 4 = .ok (.ldc2_w 63, 3) := by decide +kernel
theorem dX6_isSignal_7 : decode cX6_isSignal 7 = .ok (.invokestatic 65, 3) := by decide +kernel
theorem dX6_isSignal_10 : decode cX6_isSignal 10 = .ok (.ireturn, 1) := by decide +kernel
set_option maxRecDepth 20000 in
theorem ggX6_isValue_X6_in : GoodIn wsX6_isValue wsX6_in := goodIn_r _ [11] (by decide +kernel) (by decide +kernel)
set_option maxRecDepth 20000 in
theorem gX6_isValue_X6_in : GoodIn wsX6_isValue (va_wsS RX6 65 yX6_in wsX6_in) := goodIn_app (goodIn_of _ (by decide +kernel)) ggX6_isValue_X6_in
theorem dX6_isValue_0 : decode cX6_isValue 0 = .ok (.iload_n 0, 1) := by decide +kernel
theorem dX6_isValue_1 : decode cX6_isValue 1 = .ok (.tableswitch 103 0 5 #[39, 51, 61, 71, 83, 93], 39) := by decide +kernel
theorem dX6_isValue_40 : decode cX6_isValue 40 = .ok (.iload_n 1, 1) := by decide +kernel
theorem dX6_isValue_41 : decode cX6_isValue 41 = .ok (.i2l, 1) := by decide +kernel
theorem dX6_isValue_42 : decode cX6_isValue 42 = .ok (.ldc2_w 69, 3) := by decide +kernel
theorem dX6_isValue_45 : decode cX6_isValue 45 = .ok (.ldc2_w 71, 3) := by decide +kernel
theorem dX6_isValue_48 : decode cX6_isValue 48 = .ok (.invokestatic 65, 3) := by decide +kernel
theorem dX6_isValue_51 : decode cX6_isValue 51 = .ok (.ireturn, 1) := by decide +kernel
theorem dX6_isValue_52 : decode cX6_isValue 52 = .ok (.iload_n 1, 1) := by decide +kernel
theorem dX6_isValue_53 : decode cX6_isValue 53 = .ok (.i2l, 1) := by decide +kernel
theorem dX6_isValue_54 : decode cX6_isValue 54 = .ok (.lconst 0, 1) := by decide +kernel
theorem dX6_isValue_55 : decode cX6_isValue 55 = .ok (.ldc2_w 41, 3) := by decide +kernel
theorem dX6_isValue_58 : decode cX6_isValue 58 = .ok (.invokestatic 65, 3) := by decide +kernel
theorem dX6_isValue_61 : decode cX6_isValue 61 = .ok (.ireturn, 1) := by decide +kernel
theorem dX6_isValue_62 : decode cX6_isValue 62 = .ok (.iload_n 1, 1) := by decide +kernel
theorem dX6_isValue_63 : decode cX6_isValue 63 = .ok (.i2l, 1) := by decide +kernel
theorem dX6_isValue_64 : decode cX6_isValue 64 = .ok (.lconst 0, 1) := by decide +kernel
theorem dX6_isValue_65 : decode cX6_isValue 65 = .ok (.ldc2_w 73, 3) := by decide +kernel
theorem dX6_isValue_68 : decode cX6_isValue 68 = .ok (.invokestatic 65, 3) := by decide +kernel
theorem dX6_isValue_71 : decode cX6_isValue 71 = .ok (.ireturn, 1) := by decide +kernel
theorem dX6_isValue_72 : decode cX6_isValue 72 = .ok (.iload_n 1, 1) := by decide +kernel
theorem dX6_isValue_73 : decode cX6_isValue 73 = .ok (.i2l, 1) := by decide +kernel
theorem dX6_isValue_74 : decode cX6_isValue 74 = .ok (.ldc2_w 37, 3) := by decide +kernel
theorem dX6_isValue_77 : decode cX6_isValue 77 = .ok (.ldc2_w 75, 3) := by decide +kernel
theorem dX6_isValue_80 : decode cX6_isValue 80 = .ok (.invokestatic 65, 3) := by decide +kernel
theorem dX6_isValue_83 : decode cX6_isValue 83 = .ok (.ireturn, 1) := by decide +kernel
theorem dX6_isValue_84 : decode cX6_isValue 84 = .ok (.iload_n 1, 1) := by decide +kernel
theorem dX6_isValue_85 : decode cX6_isValue 85 = .ok (.i2l, 1) := by decide +kernel
theorem dX6_isValue_86 : decode cX6_isValue 86 = .ok (.lconst 1, 1) := by decide +kernel
theorem dX6_isValue_87 : decode cX6_isValue 87 = .ok (.ldc2_w 63, 3) := by decide +kernel
theorem dX6_isValue_90 : decode cX6_isValue 90 = .ok (.invokestatic 65, 3) := by decide +kernel
theorem dX6_isValue_93 : decode cX6_isValue 93 = .ok (.ireturn, 1) := by decide +kernel
theorem dX6_isValue_94 : decode cX6_isValue 94 = .ok (.iload_n 1, 1) := by decide +kernel
theorem dX6_isValue_95 : decode cX6_isValue 95 = .ok (.i2l, 1) := by decide +kernel
theorem dX6_isValue_96 : decode cX6_isValue 96 = .ok (.lconst 0, 1) := by decide +kernel
theorem dX6_isValue_97 : decode cX6_isValue 97 = .ok (.ldc2_w 73, 3) := by decide +kernel
theorem dX6_isValue_100 : decode cX6_isValue 100 = .ok (.invokestatic 65, 3) := by decide +kernel
theorem dX6_isValue_103 : decode cX6_isValue 103 = .ok (.ireturn, 1) := by decide +kernel
theorem dX6_isValue_104 : decode cX6_isValue 104 = .ok (.iload_n 1, 1) := by decide +kernel
theorem dX6_isValue_105 : decode cX6_isValue 105 = .ok (.i2l, 1) := by decide +kernel
theorem dX6_isValue_106 : decode cX6_isValue 106 = .ok (.lconst 1, 1) := by decide +kernel
theorem dX6_isValue_107 : decode cX6_isValue 107 = .ok (.ldc2_w 71, 3) := by decide +kernel
theorem dX6_isValue_110 : decode cX6_isValue 110 = .ok (.invokestatic 65, 3) := by decide +kernel
theorem dX6_isValue_113 : decode cX6_isValue 113 = .ok (.ireturn, 1) := by decide +kernel
set_option maxRecDepth 20000 in
theorem ggX6_set_X6_in : GoodIn wsX6_set wsX6_in := goodIn_r _ [6] (by decide +kernel) (by decide +kernel)
set_option maxRecDepth 20000 in
theorem gX6_set_X6_in : GoodIn wsX6_set (va_wsS RX6 65 yX6_in wsX6_in) := goodIn_app (goodIn_of _ (by decide +kernel)) ggX6_set_X6_in
set_option maxRecDepth 20000 in
theorem ggX6_set_X6_isValue : GoodIn wsX6_set wsX6_isValue := goodIn_r _ [9, 10, 11, 12, 13, 14, 15, 16, 3, 4, 5, 6] (by decide +kernel) (by decide +kernel)
set_option maxRecDepth 20000 in
theorem gX6_set_X6_isValue : GoodIn wsX6_set (va_wsS RX6 79 yX6_isValue wsX6_isValue) := goodIn_app (goodIn_of _ (by decide +kernel)) ggX6_set_X6_isValue
set_option maxRecDepth 20000 in
theorem ggX6_set_X6_goes : GoodIn wsX6_set wsX6_goes := goodIn_r _ [20, 21, 28, 29, 30, 31, 32, 33, 34, 35, 36, 37, 38, 39, 40] (by decide +kernel) (by decide +kernel)
set_option maxRecDepth 20000 in
theorem gX6_set_X6_goes : GoodIn wsX6_set (wsV RX6 83 RX6 yX6_goes wsX6_goes) := goodIn_app (goodIn_of _ (by decide +kernel)) ggX6_set_X6_goes
set_option maxRecDepth 20000 in
theorem ggX6_set_X6_save : GoodIn wsX6_set wsX6_save := goodIn_r _ [25, 26, 27, 2, 28, 29, 30, 31, 32, 33, 34, 35, 36, 37, 38, 39, 40] (by decide +kernel) (by decide +kernel)
set_option maxRecDepth 20000 in
theorem gX6_set_X6_save : GoodIn wsX6_set (wsV RX6 87 RX6 yX6_save wsX6_save) := goodIn_app (goodIn_of _ (by decide +kernel)) ggX6_set_X6_save
theorem dX6_set_0 : decode cX6_set 0 = .ok (.aload_n 0, 1) := by decide +kernel
theorem dX6_set_1 : decode cX6_set 1 = .ok (.iload_n 1, 1) := by decide +kernel
theorem dX6_set_2 : decode cX6_set 2 = .ok (.i2l, 1) := by decide +kernel
theorem dX6_set_3 : decode cX6_set 3 = .ok (.lconst 0, 1) := by decide +kernel
theorem dX6_set_4 : decode cX6_set 4 = .ok (.ldc2_w 77, 3) := by decide +kernel
theorem dX6_set_7 : decode cX6_set 7 = .ok (.invokestatic 65, 3) := by decide +kernel
theorem dX6_set_10 : decode cX6_set 10 = .ok (.ifCond .eq 15, 3) := by decide +kernel
theorem dX6_set_13 : decode cX6_set 13 = .ok (.iload_n 1, 1) := by decide +kernel
theorem dX6_set_14 : decode cX6_set 14 = .ok (.iload_n 2, 1) := by decide +kernel
theorem dX6_set_15 : decode cX6_set 15 = .ok (.invokestatic 79, 3) := by decide +kernel
theorem dX6_set_18 : decode cX6_set 18 = .ok (.ifCond .eq 7, 3) := by decide +kernel
theorem dX6_set_21 : decode cX6_set 21 = .ok (.iconst 1, 1) := by decide +kernel
theorem dX6_set_22 : decode cX6_set 22 = .ok (.goto 4, 3) := by decide +kernel
theorem dX6_set_25 : decode cX6_set 25 = .ok (.iconst 0, 1) := by decide +kernel
theorem dX6_set_26 : decode cX6_set 26 = .ok (.iconst 1, 1) := by decide +kernel
theorem dX6_set_27 : decode cX6_set 27 = .ok (.invokevirtual 83, 3) := by decide +kernel
theorem dX6_set_30 : decode cX6_set 30 = .ok (.ifCond .ne 5, 3) := by decide +kernel
theorem dX6_set_33 : decode cX6_set 33 = .ok (.iconst 0, 1) := by decide +kernel
theorem dX6_set_34 : decode cX6_set 34 = .ok (.ireturn, 1) := by decide +kernel
theorem dX6_set_35 : decode cX6_set 35 = .ok (.aload_n 0, 1) := by decide +kernel
theorem dX6_set_36 : decode cX6_set 36 = .ok (.invokevirtual 87, 3) := by decide +kernel
theorem dX6_set_39 : decode cX6_set 39 = .ok (.aload_n 0, 1) := by decide +kernel
theorem dX6_set_40 : decode cX6_set 40 = .ok (.getfield 7, 3) := by decide +kernel
theorem dX6_set_43 : decode cX6_set 43 = .ok (.iconst 0, 1) := by decide +kernel
theorem dX6_set_44 : decode cX6_set 44 = .ok (.iload_n 1, 1) := by decide +kernel
theorem dX6_set_45 : decode cX6_set 45 = .ok (.iadd, 1) := by decide +kernel
theorem dX6_set_46 : decode cX6_set 46 = .ok (.laload, 1) := by decide +kernel
theorem dX6_set_47 : decode cX6_set 47 = .ok (.l2i, 1) := by decide +kernel
theorem dX6_set_48 : decode cX6_set 48 = .ok (.istore_n 3, 1) := by decide +kernel
theorem dX6_set_49 : decode cX6_set 49 = .ok (.aload_n 0, 1) := by decide +kernel
theorem dX6_set_50 : decode cX6_set 50 = .ok (.getfield 7, 3) := by decide +kernel
theorem dX6_set_53 : decode cX6_set 53 = .ok (.iconst 0, 1) := by decide +kernel
theorem dX6_set_54 : decode cX6_set 54 = .ok (.iload_n 1, 1) := by decide +kernel
theorem dX6_set_55 : decode cX6_set 55 = .ok (.iadd, 1) := by decide +kernel
theorem dX6_set_56 : decode cX6_set 56 = .ok (.iload_n 2, 1) := by decide +kernel
theorem dX6_set_57 : decode cX6_set 57 = .ok (.i2l, 1) := by decide +kernel
theorem dX6_set_58 : decode cX6_set 58 = .ok (.lastore, 1) := by decide +kernel
theorem dX6_set_59 : decode cX6_set 59 = .ok (.iload_n 3, 1) := by decide +kernel
theorem dX6_set_60 : decode cX6_set 60 = .ok (.ireturn, 1) := by decide +kernel
set_option maxRecDepth 20000 in
theorem ggX6_value_X6_in : GoodIn wsX6_value wsX6_in := goodIn_r _ [6] (by decide +kernel) (by decide +kernel)
set_option maxRecDepth 20000 in
theorem gX6_value_X6_in : GoodIn wsX6_value (va_wsS RX6 65 yX6_in wsX6_in) := goodIn_app (goodIn_of _ (by decide +kernel)) ggX6_value_X6_in
set_option maxRecDepth 20000 in
theorem ggX6_value_X6_goes : GoodIn wsX6_value wsX6_goes := goodIn_r _ [10, 11, 12, 13, 14, 15, 16, 17, 18, 19, 20, 21, 22, 23, 24] (by decide +kernel) (by decide +kernel)
set_option maxRecDepth 20000 in
theorem gX6_value_X6_goes : GoodIn wsX6_value (wsV RX6 83 RX6 yX6_goes wsX6_goes) := goodIn_app (goodIn_of _ (by decide +kernel)) ggX6_value_X6_goes
theorem dX6_value_0 : decode cX6_value 0 = .ok (.aload_n 0, 1) := by decide +kernel
theorem dX6_value_1 : decode cX6_value 1 = .ok (.iload_n 1, 1) := by decide +kernel
theorem dX6_value_2 : decode cX6_value 2 = .ok (.i2l, 1) := by decide +kernel
theorem dX6_value_3 : decode cX6_value 3 = .ok (.lconst 0, 1) := by decide +kernel
theorem dX6_value_4 : decode cX6_value 4 = .ok (.ldc2_w 77, 3) := by decide +kernel
theorem dX6_value_7 : decode cX6_value 7 = .ok (.invokestatic 65, 3) := by decide +kernel
theorem dX6_value_10 : decode cX6_value 10 = .ok (.iconst 1, 1) := by decide +kernel
theorem dX6_value_11 : decode cX6_value 11 = .ok (.invokevirtual 83, 3) := by decide +kernel
theorem dX6_value_14 : decode cX6_value 14 = .ok (.ifCond .eq 15, 3) := by decide +kernel
theorem dX6_value_17 : decode cX6_value 17 = .ok (.aload_n 0, 1) := by decide +kernel
theorem dX6_value_18 : decode cX6_value 18 = .ok (.getfield 7, 3) := by decide +kernel
theorem dX6_value_21 : decode cX6_value 21 = .ok (.iconst 0, 1) := by decide +kernel
theorem dX6_value_22 : decode cX6_value 22 = .ok (.iload_n 1, 1) := by decide +kernel
theorem dX6_value_23 : decode cX6_value 23 = .ok (.iadd, 1) := by decide +kernel
theorem dX6_value_24 : decode cX6_value 24 = .ok (.laload, 1) := by decide +kernel
theorem dX6_value_25 : decode cX6_value 25 = .ok (.l2i, 1) := by decide +kernel
theorem dX6_value_26 : decode cX6_value 26 = .ok (.goto 4, 3) := by decide +kernel
theorem dX6_value_29 : decode cX6_value 29 = .ok (.iconst 0, 1) := by decide +kernel
theorem dX6_value_30 : decode cX6_value 30 = .ok (.ireturn, 1) := by decide +kernel
set_option maxRecDepth 20000 in
theorem ggX6_boxes_X6_within : GoodIn wsX6_boxes wsX6_within := goodIn_r _ [5] (by decide +kernel) (by decide +kernel)
set_option maxRecDepth 20000 in
theorem gX6_boxes_X6_within : GoodIn wsX6_boxes (va_wsS RX6 90 yX6_within wsX6_within) := goodIn_app (goodIn_of _ (by decide +kernel)) ggX6_boxes_X6_within
theorem dX6_boxes_0 : decode cX6_boxes 0 = .ok (.aload_n 0, 1) := by decide +kernel
theorem dX6_boxes_1 : decode cX6_boxes 1 = .ok (.getfield 7, 3) := by decide +kernel
theorem dX6_boxes_4 : decode cX6_boxes 4 = .ok (.bipush 13, 2) := by decide +kernel
theorem dX6_boxes_6 : decode cX6_boxes 6 = .ok (.iload_n 1, 1) := by decide +kernel
theorem dX6_boxes_7 : decode cX6_boxes 7 = .ok (.iadd, 1) := by decide +kernel
theorem dX6_boxes_8 : decode cX6_boxes 8 = .ok (.laload, 1) := by decide +kernel
theorem dX6_boxes_9 : decode cX6_boxes 9 = .ok (.lstore_n 2, 1) := by decide +kernel
theorem dX6_boxes_10 : decode cX6_boxes 10 = .ok (.aload_n 0, 1) := by decide +kernel
theorem dX6_boxes_11 : decode cX6_boxes 11 = .ok (.getfield 7, 3) := by decide +kernel
theorem dX6_boxes_14 : decode cX6_boxes 14 = .ok (.bipush 13, 2) := by decide +kernel
theorem dX6_boxes_16 : decode cX6_boxes 16 = .ok (.iload_n 1, 1) := by decide +kernel
theorem dX6_boxes_17 : decode cX6_boxes 17 = .ok (.iadd, 1) := by decide +kernel
theorem dX6_boxes_18 : decode cX6_boxes 18 = .ok (.lload_n 2, 1) := by decide +kernel
theorem dX6_boxes_19 : decode cX6_boxes 19 = .ok (.aload_n 0, 1) := by decide +kernel
theorem dX6_boxes_20 : decode cX6_boxes 20 = .ok (.getfield 7, 3) := by decide +kernel
theorem dX6_boxes_23 : decode cX6_boxes 23 = .ok (.bipush 7, 2) := by decide +kernel
theorem dX6_boxes_25 : decode cX6_boxes 25 = .ok (.iconst 2, 1) := by decide +kernel
theorem dX6_boxes_26 : decode cX6_boxes 26 = .ok (.iload_n 1, 1) := by decide +kernel
theorem dX6_boxes_27 : decode cX6_boxes 27 = .ok (.imul, 1) := by decide +kernel
theorem dX6_boxes_28 : decode cX6_boxes 28 = .ok (.iadd, 1) := by decide +kernel
theorem dX6_boxes_29 : decode cX6_boxes 29 = .ok (.laload, 1) := by decide +kernel
theorem dX6_boxes_30 : decode cX6_boxes 30 = .ok (.aload_n 0, 1) := by decide +kernel
theorem dX6_boxes_31 : decode cX6_boxes 31 = .ok (.getfield 7, 3) := by decide +kernel
theorem dX6_boxes_34 : decode cX6_boxes 34 = .ok (.bipush 7, 2) := by decide +kernel
theorem dX6_boxes_36 : decode cX6_boxes 36 = .ok (.iconst 2, 1) := by decide +kernel
theorem dX6_boxes_37 : decode cX6_boxes 37 = .ok (.iload_n 1, 1) := by decide +kernel
theorem dX6_boxes_38 : decode cX6_boxes 38 = .ok (.imul, 1) := by decide +kernel
theorem dX6_boxes_39 : decode cX6_boxes 39 = .ok (.iadd, 1) := by decide +kernel
theorem dX6_boxes_40 : decode cX6_boxes 40 = .ok (.iconst 1, 1) := by decide +kernel
theorem dX6_boxes_41 : decode cX6_boxes 41 = .ok (.iadd, 1) := by decide +kernel
theorem dX6_boxes_42 : decode cX6_boxes 42 = .ok (.laload, 1) := by decide +kernel
theorem dX6_boxes_43 : decode cX6_boxes 43 = .ok (.invokestatic 90, 3) := by decide +kernel
theorem dX6_boxes_46 : decode cX6_boxes 46 = .ok (.lastore, 1) := by decide +kernel
theorem dX6_boxes_47 : decode cX6_boxes 47 = .ok (.aload_n 0, 1) := by decide +kernel
theorem dX6_boxes_48 : decode cX6_boxes 48 = .ok (.getfield 7, 3) := by decide +kernel
theorem dX6_boxes_51 : decode cX6_boxes 51 = .ok (.bipush 13, 2) := by decide +kernel
theorem dX6_boxes_53 : decode cX6_boxes 53 = .ok (.iload_n 1, 1) := by decide +kernel
theorem dX6_boxes_54 : decode cX6_boxes 54 = .ok (.iadd, 1) := by decide +kernel
theorem dX6_boxes_55 : decode cX6_boxes 55 = .ok (.laload, 1) := by decide +kernel
theorem dX6_boxes_56 : decode cX6_boxes 56 = .ok (.lload_n 2, 1) := by decide +kernel
