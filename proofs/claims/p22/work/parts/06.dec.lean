theorem dX4_measured_0 : decode cX4_measured 0 = .ok (.aload_n 0, 1) := by decide +kernel
theorem dX4_measured_1 : decode cX4_measured 1 = .ok (.iload_n 1, 1) := by decide +kernel
theorem dX4_measured_2 : decode cX4_measured 2 = .ok (.iload_n 2, 1) := by decide +kernel
theorem dX4_measured_3 : decode cX4_measured 3 = .ok (.invokevirtual 167, 3) := by decide +kernel
theorem dX4_measured_6 : decode cX4_measured 6 = .ok (.ifCond .ne 13, 3) := by decide +kernel
theorem dX4_measured_9 : decode cX4_measured 9 = .ok (.new 87, 3) := by decide +kernel
theorem dX4_measured_12 : decode cX4_measured 12 = .ok (.dup, 1) := by decide +kernel
theorem dX4_measured_13 : decode cX4_measured 13 = .ok (.ldc 170, 2) := by decide +kernel
theorem dX4_measured_15 : decode cX4_measured 15 = .ok (.invokespecial 91, 3) := by decide +kernel
theorem dX4_measured_18 : decode cX4_measured 18 = .ok (.athrow, 1) := by decide +kernel
theorem dX4_measured_19 : decode cX4_measured 19 = .ok (.iload_n 3, 1) := by decide +kernel
theorem dX4_measured_20 : decode cX4_measured 20 = .ok (.ifCond .eq 15, 3) := by decide +kernel
theorem dX4_measured_23 : decode cX4_measured 23 = .ok (.aload_n 0, 1) := by decide +kernel
theorem dX4_measured_24 : decode cX4_measured 24 = .ok (.getfield 19, 3) := by decide +kernel
theorem dX4_measured_27 : decode cX4_measured 27 = .ok (.iload_n 1, 1) := by decide +kernel
theorem dX4_measured_28 : decode cX4_measured 28 = .ok (.iload_n 2, 1) := by decide +kernel
theorem dX4_measured_29 : decode cX4_measured 29 = .ok (.invokevirtual 172, 3) := by decide +kernel
theorem dX4_measured_32 : decode cX4_measured 32 = .ok (.goto 12, 3) := by decide +kernel
theorem dX4_measured_35 : decode cX4_measured 35 = .ok (.aload_n 0, 1) := by decide +kernel
theorem dX4_measured_36 : decode cX4_measured 36 = .ok (.getfield 19, 3) := by decide +kernel
theorem dX4_measured_39 : decode cX4_measured 39 = .ok (.iload_n 1, 1) := by decide +kernel
theorem dX4_measured_40 : decode cX4_measured 40 = .ok (.iload_n 2, 1) := by decide +kernel
theorem dX4_measured_41 : decode cX4_measured 41 = .ok (.invokevirtual 175, 3) := by decide +kernel
theorem dX4_measured_44 : decode cX4_measured 44 = .ok (.ireturn, 1) := by decide +kernel
set_option maxRecDepth 20000 in
theorem ggX4_closes_X4_hasMeasured : GoodIn wsX4_closes wsX4_hasMeasured := goodIn_r _ [17, 5, 18, 19, 20, 16, 21, 22, 23, 24, 25, 26, 27, 28, 29, 30, 31, 32, 33, 34, 35, 36, 61, 62, 63, 64, 65, 66, 67, 68, 69, 70, 71, 72, 73, 74, 75, 76, 77, 78, 79] (by decide +kernel) (by decide +kernel)
set_option maxRecDepth 20000 in
theorem gX4_closes_X4_hasMeasured : GoodIn wsX4_closes (wsV RX4 167 RX4 yX4_hasMeasured wsX4_hasMeasured) := goodIn_app (goodIn_of _ (by decide +kernel)) ggX4_closes_X4_hasMeasured
set_option maxRecDepth 20000 in
theorem ggX4_closes_X2_areRing : GoodIn wsX4_closes wsX2_areRing := goodIn_r _ [40, 41, 42, 43, 29, 44, 45, 46, 71, 72, 73, 74, 75, 76, 77, 78, 79] (by decide +kernel) (by decide +kernel)
set_option maxRecDepth 20000 in
theorem gX4_closes_X2_areRing : GoodIn wsX4_closes (wsV RX4 180 RX2 yX2_areRing wsX2_areRing) := goodIn_app (goodIn_of _ (by decide +kernel)) ggX4_closes_X2_areRing
set_option maxRecDepth 20000 in
theorem ggX4_closes_X2_around : GoodIn wsX4_closes wsX2_around := goodIn_r _ [50, 51, 52, 53, 29, 54, 55, 56, 57, 58, 59, 60, 45, 46, 71, 72, 73, 74, 75, 76, 77, 78, 79] (by decide +kernel) (by decide +kernel)
set_option maxRecDepth 20000 in
theorem gX4_closes_X2_around : GoodIn wsX4_closes (wsV RX4 193 RX2 yX2_around wsX2_around) := goodIn_app (goodIn_of _ (by decide +kernel)) ggX4_closes_X2_around
theorem dX4_closes_0 : decode cX4_closes 0 = .ok (.aload_n 0, 1) := by decide +kernel
theorem dX4_closes_1 : decode cX4_closes 1 = .ok (.iload_n 1, 1) := by decide +kernel
theorem dX4_closes_2 : decode cX4_closes 2 = .ok (.iload 4, 2) := by decide +kernel
theorem dX4_closes_4 : decode cX4_closes 4 = .ok (.invokevirtual 167, 3) := by decide +kernel
theorem dX4_closes_7 : decode cX4_closes 7 = .ok (.ifCond .eq 23, 3) := by decide +kernel
theorem dX4_closes_10 : decode cX4_closes 10 = .ok (.aload_n 0, 1) := by decide +kernel
theorem dX4_closes_11 : decode cX4_closes 11 = .ok (.iload_n 2, 1) := by decide +kernel
theorem dX4_closes_12 : decode cX4_closes 12 = .ok (.iload 4, 2) := by decide +kernel
theorem dX4_closes_14 : decode cX4_closes 14 = .ok (.invokevirtual 167, 3) := by decide +kernel
theorem dX4_closes_17 : decode cX4_closes 17 = .ok (.ifCond .eq 13, 3) := by decide +kernel
theorem dX4_closes_20 : decode cX4_closes 20 = .ok (.aload_n 0, 1) := by decide +kernel
theorem dX4_closes_21 : decode cX4_closes 21 = .ok (.iload_n 3, 1) := by decide +kernel
theorem dX4_closes_22 : decode cX4_closes 22 = .ok (.iload 4, 2) := by decide +kernel
theorem dX4_closes_24 : decode cX4_closes 24 = .ok (.invokevirtual 167, 3) := by decide +kernel
theorem dX4_closes_27 : decode cX4_closes 27 = .ok (.ifCond .ne 13, 3) := by decide +kernel
theorem dX4_closes_30 : decode cX4_closes 30 = .ok (.new 87, 3) := by decide +kernel
theorem dX4_closes_33 : decode cX4_closes 33 = .ok (.dup, 1) := by decide +kernel
theorem dX4_closes_34 : decode cX4_closes 34 = .ok (.ldc 178, 2) := by decide +kernel
theorem dX4_closes_36 : decode cX4_closes 36 = .ok (.invokespecial 91, 3) := by decide +kernel
theorem dX4_closes_39 : decode cX4_closes 39 = .ok (.athrow, 1) := by decide +kernel
theorem dX4_closes_40 : decode cX4_closes 40 = .ok (.aload_n 0, 1) := by decide +kernel
theorem dX4_closes_41 : decode cX4_closes 41 = .ok (.getfield 19, 3) := by decide +kernel
theorem dX4_closes_44 : decode cX4_closes 44 = .ok (.iload_n 1, 1) := by decide +kernel
theorem dX4_closes_45 : decode cX4_closes 45 = .ok (.iload_n 2, 1) := by decide +kernel
theorem dX4_closes_46 : decode cX4_closes 46 = .ok (.iload_n 3, 1) := by decide +kernel
theorem dX4_closes_47 : decode cX4_closes 47 = .ok (.invokevirtual 180, 3) := by decide +kernel
theorem dX4_closes_50 : decode cX4_closes 50 = .ok (.ifCond .ne 13, 3) := by decide +kernel
theorem dX4_closes_53 : decode cX4_closes 53 = .ok (.new 63, 3) := by decide +kernel
theorem dX4_closes_56 : decode cX4_closes 56 = .ok (.dup, 1) := by decide +kernel
theorem dX4_closes_57 : decode cX4_closes 57 = .ok (.ldc 183, 2) := by decide +kernel
theorem dX4_closes_59 : decode cX4_closes 59 = .ok (.invokespecial 67, 3) := by decide +kernel
theorem dX4_closes_62 : decode cX4_closes 62 = .ok (.athrow, 1) := by decide +kernel
theorem dX4_closes_63 : decode cX4_closes 63 = .ok (.iload_n 1, 1) := by decide +kernel
theorem dX4_closes_64 : decode cX4_closes 64 = .ok (.iload_n 2, 1) := by decide +kernel
theorem dX4_closes_65 : decode cX4_closes 65 = .ok (.iload_n 3, 1) := by decide +kernel
theorem dX4_closes_66 : decode cX4_closes 66 = .ok (.invokestatic 185, 3) := by decide +kernel
theorem dX4_closes_69 : decode cX4_closes 69 = .ok (.invokestatic 185, 3) := by decide +kernel
theorem dX4_closes_72 : decode cX4_closes 72 = .ok (.istore 5, 2) := by decide +kernel
theorem dX4_closes_74 : decode cX4_closes 74 = .ok (.iload_n 1, 1) := by decide +kernel
theorem dX4_closes_75 : decode cX4_closes 75 = .ok (.iload_n 2, 1) := by decide +kernel
theorem dX4_closes_76 : decode cX4_closes 76 = .ok (.iload_n 3, 1) := by decide +kernel
theorem dX4_closes_77 : decode cX4_closes 77 = .ok (.invokestatic 190, 3) := by decide +kernel
theorem dX4_closes_80 : decode cX4_closes 80 = .ok (.invokestatic 190, 3) := by decide +kernel
theorem dX4_closes_83 : decode cX4_closes 83 = .ok (.istore 6, 2) := by decide +kernel
theorem dX4_closes_85 : decode cX4_closes 85 = .ok (.iload_n 1, 1) := by decide +kernel
theorem dX4_closes_86 : decode cX4_closes 86 = .ok (.iload_n 2, 1) := by decide +kernel
theorem dX4_closes_87 : decode cX4_closes 87 = .ok (.iadd, 1) := by decide +kernel
theorem dX4_closes_88 : decode cX4_closes 88 = .ok (.iload_n 3, 1) := by decide +kernel
theorem dX4_closes_89 : decode cX4_closes 89 = .ok (.iadd, 1) := by decide +kernel
theorem dX4_closes_90 : decode cX4_closes 90 = .ok (.iload 5, 2) := by decide +kernel
theorem dX4_closes_92 : decode cX4_closes 92 = .ok (.isub, 1) := by decide +kernel
theorem dX4_closes_93 : decode cX4_closes 93 = .ok (.iload 6, 2) := by decide +kernel
theorem dX4_closes_95 : decode cX4_closes 95 = .ok (.isub, 1) := by decide +kernel
theorem dX4_closes_96 : decode cX4_closes 96 = .ok (.istore 7, 2) := by decide +kernel
theorem dX4_closes_98 : decode cX4_closes 98 = .ok (.aload_n 0, 1) := by decide +kernel
theorem dX4_closes_99 : decode cX4_closes 99 = .ok (.getfield 19, 3) := by decide +kernel
theorem dX4_closes_102 : decode cX4_closes 102 = .ok (.iload 5, 2) := by decide +kernel
theorem dX4_closes_104 : decode cX4_closes 104 = .ok (.iload 7, 2) := by decide +kernel
theorem dX4_closes_106 : decode cX4_closes 106 = .ok (.iload 6, 2) := by decide +kernel
theorem dX4_closes_108 : decode cX4_closes 108 = .ok (.iload 4, 2) := by decide +kernel
theorem dX4_closes_110 : decode cX4_closes 110 = .ok (.invokevirtual 193, 3) := by decide +kernel
theorem dX4_closes_113 : decode cX4_closes 113 = .ok (.ireturn, 1) := by decide +kernel
set_option maxRecDepth 20000 in
theorem ggX4_open_X4_hasPassed : GoodIn wsX4_open wsX4_hasPassed := goodIn_r _ [7, 8, 9, 10, 6, 11, 84, 85, 86, 87, 88, 89, 90, 91, 92, 93] (by decide +kernel) (by decide +kernel)
set_option maxRecDepth 20000 in
theorem gX4_open_X4_hasPassed : GoodIn wsX4_open (wsV RX4 196 RX4 yX4_hasPassed wsX4_hasPassed) := goodIn_app (goodIn_of _ (by decide +kernel)) ggX4_open_X4_hasPassed
set_option maxRecDepth 20000 in
theorem ggX4_open_X4_openRings : GoodIn wsX4_open wsX4_openRings := goodIn_r _ [15, 16, 17, 18, 19, 20, 21, 22, 23, 24, 25, 26, 27, 28, 29, 30, 31, 32, 33, 34, 35, 36, 37, 38, 39, 40, 41, 42, 43, 44, 45, 46, 47, 48, 49, 50, 51, 52, 53, 54, 55, 56, 57, 58, 59, 60, 61, 62, 63, 64, 65, 66, 67, 68, 69, 70, 71, 72, 73, 74, 75, 76, 77, 78, 79, 80, 81, 82, 83, 84, 85, 86, 87, 88, 89, 90, 91, 92, 93, 94, 95, 96, 97, 98, 99, 100, 101, 102, 103, 104, 105, 106, 107, 108, 109, 110, 111, 112, 113, 114] (by decide +kernel) (by decide +kernel)
set_option maxRecDepth 20000 in
theorem gX4_open_X4_openRings : GoodIn wsX4_open (wsV RX4 153 RX4 yX4_openRings wsX4_openRings) := goodIn_app (goodIn_of _ (by decide +kernel)) ggX4_open_X4_openRings
theorem dX4_open_0 : decode cX4_open 0 = .ok (.aload_n 0, 1) := by decide +kernel
theorem dX4_open_1 : decode cX4_open 1 = .ok (.iload_n 1, 1) := by decide +kernel
theorem dX4_open_2 : decode cX4_open 2 = .ok (.invokevirtual 196, 3) := by decide +kernel
theorem dX4_open_5 : decode cX4_open 5 = .ok (.ifCond .ne 13, 3) := by decide +kernel
theorem dX4_open_8 : decode cX4_open 8 = .ok (.new 87, 3) := by decide +kernel
theorem dX4_open_11 : decode cX4_open 11 = .ok (.dup, 1) := by decide +kernel
theorem dX4_open_12 : decode cX4_open 12 = .ok (.ldc 199, 2) := by decide +kernel
theorem dX4_open_14 : decode cX4_open 14 = .ok (.invokespecial 91, 3) := by decide +kernel
theorem dX4_open_17 : decode cX4_open 17 = .ok (.athrow, 1) := by decide +kernel
theorem dX4_open_18 : decode cX4_open 18 = .ok (.aload_n 0, 1) := by decide +kernel
theorem dX4_open_19 : decode cX4_open 19 = .ok (.iload_n 1, 1) := by decide +kernel
theorem dX4_open_20 : decode cX4_open 20 = .ok (.invokevirtual 153, 3) := by decide +kernel
theorem dX4_open_23 : decode cX4_open 23 = .ok (.ireturn, 1) := by decide +kernel
set_option maxRecDepth 20000 in
theorem ggX4_slips_X4_hasPassed : GoodIn wsX4_slips wsX4_hasPassed := goodIn_r _ [10, 11, 12, 13, 9, 14, 96, 97, 98, 99, 100, 101, 102, 103, 104, 105] (by decide +kernel) (by decide +kernel)
set_option maxRecDepth 20000 in
theorem gX4_slips_X4_hasPassed : GoodIn wsX4_slips (wsV RX4 196 RX4 yX4_hasPassed wsX4_hasPassed) := goodIn_app (goodIn_of _ (by decide +kernel)) ggX4_slips_X4_hasPassed
set_option maxRecDepth 20000 in
theorem ggX4_slips_X3_gather : GoodIn wsX4_slips wsX3_gather := goodIn_r _ [19, 20, 21, 22, 23, 24, 25, 26, 27, 28, 29, 30, 31, 32, 33, 34, 35, 18, 36, 37, 38, 39, 40, 41, 42, 43, 44, 45, 46, 47, 48, 49, 50, 51, 52, 53, 54, 55, 56, 57, 58, 59, 60, 61, 62, 63, 64, 65, 66, 67, 68, 69, 70, 71, 106, 107, 108, 109, 110, 111, 112, 113, 114, 115, 116, 117, 118, 119, 120, 121, 122, 123, 124, 125, 126] (by decide +kernel) (by decide +kernel)
set_option maxRecDepth 20000 in
theorem gX4_slips_X3_gather : GoodIn wsX4_slips (wsV RX4 201 RX3 yX3_gather wsX3_gather) := goodIn_app (goodIn_of _ (by decide +kernel)) ggX4_slips_X3_gather
set_option maxRecDepth 20000 in
theorem ggX4_slips_X2_count : GoodIn wsX4_slips wsX2_count := goodIn_r _ [26, 27, 118, 119, 120, 121, 122, 123, 124, 125, 126] (by decide +kernel) (by decide +kernel)
set_option maxRecDepth 20000 in
theorem gX4_slips_X2_count : GoodIn wsX4_slips (wsV RX4 104 RX2 yX2_count wsX2_count) := goodIn_app (goodIn_of _ (by decide +kernel)) ggX4_slips_X2_count
set_option maxRecDepth 20000 in
theorem ggX4_slips_X3_findSlips : GoodIn wsX4_slips wsX3_findSlips := goodIn_r _ [76, 77, 78, 79, 80, 81, 18, 82, 21, 83, 84, 85, 86, 87, 88, 89, 90, 91, 20, 51, 56, 92, 93, 94, 95, 54, 52, 55, 53, 106, 107, 108, 109, 110, 111, 112, 113, 114, 115, 116, 117] (by decide +kernel) (by decide +kernel)
set_option maxRecDepth 20000 in
theorem gX4_slips_X3_findSlips : GoodIn wsX4_slips (wsV RX4 205 RX3 yX3_findSlips wsX3_findSlips) := goodIn_app (goodIn_of _ (by decide +kernel)) ggX4_slips_X3_findSlips
theorem dX4_slips_0 : decode cX4_slips 0 = .ok (.aload_n 0, 1) := by decide +kernel
theorem dX4_slips_1 : decode cX4_slips 1 = .ok (.iload_n 1, 1) := by decide +kernel
theorem dX4_slips_2 : decode cX4_slips 2 = .ok (.invokevirtual 196, 3) := by decide +kernel
theorem dX4_slips_5 : decode cX4_slips 5 = .ok (.ifCond .ne 13, 3) := by decide +kernel
theorem dX4_slips_8 : decode cX4_slips 8 = .ok (.new 87, 3) := by decide +kernel
theorem dX4_slips_11 : decode cX4_slips 11 = .ok (.dup, 1) := by decide +kernel
theorem dX4_slips_12 : decode cX4_slips 12 = .ok (.ldc 199, 2) := by decide +kernel
theorem dX4_slips_14 : decode cX4_slips 14 = .ok (.invokespecial 91, 3) := by decide +kernel
theorem dX4_slips_17 : decode cX4_slips 17 = .ok (.athrow, 1) := by decide +kernel
theorem dX4_slips_18 : decode cX4_slips 18 = .ok (.aload_n 0, 1) := by decide +kernel
theorem dX4_slips_19 : decode cX4_slips 19 = .ok (.getfield 33, 3) := by decide +kernel
theorem dX4_slips_22 : decode cX4_slips 22 = .ok (.aload_n 0, 1) := by decide +kernel
theorem dX4_slips_23 : decode cX4_slips 23 = .ok (.getfield 19, 3) := by decide +kernel
theorem dX4_slips_26 : decode cX4_slips 26 = .ok (.iload_n 1, 1) := by decide +kernel
theorem dX4_slips_27 : decode cX4_slips 27 = .ok (.invokevirtual 201, 3) := by decide +kernel
theorem dX4_slips_30 : decode cX4_slips 30 = .ok (.aload_n 0, 1) := by decide +kernel
theorem dX4_slips_31 : decode cX4_slips 31 = .ok (.getfield 33, 3) := by decide +kernel
theorem dX4_slips_34 : decode cX4_slips 34 = .ok (.aload_n 0, 1) := by decide +kernel
theorem dX4_slips_35 : decode cX4_slips 35 = .ok (.getfield 19, 3) := by decide +kernel
theorem dX4_slips_38 : decode cX4_slips 38 = .ok (.invokevirtual 104, 3) := by decide +kernel
theorem dX4_slips_41 : decode cX4_slips 41 = .ok (.aload_n 0, 1) := by decide +kernel
theorem dX4_slips_42 : decode cX4_slips 42 = .ok (.getfield 49, 3) := by decide +kernel
theorem dX4_slips_45 : decode cX4_slips 45 = .ok (.invokevirtual 205, 3) := by decide +kernel
theorem dX4_slips_48 : decode cX4_slips 48 = .ok (.ireturn, 1) := by decide +kernel
set_option maxRecDepth 20000 in
theorem ggX4_mean_X4_hasPassed : GoodIn wsX4_mean wsX4_hasPassed := goodIn_r _ [8, 9, 10, 11, 7, 12, 56, 57, 58, 59, 60, 61, 62, 63, 64, 65] (by decide +kernel) (by decide +kernel)
set_option maxRecDepth 20000 in
theorem gX4_mean_X4_hasPassed : GoodIn wsX4_mean (wsV RX4 196 RX4 yX4_hasPassed wsX4_hasPassed) := goodIn_app (goodIn_of _ (by decide +kernel)) ggX4_mean_X4_hasPassed
set_option maxRecDepth 20000 in
theorem ggX4_mean_X1_count : GoodIn wsX4_mean wsX1_count := goodIn_r _ [17, 18, 66, 67, 68, 69, 70, 71] (by decide +kernel) (by decide +kernel)
set_option maxRecDepth 20000 in
theorem gX4_mean_X1_count : GoodIn wsX4_mean (wsV RX4 70 RX1 yX1_count wsX1_count) := goodIn_app (goodIn_of _ (by decide +kernel)) ggX4_mean_X1_count
set_option maxRecDepth 20000 in
theorem ggX4_mean_X4_meanOrZero : GoodIn wsX4_mean wsX4_meanOrZero := goodIn_r _ [22, 3, 23, 13, 14, 15, 16, 17, 18, 24, 25, 26, 27, 28, 29, 30, 31, 32, 33, 34, 35, 36, 37, 38, 39, 40, 41, 42, 43, 44, 45, 46, 47, 48, 49, 50, 51, 52, 53, 54, 55, 56, 57, 58, 59, 60, 61, 62, 63, 64, 65, 66, 67, 68, 69, 70, 71, 72, 73, 74, 75, 76, 77, 78, 79, 80] (by decide +kernel) (by decide +kernel)
set_option maxRecDepth 20000 in
theorem gX4_mean_X4_meanOrZero : GoodIn wsX4_mean (wsV RX4 210 RX4 yX4_meanOrZero wsX4_meanOrZero) := goodIn_app (goodIn_of _ (by decide +kernel)) ggX4_mean_X4_meanOrZero
theorem dX4_mean_0 : decode cX4_mean 0 = .ok (.aload_n 0, 1) := by decide +kernel
theorem dX4_mean_1 : decode cX4_mean 1 = .ok (.iload_n 1, 1) := by decide +kernel
theorem dX4_mean_2 : decode cX4_mean 2 = .ok (.invokevirtual 196, 3) := by decide +kernel
theorem dX4_mean_5 : decode cX4_mean 5 = .ok (.ifCond .eq 13, 3) := by decide +kernel
theorem dX4_mean_8 : decode cX4_mean 8 = .ok (.aload_n 0, 1) := by decide +kernel
theorem dX4_mean_9 : decode cX4_mean 9 = .ok (.getfield 10, 3) := by decide +kernel
theorem dX4_mean_12 : decode cX4_mean 12 = .ok (.invokevirtual 70, 3) := by decide +kernel
theorem dX4_mean_15 : decode cX4_mean 15 = .ok (.ifCond .ne 13, 3) := by decide +kernel
theorem dX4_mean_18 : decode cX4_mean 18 = .ok (.new 87, 3) := by decide +kernel
theorem dX4_mean_21 : decode cX4_mean 21 = .ok (.dup, 1) := by decide +kernel
theorem dX4_mean_22 : decode cX4_mean 22 = .ok (.ldc 208, 2) := by decide +kernel
theorem dX4_mean_24 : decode cX4_mean 24 = .ok (.invokespecial 91, 3) := by decide +kernel
theorem dX4_mean_27 : decode cX4_mean 27 = .ok (.athrow, 1) := by decide +kernel
theorem dX4_mean_28 : decode cX4_mean 28 = .ok (.aload_n 0, 1) := by decide +kernel
theorem dX4_mean_29 : decode cX4_mean 29 = .ok (.iload_n 1, 1) := by decide +kernel
theorem dX4_mean_30 : decode cX4_mean 30 = .ok (.invokevirtual 210, 3) := by decide +kernel
theorem dX4_mean_33 : decode cX4_mean 33 = .ok (.ireturn, 1) := by decide +kernel
set_option maxRecDepth 20000 in
theorem ggX4_published_X4_hasPassed : GoodIn wsX4_published wsX4_hasPassed := goodIn_r _ [8, 9, 10, 11, 7, 12, 76, 77, 78, 79, 80, 81, 82, 83, 84, 85] (by decide +kernel) (by decide +kernel)
set_option maxRecDepth 20000 in
theorem gX4_published_X4_hasPassed : GoodIn wsX4_published (wsV RX4 196 RX4 yX4_hasPassed wsX4_hasPassed) := goodIn_app (goodIn_of _ (by decide +kernel)) ggX4_published_X4_hasPassed
set_option maxRecDepth 20000 in
theorem ggX4_published_X4_steeredAnew : GoodIn wsX4_published wsX4_steeredAnew := goodIn_r _ [16, 17, 18, 19, 7, 20, 21, 22, 23, 24, 25, 26, 27, 28, 29, 30, 31, 32, 33, 34, 35, 36, 37, 38, 39, 40, 41, 42, 43, 44, 45, 46, 47, 48, 49, 50, 51, 52, 53, 54, 55, 56, 57, 58, 59, 60, 61, 62, 63, 64, 65, 66, 67, 68, 69, 70, 71, 72, 73, 74, 75, 76, 77, 78, 79, 80, 81, 82, 83, 84, 85, 86, 87, 88, 89, 90, 91, 92, 93, 94, 95, 96, 97, 98, 99, 100] (by decide +kernel) (by decide +kernel)
set_option maxRecDepth 20000 in
theorem gX4_published_X4_steeredAnew : GoodIn wsX4_published (wsV RX4 213 RX4 yX4_steeredAnew wsX4_steeredAnew) := goodIn_app (goodIn_of _ (by decide +kernel)) ggX4_published_X4_steeredAnew
theorem dX4_published_0 : decode cX4_published 0 = .ok (.aload_n 0, 1) := by decide +kernel
theorem dX4_published_1 : decode cX4_published 1 = .ok (.iload_n 1, 1) := by decide +kernel
theorem dX4_published_2 : decode cX4_published 2 = .ok (.invokevirtual 196, 3) := by decide +kernel
theorem dX4_published_5 : decode cX4_published 5 = .ok (.ifCond .ne 13, 3) := by decide +kernel
theorem dX4_published_8 : decode cX4_published 8 = .ok (.new 87, 3) := by decide +kernel
theorem dX4_published_11 : decode cX4_published 11 = .ok (.dup, 1) := by decide +kernel
theorem dX4_published_12 : decode cX4_published 12 = .ok (.ldc 199, 2) := by decide +kernel
theorem dX4_published_14 : decode cX4_published 14 = .ok (.invokespecial 91, 3) := by decide +kernel
theorem dX4_published_17 : decode cX4_published 17 = .ok (.athrow, 1) := by decide +kernel
theorem dX4_published_18 : decode cX4_published 18 = .ok (.iload_n 2, 1) := by decide +kernel
theorem dX4_published_19 : decode cX4_published 19 = .ok (.ifCond .eq 11, 3) := by decide +kernel
theorem dX4_published_22 : decode cX4_published 22 = .ok (.aload_n 0, 1) := by decide +kernel
theorem dX4_published_23 : decode cX4_published 23 = .ok (.iload_n 1, 1) := by decide +kernel
theorem dX4_published_24 : decode cX4_published 24 = .ok (.invokevirtual 213, 3) := by decide +kernel
theorem dX4_published_27 : decode cX4_published 27 = .ok (.goto 9, 3) := by decide +kernel
theorem dX4_published_30 : decode cX4_published 30 = .ok (.aload_n 0, 1) := by decide +kernel
theorem dX4_published_31 : decode cX4_published 31 = .ok (.getfield 37, 3) := by decide +kernel
theorem dX4_published_34 : decode cX4_published 34 = .ok (.iload_n 1, 1) := by decide +kernel
theorem dX4_published_35 : decode cX4_published 35 = .ok (.iaload, 1) := by decide +kernel
theorem dX4_published_36 : decode cX4_published 36 = .ok (.ireturn, 1) := by decide +kernel
set_option maxRecDepth 20000 in
theorem ggX4_events_X0_count : GoodIn wsX4_events wsX0_count := goodIn_r _ [6, 7, 18, 19] (by decide +kernel) (by decide +kernel)
set_option maxRecDepth 20000 in
theorem gX4_events_X0_count : GoodIn wsX4_events (wsV RX4 119 RX0 yX0_count wsX0_count) := goodIn_app (goodIn_of _ (by decide +kernel)) ggX4_events_X0_count
theorem dX4_events_0 : decode cX4_events 0 = .ok (.aload_n 0, 1) := by decide +kernel
theorem dX4_events_1 : decode cX4_events 1 = .ok (.getfield 26, 3) := by decide +kernel
theorem dX4_events_4 : decode cX4_events 4 = .ok (.invokevirtual 119, 3) := by decide +kernel
theorem dX4_events_7 : decode cX4_events 7 = .ok (.ireturn, 1) := by decide +kernel
theorem dX4_isWithin_0 : decode cX4_isWithin 0 = .ok (.iload_n 0, 1) := by decide +kernel
theorem dX4_isWithin_1 : decode cX4_isWithin 1 = .ok (.iload_n 1, 1) := by decide +kernel
theorem dX4_isWithin_2 : decode cX4_isWithin 2 = .ok (.if_icmp .lt 12, 3) := by decide +kernel
theorem dX4_isWithin_5 : decode cX4_isWithin 5 = .ok (.iload_n 0, 1) := by decide +kernel
theorem dX4_isWithin_6 : decode cX4_isWithin 6 = .ok (.iload_n 2, 1) := by decide +kernel
theorem dX4_isWithin_7 : decode cX4_isWithin 7 = .ok (.if_icmp .gt 7, 3) := by decide +kernel
theorem dX4_isWithin_10 : decode cX4_isWithin 10 = .ok (.iconst 1, 1) := by decide +kernel
theorem dX4_isWithin_11 : decode cX4_isWithin 11 = .ok (.goto 4, 3) := by decide +kernel
theorem dX4_isWithin_14 : decode cX4_isWithin 14 = .ok (.iconst 0, 1) := by decide +kernel
theorem dX4_isWithin_15 : decode cX4_isWithin 15 = .ok (.ireturn, 1) := by decide +kernel
theorem dX4_held_0 : decode cX4_held 0 = .ok (.iload_n 1, 1) := by decide +kernel
theorem dX4_held_1 : decode cX4_held 1 = .ok (.ineg, 1) := by decide +kernel
theorem dX4_held_2 : decode cX4_held 2 = .ok (.iload_n 1, 1) := by decide +kernel
theorem dX4_held_3 : decode cX4_held 3 = .ok (.iload_n 0, 1) := by decide +kernel
theorem dX4_held_4 : decode cX4_held 4 = .ok (.invokestatic 185, 3) := by decide +kernel
theorem dX4_held_7 : decode cX4_held 7 = .ok (.invokestatic 190, 3) := by decide +kernel
theorem dX4_held_10 : decode cX4_held 10 = .ok (.ireturn, 1) := by decide +kernel
set_option maxRecDepth 20000 in
theorem ggX4_isAmountOf_X4_isWithin : GoodIn wsX4_isAmountOf wsX4_isWithin := goodIn_r _ [4] (by decide +kernel) (by decide +kernel)
set_option maxRecDepth 20000 in
theorem gX4_isAmountOf_X4_isWithin : GoodIn wsX4_isAmountOf (va_wsS RX4 59 yX4_isWithin wsX4_isWithin) := goodIn_app (goodIn_of _ (by decide +kernel)) ggX4_isAmountOf_X4_isWithin
theorem dX4_isAmountOf_0 : decode cX4_isAmountOf 0 = .ok (.iload_n 0, 1) := by decide +kernel
theorem dX4_isAmountOf_1 : decode cX4_isAmountOf 1 = .ok (.tableswitch 68 0 3 #[31, 42, 51, 60], 31) := by decide +kernel
theorem dX4_isAmountOf_32 : decode cX4_isAmountOf 32 = .ok (.iload_n 1, 1) := by decide +kernel
theorem dX4_isAmountOf_33 : decode cX4_isAmountOf 33 = .ok (.sipush (-500), 3) := by decide +kernel
theorem dX4_isAmountOf_36 : decode cX4_isAmountOf 36 = .ok (.sipush 500, 3) := by decide +kernel
theorem dX4_isAmountOf_39 : decode cX4_isAmountOf 39 = .ok (.invokestatic 59, 3) := by decide +kernel
theorem dX4_isAmountOf_42 : decode cX4_isAmountOf 42 = .ok (.ireturn, 1) := by decide +kernel
theorem dX4_isAmountOf_43 : decode cX4_isAmountOf 43 = .ok (.iload_n 1, 1) := by decide +kernel
theorem dX4_isAmountOf_44 : decode cX4_isAmountOf 44 = .ok (.iconst 0, 1) := by decide +kernel
theorem dX4_isAmountOf_45 : decode cX4_isAmountOf 45 = .ok (.sipush 5000, 3) := by decide +kernel
theorem dX4_isAmountOf_48 : decode cX4_isAmountOf 48 = .ok (.invokestatic 59, 3) := by decide +kernel
theorem dX4_isAmountOf_51 : decode cX4_isAmountOf 51 = .ok (.ireturn, 1) := by decide +kernel
theorem dX4_isAmountOf_52 : decode cX4_isAmountOf 52 = .ok (.iload_n 1, 1) := by decide +kernel
theorem dX4_isAmountOf_53 : decode cX4_isAmountOf 53 = .ok (.bipush (-50), 2) := by decide +kernel
theorem dX4_isAmountOf_55 : decode cX4_isAmountOf 55 = .ok (.bipush 50, 2) := by decide +kernel
theorem dX4_isAmountOf_57 : decode cX4_isAmountOf 57 = .ok (.invokestatic 59, 3) := by decide +kernel
theorem dX4_isAmountOf_60 : decode cX4_isAmountOf 60 = .ok (.ireturn, 1) := by decide +kernel
theorem dX4_isAmountOf_61 : decode cX4_isAmountOf 61 = .ok (.iload_n 1, 1) := by decide +kernel
theorem dX4_isAmountOf_62 : decode cX4_isAmountOf 62 = .ok (.bipush (-3), 2) := by decide +kernel
theorem dX4_isAmountOf_64 : decode cX4_isAmountOf 64 = .ok (.iconst 3, 1) := by decide +kernel
theorem dX4_isAmountOf_65 : decode cX4_isAmountOf 65 = .ok (.invokestatic 59, 3) := by decide +kernel
theorem dX4_isAmountOf_68 : decode cX4_isAmountOf 68 = .ok (.ireturn, 1) := by decide +kernel
theorem dX4_isAmountOf_69 : decode cX4_isAmountOf 69 = .ok (.iconst 0, 1) := by decide +kernel
theorem dX4_isAmountOf_70 : decode cX4_isAmountOf 70 = .ok (.ireturn, 1) := by decide +kernel
set_option maxRecDepth 20000 in
theorem ggX4_hasPassed_X4_isWithin : GoodIn wsX4_hasPassed wsX4_isWithin := goodIn_r _ [5] (by decide +kernel) (by decide +kernel)
set_option maxRecDepth 20000 in
theorem gX4_hasPassed_X4_isWithin : GoodIn wsX4_hasPassed (va_wsS RX4 59 yX4_isWithin wsX4_isWithin) := goodIn_app (goodIn_of _ (by decide +kernel)) ggX4_hasPassed_X4_isWithin
theorem dX4_hasPassed_0 : decode cX4_hasPassed 0 = .ok (.iload_n 1, 1) := by decide +kernel
theorem dX4_hasPassed_1 : decode cX4_hasPassed 1 = .ok (.iconst 1, 1) := by decide +kernel
theorem dX4_hasPassed_2 : decode cX4_hasPassed 2 = .ok (.aload_n 0, 1) := by decide +kernel
theorem dX4_hasPassed_3 : decode cX4_hasPassed 3 = .ok (.getfield 45, 3) := by decide +kernel
theorem dX4_hasPassed_6 : decode cX4_hasPassed 6 = .ok (.invokestatic 59, 3) := by decide +kernel
theorem dX4_hasPassed_9 : decode cX4_hasPassed 9 = .ok (.ireturn, 1) := by decide +kernel
set_option maxRecDepth 20000 in
theorem ggX4_hasMeasured_X4_hasPassed : GoodIn wsX4_hasMeasured wsX4_hasPassed := goodIn_r _ [6, 7, 8, 9, 5, 10, 22, 23, 24, 25, 26, 27, 28, 29, 30, 31] (by decide +kernel) (by decide +kernel)
set_option maxRecDepth 20000 in
theorem gX4_hasMeasured_X4_hasPassed : GoodIn wsX4_hasMeasured (wsV RX4 196 RX4 yX4_hasPassed wsX4_hasPassed) := goodIn_app (goodIn_of _ (by decide +kernel)) ggX4_hasMeasured_X4_hasPassed
set_option maxRecDepth 20000 in
theorem ggX4_hasMeasured_X2_has : GoodIn wsX4_hasMeasured wsX2_has := goodIn_r _ [15, 16, 32, 33, 34, 35, 36, 37, 38, 39, 40] (by decide +kernel) (by decide +kernel)
set_option maxRecDepth 20000 in
theorem gX4_hasMeasured_X2_has : GoodIn wsX4_hasMeasured (wsV RX4 112 RX2 yX2_has wsX2_has) := goodIn_app (goodIn_of _ (by decide +kernel)) ggX4_hasMeasured_X2_has
set_option maxRecDepth 20000 in
theorem ggX4_hasMeasured_X2_isLaidBefore : GoodIn wsX4_hasMeasured wsX2_isLaidBefore := goodIn_r _ [20, 21, 32, 33, 34, 35, 36, 37, 38, 39, 40] (by decide +kernel) (by decide +kernel)
set_option maxRecDepth 20000 in
theorem gX4_hasMeasured_X2_isLaidBefore : GoodIn wsX4_hasMeasured (wsV RX4 222 RX2 yX2_isLaidBefore wsX2_isLaidBefore) := goodIn_app (goodIn_of _ (by decide +kernel)) ggX4_hasMeasured_X2_isLaidBefore
theorem dX4_hasMeasured_0 : decode cX4_hasMeasured 0 = .ok (.aload_n 0, 1) := by decide +kernel
theorem dX4_hasMeasured_1 : decode cX4_hasMeasured 1 = .ok (.iload_n 2, 1) := by decide +kernel
theorem dX4_hasMeasured_2 : decode cX4_hasMeasured 2 = .ok (.invokevirtual 196, 3) := by decide +kernel
theorem dX4_hasMeasured_5 : decode cX4_hasMeasured 5 = .ok (.ifCond .eq 30, 3) := by decide +kernel
theorem dX4_hasMeasured_8 : decode cX4_hasMeasured 8 = .ok (.aload_n 0, 1) := by decide +kernel
theorem dX4_hasMeasured_9 : decode cX4_hasMeasured 9 = .ok (.getfield 19, 3) := by decide +kernel
theorem dX4_hasMeasured_12 : decode cX4_hasMeasured 12 = .ok (.iload_n 1, 1) := by decide +kernel
theorem dX4_hasMeasured_13 : decode cX4_hasMeasured 13 = .ok (.invokevirtual 112, 3) := by decide +kernel
theorem dX4_hasMeasured_16 : decode cX4_hasMeasured 16 = .ok (.ifCond .eq 19, 3) := by decide +kernel
theorem dX4_hasMeasured_19 : decode cX4_hasMeasured 19 = .ok (.aload_n 0, 1) := by decide +kernel
theorem dX4_hasMeasured_20 : decode cX4_hasMeasured 20 = .ok (.getfield 19, 3) := by decide +kernel
theorem dX4_hasMeasured_23 : decode cX4_hasMeasured 23 = .ok (.iload_n 1, 1) := by decide +kernel
theorem dX4_hasMeasured_24 : decode cX4_hasMeasured 24 = .ok (.iload_n 2, 1) := by decide +kernel
theorem dX4_hasMeasured_25 : decode cX4_hasMeasured 25 = .ok (.invokevirtual 222, 3) := by decide +kernel
theorem dX4_hasMeasured_28 : decode cX4_hasMeasured 28 = .ok (.ifCond .eq 7, 3) := by decide +kernel
theorem dX4_hasMeasured_31 : decode cX4_hasMeasured 31 = .ok (.iconst 1, 1) := by decide +kernel
theorem dX4_hasMeasured_32 : decode cX4_hasMeasured 32 = .ok (.goto 4, 3) := by decide +kernel
theorem dX4_hasMeasured_35 : decode cX4_hasMeasured 35 = .ok (.iconst 0, 1) := by decide +kernel
theorem dX4_hasMeasured_36 : decode cX4_hasMeasured 36 = .ok (.ireturn, 1) := by decide +kernel
set_option maxRecDepth 20000 in
theorem ggX4_passOneDay_X0_count : GoodIn wsX4_passOneDay wsX0_count := goodIn_r _ [10, 11, 137, 138] (by decide +kernel) (by decide +kernel)
set_option maxRecDepth 20000 in
theorem gX4_passOneDay_X0_count : GoodIn wsX4_passOneDay (wsV RX4 119 RX0 yX0_count wsX0_count) := goodIn_app (goodIn_of _ (by decide +kernel)) ggX4_passOneDay_X0_count
set_option maxRecDepth 20000 in
theorem ggX4_passOneDay_X0_isNextDue : GoodIn wsX4_passOneDay wsX0_isNextDue := goodIn_r _ [15, 11, 16, 137, 138] (by decide +kernel) (by decide +kernel)
set_option maxRecDepth 20000 in
theorem gX4_passOneDay_X0_isNextDue : GoodIn wsX4_passOneDay (wsV RX4 225 RX0 yX0_isNextDue wsX0_isNextDue) := goodIn_app (goodIn_of _ (by decide +kernel)) ggX4_passOneDay_X0_isNextDue
set_option maxRecDepth 20000 in
theorem ggX4_passOneDay_X0_takeNext : GoodIn wsX4_passOneDay wsX0_takeNext := goodIn_r _ [20, 11, 16, 137, 138] (by decide +kernel) (by decide +kernel)
set_option maxRecDepth 20000 in
theorem gX4_passOneDay_X0_takeNext : GoodIn wsX4_passOneDay (wsV RX4 228 RX0 yX0_takeNext wsX0_takeNext) := goodIn_app (goodIn_of _ (by decide +kernel)) ggX4_passOneDay_X0_takeNext
set_option maxRecDepth 20000 in
theorem ggX4_passOneDay_X4_happen : GoodIn wsX4_passOneDay wsX4_happen := goodIn_r _ [25, 4, 5, 26, 27, 9, 28, 29, 30, 31, 32, 33, 34, 35, 36, 37, 38, 39, 40, 41, 24, 42, 43, 44, 45, 46, 47, 48, 49, 50, 51, 52, 53, 54, 55, 56, 57, 58, 59, 60, 61, 62, 63, 64, 65, 127, 128, 129, 130, 131, 132, 133, 134, 135, 136, 139, 140, 141, 142, 143, 144, 145, 146, 147, 148, 149, 150, 151, 152, 153] (by decide +kernel) (by decide +kernel)
set_option maxRecDepth 20000 in
theorem gX4_passOneDay_X4_happen : GoodIn wsX4_passOneDay (wsV RX4 231 RX4 yX4_happen wsX4_happen) := goodIn_app (goodIn_of _ (by decide +kernel)) ggX4_passOneDay_X4_happen
set_option maxRecDepth 20000 in
theorem ggX4_passOneDay_X1_run : GoodIn wsX4_passOneDay wsX1_run := goodIn_r _ [69, 70, 71, 40, 54, 72, 73, 36, 37, 38, 39, 41, 24, 42, 43, 44, 45, 46, 47, 48, 49, 139, 140, 141, 142, 143, 144] (by decide +kernel) (by decide +kernel)
set_option maxRecDepth 20000 in
theorem gX4_passOneDay_X1_run : GoodIn wsX4_passOneDay (wsV RX4 235 RX1 yX1_run wsX1_run) := goodIn_app (goodIn_of _ (by decide +kernel)) ggX4_passOneDay_X1_run
set_option maxRecDepth 20000 in
theorem ggX4_passOneDay_X2_measureAll : GoodIn wsX4_passOneDay wsX2_measureAll := goodIn_r _ [77, 78, 79, 80, 81, 60, 65, 82, 83, 84, 38, 85, 71, 145, 146, 147, 148, 149, 150, 151, 152, 153, 139, 140, 141, 142, 143, 144] (by decide +kernel) (by decide +kernel)
set_option maxRecDepth 20000 in
theorem gX4_passOneDay_X2_measureAll : GoodIn wsX4_passOneDay (wsV RX4 238 RX2 yX2_measureAll wsX2_measureAll) := goodIn_app (goodIn_of _ (by decide +kernel)) ggX4_passOneDay_X2_measureAll
set_option maxRecDepth 20000 in
theorem ggX4_passOneDay_X4_steered : GoodIn wsX4_passOneDay wsX4_steered := goodIn_r _ [89, 90, 91, 92, 93, 24, 94, 4, 5, 95, 96, 97, 38, 98, 70, 99, 100, 101, 102, 103, 104, 105, 106, 58, 107, 78, 108, 109, 110, 111, 79, 80, 112, 113, 114, 115, 116, 117, 118, 119, 120, 121, 122, 123, 124, 81, 125, 126, 41, 42, 43, 44, 45, 46, 47, 48, 49, 127, 128, 129, 130, 131, 132, 133, 134, 135, 136, 139, 140, 141, 142, 143, 144, 145, 146, 147, 148, 149, 150, 151, 152, 153] (by decide +kernel) (by decide +kernel)
set_option maxRecDepth 20000 in
theorem gX4_passOneDay_X4_steered : GoodIn wsX4_passOneDay (wsV RX4 242 RX4 yX4_steered wsX4_steered) := goodIn_app (goodIn_of _ (by decide +kernel)) ggX4_passOneDay_X4_steered
theorem dX4_passOneDay_0 : decode cX4_passOneDay 0 = .ok (.aload_n 0, 1) := by decide +kernel
theorem dX4_passOneDay_1 : decode cX4_passOneDay 1 = .ok (.getfield 37, 3) := by decide +kernel
theorem dX4_passOneDay_4 : decode cX4_passOneDay 4 = .ok (.aload_n 0, 1) := by decide +kernel
theorem dX4_passOneDay_5 : decode cX4_passOneDay 5 = .ok (.getfield 45, 3) := by decide +kernel
theorem dX4_passOneDay_8 : decode cX4_passOneDay 8 = .ok (.iaload, 1) := by decide +kernel
theorem dX4_passOneDay_9 : decode cX4_passOneDay 9 = .ok (.istore_n 1, 1) := by decide +kernel
theorem dX4_passOneDay_10 : decode cX4_passOneDay 10 = .ok (.aload_n 0, 1) := by decide +kernel
theorem dX4_passOneDay_11 : decode cX4_passOneDay 11 = .ok (.dup, 1) := by decide +kernel
theorem dX4_passOneDay_12 : decode cX4_passOneDay 12 = .ok (.getfield 45, 3) := by decide +kernel
theorem dX4_passOneDay_15 : decode cX4_passOneDay 15 = .ok (.iconst 1, 1) := by decide +kernel
theorem dX4_passOneDay_16 : decode cX4_passOneDay 16 = .ok (.iadd, 1) := by decide +kernel
theorem dX4_passOneDay_17 : decode cX4_passOneDay 17 = .ok (.putfield 45, 3) := by decide +kernel
theorem dX4_passOneDay_20 : decode cX4_passOneDay 20 = .ok (.aload_n 0, 1) := by decide +kernel
theorem dX4_passOneDay_21 : decode cX4_passOneDay 21 = .ok (.getfield 26, 3) := by decide +kernel
theorem dX4_passOneDay_24 : decode cX4_passOneDay 24 = .ok (.invokevirtual 119, 3) := by decide +kernel
theorem dX4_passOneDay_27 : decode cX4_passOneDay 27 = .ok (.istore_n 2, 1) := by decide +kernel
theorem dX4_passOneDay_28 : decode cX4_passOneDay 28 = .ok (.iload_n 2, 1) := by decide +kernel
theorem dX4_passOneDay_29 : decode cX4_passOneDay 29 = .ok (.ifCond .le 34, 3) := by decide +kernel
theorem dX4_passOneDay_32 : decode cX4_passOneDay 32 = .ok (.aload_n 0, 1) := by decide +kernel
theorem dX4_passOneDay_33 : decode cX4_passOneDay 33 = .ok (.getfield 26, 3) := by decide +kernel
theorem dX4_passOneDay_36 : decode cX4_passOneDay 36 = .ok (.aload_n 0, 1) := by decide +kernel
theorem dX4_passOneDay_37 : decode cX4_passOneDay 37 = .ok (.getfield 45, 3) := by decide +kernel
theorem dX4_passOneDay_40 : decode cX4_passOneDay 40 = .ok (.invokevirtual 225, 3) := by decide +kernel
theorem dX4_passOneDay_43 : decode cX4_passOneDay 43 = .ok (.ifCond .eq 20, 3) := by decide +kernel
theorem dX4_passOneDay_46 : decode cX4_passOneDay 46 = .ok (.aload_n 0, 1) := by decide +kernel
theorem dX4_passOneDay_47 : decode cX4_passOneDay 47 = .ok (.aload_n 0, 1) := by decide +kernel
theorem dX4_passOneDay_48 : decode cX4_passOneDay 48 = .ok (.getfield 26, 3) := by decide +kernel
theorem dX4_passOneDay_51 : decode cX4_passOneDay 51 = .ok (.invokevirtual 228, 3) := by decide +kernel
theorem dX4_passOneDay_54 : decode cX4_passOneDay 54 = .ok (.invokevirtual 231, 3) := by decide +kernel
theorem dX4_passOneDay_57 : decode cX4_passOneDay 57 = .ok (.iinc 2 (-1), 3) := by decide +kernel
theorem dX4_passOneDay_60 : decode cX4_passOneDay 60 = .ok (.goto (-32), 3) := by decide +kernel
theorem dX4_passOneDay_63 : decode cX4_passOneDay 63 = .ok (.aload_n 0, 1) := by decide +kernel
theorem dX4_passOneDay_64 : decode cX4_passOneDay 64 = .ok (.getfield 10, 3) := by decide +kernel
theorem dX4_passOneDay_67 : decode cX4_passOneDay 67 = .ok (.aload_n 0, 1) := by decide +kernel
theorem dX4_passOneDay_68 : decode cX4_passOneDay 68 = .ok (.getfield 45, 3) := by decide +kernel
theorem dX4_passOneDay_71 : decode cX4_passOneDay 71 = .ok (.invokevirtual 235, 3) := by decide +kernel
theorem dX4_passOneDay_74 : decode cX4_passOneDay 74 = .ok (.aload_n 0, 1) := by decide +kernel
theorem dX4_passOneDay_75 : decode cX4_passOneDay 75 = .ok (.getfield 19, 3) := by decide +kernel
theorem dX4_passOneDay_78 : decode cX4_passOneDay 78 = .ok (.aload_n 0, 1) := by decide +kernel
theorem dX4_passOneDay_79 : decode cX4_passOneDay 79 = .ok (.getfield 10, 3) := by decide +kernel
theorem dX4_passOneDay_82 : decode cX4_passOneDay 82 = .ok (.aload_n 0, 1) := by decide +kernel
theorem dX4_passOneDay_83 : decode cX4_passOneDay 83 = .ok (.getfield 45, 3) := by decide +kernel
theorem dX4_passOneDay_86 : decode cX4_passOneDay 86 = .ok (.invokevirtual 238, 3) := by decide +kernel
theorem dX4_passOneDay_89 : decode cX4_passOneDay 89 = .ok (.aload_n 0, 1) := by decide +kernel
theorem dX4_passOneDay_90 : decode cX4_passOneDay 90 = .ok (.getfield 37, 3) := by decide +kernel
theorem dX4_passOneDay_93 : decode cX4_passOneDay 93 = .ok (.aload_n 0, 1) := by decide +kernel
theorem dX4_passOneDay_94 : decode cX4_passOneDay 94 = .ok (.getfield 45, 3) := by decide +kernel
theorem dX4_passOneDay_97 : decode cX4_passOneDay 97 = .ok (.aload_n 0, 1) := by decide +kernel
theorem dX4_passOneDay_98 : decode cX4_passOneDay 98 = .ok (.iload_n 1, 1) := by decide +kernel
theorem dX4_passOneDay_99 : decode cX4_passOneDay 99 = .ok (.aload_n 0, 1) := by decide +kernel
theorem dX4_passOneDay_100 : decode cX4_passOneDay 100 = .ok (.getfield 45, 3) := by decide +kernel
theorem dX4_passOneDay_103 : decode cX4_passOneDay 103 = .ok (.invokevirtual 242, 3) := by decide +kernel
theorem dX4_passOneDay_106 : decode cX4_passOneDay 106 = .ok (.iastore, 1) := by decide +kernel
theorem dX4_passOneDay_107 : decode cX4_passOneDay 107 = .ok (.return_, 1) := by decide +kernel
set_option maxRecDepth 20000 in
theorem ggX4_happen_X0_numberOf : GoodIn wsX4_happen wsX0_numberOf := goodIn_r _ [6] (by decide +kernel) (by decide +kernel)
set_option maxRecDepth 20000 in
theorem gX4_happen_X0_numberOf : GoodIn wsX4_happen (va_wsS RX4 245 yX0_numberOf wsX0_numberOf) := goodIn_app (goodIn_of _ (by decide +kernel)) ggX4_happen_X0_numberOf
set_option maxRecDepth 20000 in
theorem ggX4_happen_X0_amountOf : GoodIn wsX4_happen wsX0_amountOf := goodIn_r _ [9] (by decide +kernel) (by decide +kernel)
set_option maxRecDepth 20000 in
theorem gX4_happen_X0_amountOf : GoodIn wsX4_happen (va_wsS RX4 248 yX0_amountOf wsX0_amountOf) := goodIn_app (goodIn_of _ (by decide +kernel)) ggX4_happen_X0_amountOf
set_option maxRecDepth 20000 in
theorem ggX4_happen_X0_kindOf : GoodIn wsX4_happen wsX0_kindOf := goodIn_r _ [12] (by decide +kernel) (by decide +kernel)
set_option maxRecDepth 20000 in
theorem gX4_happen_X0_kindOf : GoodIn wsX4_happen (va_wsS RX4 251 yX0_kindOf wsX0_kindOf) := goodIn_app (goodIn_of _ (by decide +kernel)) ggX4_happen_X0_kindOf
set_option maxRecDepth 20000 in
theorem ggX4_happen_X1_addToRate : GoodIn wsX4_happen wsX1_addToRate := goodIn_r _ [17, 18, 19, 20, 21, 22, 23, 24, 25, 26, 27, 28, 55, 56, 57, 58, 59, 60] (by decide +kernel) (by decide +kernel)
set_option maxRecDepth 20000 in
theorem gX4_happen_X1_addToRate : GoodIn wsX4_happen (wsV RX4 254 RX1 yX1_addToRate wsX1_addToRate) := goodIn_app (goodIn_of _ (by decide +kernel)) ggX4_happen_X1_addToRate
set_option maxRecDepth 20000 in
theorem ggX4_happen_X1_setHeight : GoodIn wsX4_happen wsX1_setHeight := goodIn_r _ [32, 33, 55, 56, 57, 58, 59, 60] (by decide +kernel) (by decide +kernel)
set_option maxRecDepth 20000 in
theorem gX4_happen_X1_setHeight : GoodIn wsX4_happen (wsV RX4 258 RX1 yX1_setHeight wsX1_setHeight) := goodIn_app (goodIn_of _ (by decide +kernel)) ggX4_happen_X1_setHeight
set_option maxRecDepth 20000 in
theorem ggX4_happen_X2_setAsymmetry : GoodIn wsX4_happen wsX2_setAsymmetry := goodIn_r _ [38, 39, 61, 62, 63, 64, 65, 66, 67, 68, 69] (by decide +kernel) (by decide +kernel)
set_option maxRecDepth 20000 in
theorem gX4_happen_X2_setAsymmetry : GoodIn wsX4_happen (wsV RX4 261 RX2 yX2_setAsymmetry wsX2_setAsymmetry) := goodIn_app (goodIn_of _ (by decide +kernel)) ggX4_happen_X2_setAsymmetry
set_option maxRecDepth 20000 in
theorem ggX4_happen_X2_addCycles : GoodIn wsX4_happen wsX2_addCycles := goodIn_r _ [43, 44, 61, 62, 63, 64, 65, 66, 67, 68, 69] (by decide +kernel) (by decide +kernel)
set_option maxRecDepth 20000 in
theorem gX4_happen_X2_addCycles : GoodIn wsX4_happen (wsV RX4 264 RX2 yX2_addCycles wsX2_addCycles) := goodIn_app (goodIn_of _ (by decide +kernel)) ggX4_happen_X2_addCycles
theorem dX4_happen_0 : decode cX4_happen 0 = .ok (.iload_n 1, 1) := by decide +kernel
theorem dX4_happen_1 : decode cX4_happen 1 = .ok (.invokestatic 245, 3) := by decide +kernel
theorem dX4_happen_4 : decode cX4_happen 4 = .ok (.istore_n 2, 1) := by decide +kernel
theorem dX4_happen_5 : decode cX4_happen 5 = .ok (.iload_n 1, 1) := by decide +kernel
theorem dX4_happen_6 : decode cX4_happen 6 = .ok (.invokestatic 248, 3) := by decide +kernel
theorem dX4_happen_9 : decode cX4_happen 9 = .ok (.istore_n 3, 1) := by decide +kernel
theorem dX4_happen_10 : decode cX4_happen 10 = .ok (.iload_n 1, 1) := by decide +kernel
theorem dX4_happen_11 : decode cX4_happen 11 = .ok (.invokestatic 251, 3) := by decide +kernel
theorem dX4_happen_14 : decode cX4_happen 14 = .ok (.tableswitch 62 0 2 #[26, 38, 50], 26) := by decide +kernel
theorem dX4_happen_40 : decode cX4_happen 40 = .ok (.aload_n 0, 1) := by decide +kernel
theorem dX4_happen_41 : decode cX4_happen 41 = .ok (.getfield 10, 3) := by decide +kernel
theorem dX4_happen_44 : decode cX4_happen 44 = .ok (.iload_n 2, 1) := by decide +kernel
theorem dX4_happen_45 : decode cX4_happen 45 = .ok (.iload_n 3, 1) := by decide +kernel
theorem dX4_happen_46 : decode cX4_happen 46 = .ok (.invokevirtual 254, 3) := by decide +kernel
theorem dX4_happen_49 : decode cX4_happen 49 = .ok (.goto 36, 3) := by decide +kernel
theorem dX4_happen_52 : decode cX4_happen 52 = .ok (.aload_n 0, 1) := by decide +kernel
theorem dX4_happen_53 : decode cX4_happen 53 = .ok (.getfield 10, 3) := by decide +kernel
theorem dX4_happen_56 : decode cX4_happen 56 = .ok (.iload_n 2, 1) := by decide +kernel
theorem dX4_happen_57 : decode cX4_happen 57 = .ok (.iload_n 3, 1) := by decide +kernel
theorem dX4_happen_58 : decode cX4_happen 58 = .ok (.invokevirtual 258, 3) := by decide +kernel
theorem dX4_happen_61 : decode cX4_happen 61 = .ok (.goto 24, 3) := by decide +kernel
theorem dX4_happen_64 : decode cX4_happen 64 = .ok (.aload_n 0, 1) := by decide +kernel
theorem dX4_happen_65 : decode cX4_happen 65 = .ok (.getfield 19, 3) := by decide +kernel
theorem dX4_happen_68 : decode cX4_happen 68 = .ok (.iload_n 2, 1) := by decide +kernel
theorem dX4_happen_69 : decode cX4_happen 69 = .ok (.iload_n 3, 1) := by decide +kernel
theorem dX4_happen_70 : decode cX4_happen 70 = .ok (.invokevirtual 261, 3) := by decide +kernel
theorem dX4_happen_73 : decode cX4_happen 73 = .ok (.goto 12, 3) := by decide +kernel
theorem dX4_happen_76 : decode cX4_happen 76 = .ok (.aload_n 0, 1) := by decide +kernel
theorem dX4_happen_77 : decode cX4_happen 77 = .ok (.getfield 19, 3) := by decide +kernel
theorem dX4_happen_80 : decode cX4_happen 80 = .ok (.iload_n 2, 1) := by decide +kernel
theorem dX4_happen_81 : decode cX4_happen 81 = .ok (.iload_n 3, 1) := by decide +kernel
theorem dX4_happen_82 : decode cX4_happen 82 = .ok (.invokevirtual 264, 3) := by decide +kernel
theorem dX4_happen_85 : decode cX4_happen 85 = .ok (.return_, 1) := by decide +kernel
theorem dX4_housesFor_0 : decode cX4_housesFor 0 = .ok (.iconst 0, 1) := by decide +kernel
theorem dX4_housesFor_1 : decode cX4_housesFor 1 = .ok (.istore_n 1, 1) := by decide +kernel
theorem dX4_housesFor_2 : decode cX4_housesFor 2 = .ok (.iconst 0, 1) := by decide +kernel
theorem dX4_housesFor_3 : decode cX4_housesFor 3 = .ok (.istore_n 2, 1) := by decide +kernel
theorem dX4_housesFor_4 : decode cX4_housesFor 4 = .ok (.iload_n 2, 1) := by decide +kernel
theorem dX4_housesFor_5 : decode cX4_housesFor 5 = .ok (.bipush 7, 2) := by decide +kernel
theorem dX4_housesFor_7 : decode cX4_housesFor 7 = .ok (.if_icmp .ge 21, 3) := by decide +kernel
theorem dX4_housesFor_10 : decode cX4_housesFor 10 = .ok (.aload_n 0, 1) := by decide +kernel
theorem dX4_housesFor_11 : decode cX4_housesFor 11 = .ok (.getfield 41, 3) := by decide +kernel
theorem dX4_housesFor_14 : decode cX4_housesFor 14 = .ok (.iload_n 2, 1) := by decide +kernel
theorem dX4_housesFor_15 : decode cX4_housesFor 15 = .ok (.baload, 1) := by decide +kernel
theorem dX4_housesFor_16 : decode cX4_housesFor 16 = .ok (.ifCond .eq 6, 3) := by decide +kernel
theorem dX4_housesFor_19 : decode cX4_housesFor 19 = .ok (.iinc 1 1, 3) := by decide +kernel
theorem dX4_housesFor_22 : decode cX4_housesFor 22 = .ok (.iinc 2 1, 3) := by decide +kernel
theorem dX4_housesFor_25 : decode cX4_housesFor 25 = .ok (.goto (-21), 3) := by decide +kernel
theorem dX4_housesFor_28 : decode cX4_housesFor 28 = .ok (.iload_n 1, 1) := by decide +kernel
theorem dX4_housesFor_29 : decode cX4_housesFor 29 = .ok (.ireturn, 1) := by decide +kernel
set_option maxRecDepth 20000 in
theorem ggX4_openRings_X3_gather : GoodIn wsX4_openRings wsX3_gather := goodIn_r _ [8, 9, 10, 11, 12, 13, 14, 15, 16, 17, 18, 19, 20, 21, 22, 23, 24, 7, 25, 26, 27, 28, 29, 30, 31, 32, 33, 34, 35, 36, 37, 38, 39, 40, 41, 42, 43, 44, 45, 46, 47, 48, 49, 50, 51, 52, 53, 54, 55, 56, 57, 58, 59, 60, 79, 80, 81, 82, 83, 84, 85, 86, 87, 88, 89, 90, 91, 92, 93, 94, 95, 96, 97, 98, 99] (by decide +kernel) (by decide +kernel)
set_option maxRecDepth 20000 in
theorem gX4_openRings_X3_gather : GoodIn wsX4_openRings (wsV RX4 201 RX3 yX3_gather wsX3_gather) := goodIn_app (goodIn_of _ (by decide +kernel)) ggX4_openRings_X3_gather
set_option maxRecDepth 20000 in
theorem ggX4_openRings_X3_countOpen : GoodIn wsX4_openRings wsX3_countOpen := goodIn_r _ [64, 9, 45, 65, 66, 67, 68, 79, 80, 81, 82, 83, 84, 85, 86, 87, 88, 89, 90] (by decide +kernel) (by decide +kernel)
set_option maxRecDepth 20000 in
theorem gX4_openRings_X3_countOpen : GoodIn wsX4_openRings (wsV RX4 267 RX3 yX3_countOpen wsX3_countOpen) := goodIn_app (goodIn_of _ (by decide +kernel)) ggX4_openRings_X3_countOpen
theorem dX4_openRings_0 : decode cX4_openRings 0 = .ok (.aload_n 0, 1) := by decide +kernel
theorem dX4_openRings_1 : decode cX4_openRings 1 = .ok (.getfield 33, 3) := by decide +kernel
theorem dX4_openRings_4 : decode cX4_openRings 4 = .ok (.aload_n 0, 1) := by decide +kernel
theorem dX4_openRings_5 : decode cX4_openRings 5 = .ok (.getfield 19, 3) := by decide +kernel
theorem dX4_openRings_8 : decode cX4_openRings 8 = .ok (.iload_n 1, 1) := by decide +kernel
theorem dX4_openRings_9 : decode cX4_openRings 9 = .ok (.invokevirtual 201, 3) := by decide +kernel
theorem dX4_openRings_12 : decode cX4_openRings 12 = .ok (.aload_n 0, 1) := by decide +kernel
theorem dX4_openRings_13 : decode cX4_openRings 13 = .ok (.getfield 33, 3) := by decide +kernel
theorem dX4_openRings_16 : decode cX4_openRings 16 = .ok (.aload_n 0, 1) := by decide +kernel
theorem dX4_openRings_17 : decode cX4_openRings 17 = .ok (.getfield 49, 3) := by decide +kernel
theorem dX4_openRings_20 : decode cX4_openRings 20 = .ok (.invokevirtual 267, 3) := by decide +kernel
theorem dX4_openRings_23 : decode cX4_openRings 23 = .ok (.ireturn, 1) := by decide +kernel
set_option maxRecDepth 20000 in
theorem ggX4_meanOrZero_X1_count : GoodIn wsX4_meanOrZero wsX1_count := goodIn_r _ [7, 8, 51, 52, 53, 54, 55, 56] (by decide +kernel) (by decide +kernel)
set_option maxRecDepth 20000 in
theorem gX4_meanOrZero_X1_count : GoodIn wsX4_meanOrZero (wsV RX4 70 RX1 yX1_count wsX1_count) := goodIn_app (goodIn_of _ (by decide +kernel)) ggX4_meanOrZero_X1_count
set_option maxRecDepth 20000 in
theorem ggX4_meanOrZero_X1_weightOf : GoodIn wsX4_meanOrZero wsX1_weightOf := goodIn_r _ [12, 13, 51, 52, 53, 54, 55, 56] (by decide +kernel) (by decide +kernel)
set_option maxRecDepth 20000 in
theorem gX4_meanOrZero_X1_weightOf : GoodIn wsX4_meanOrZero (wsV RX4 94 RX1 yX1_weightOf wsX1_weightOf) := goodIn_app (goodIn_of _ (by decide +kernel)) ggX4_meanOrZero_X1_weightOf
set_option maxRecDepth 20000 in
theorem ggX4_meanOrZero_X2_count : GoodIn wsX4_meanOrZero wsX2_count := goodIn_r _ [18, 19, 57, 58, 59, 60, 61, 62, 63, 64, 65] (by decide +kernel) (by decide +kernel)
set_option maxRecDepth 20000 in
theorem gX4_meanOrZero_X2_count : GoodIn wsX4_meanOrZero (wsV RX4 104 RX2 yX2_count wsX2_count) := goodIn_app (goodIn_of _ (by decide +kernel)) ggX4_meanOrZero_X2_count
set_option maxRecDepth 20000 in
theorem ggX4_meanOrZero_X2_otherThanZero : GoodIn wsX4_meanOrZero wsX2_otherThanZero := goodIn_r _ [23, 24, 25, 57, 58, 59, 60, 61, 62, 63, 64, 65] (by decide +kernel) (by decide +kernel)
set_option maxRecDepth 20000 in
theorem gX4_meanOrZero_X2_otherThanZero : GoodIn wsX4_meanOrZero (wsV RX4 270 RX2 yX2_otherThanZero wsX2_otherThanZero) := goodIn_app (goodIn_of _ (by decide +kernel)) ggX4_meanOrZero_X2_otherThanZero
set_option maxRecDepth 20000 in
theorem ggX4_meanOrZero_X2_isLaidBefore : GoodIn wsX4_meanOrZero wsX2_isLaidBefore := goodIn_r _ [29, 30, 57, 58, 59, 60, 61, 62, 63, 64, 65] (by decide +kernel) (by decide +kernel)
set_option maxRecDepth 20000 in
theorem gX4_meanOrZero_X2_isLaidBefore : GoodIn wsX4_meanOrZero (wsV RX4 222 RX2 yX2_isLaidBefore wsX2_isLaidBefore) := goodIn_app (goodIn_of _ (by decide +kernel)) ggX4_meanOrZero_X2_isLaidBefore
set_option maxRecDepth 20000 in
theorem ggX4_meanOrZero_X2_aheadOfZero : GoodIn wsX4_meanOrZero wsX2_aheadOfZero := goodIn_r _ [34, 24, 35, 36, 37, 17, 38, 39, 40, 57, 58, 59, 60, 61, 62, 63, 64, 65] (by decide +kernel) (by decide +kernel)
set_option maxRecDepth 20000 in
theorem gX4_meanOrZero_X2_aheadOfZero : GoodIn wsX4_meanOrZero (wsV RX4 273 RX2 yX2_aheadOfZero wsX2_aheadOfZero) := goodIn_app (goodIn_of _ (by decide +kernel)) ggX4_meanOrZero_X2_aheadOfZero
theorem dX4_meanOrZero_0 : decode cX4_meanOrZero 0 = .ok (.aload_n 0, 1) := by decide +kernel
theorem dX4_meanOrZero_1 : decode cX4_meanOrZero 1 = .ok (.getfield 10, 3) := by decide +kernel
theorem dX4_meanOrZero_4 : decode cX4_meanOrZero 4 = .ok (.invokevirtual 70, 3) := by decide +kernel
theorem dX4_meanOrZero_7 : decode cX4_meanOrZero 7 = .ok (.ifCond .ne 5, 3) := by decide +kernel
theorem dX4_meanOrZero_10 : decode cX4_meanOrZero 10 = .ok (.iconst 0, 1) := by decide +kernel
theorem dX4_meanOrZero_11 : decode cX4_meanOrZero 11 = .ok (.ireturn, 1) := by decide +kernel
theorem dX4_meanOrZero_12 : decode cX4_meanOrZero 12 = .ok (.aload_n 0, 1) := by decide +kernel
theorem dX4_meanOrZero_13 : decode cX4_meanOrZero 13 = .ok (.getfield 10, 3) := by decide +kernel
theorem dX4_meanOrZero_16 : decode cX4_meanOrZero 16 = .ok (.iconst 0, 1) := by decide +kernel
theorem dX4_meanOrZero_17 : decode cX4_meanOrZero 17 = .ok (.invokevirtual 94, 3) := by decide +kernel
theorem dX4_meanOrZero_20 : decode cX4_meanOrZero 20 = .ok (.i2l, 1) := by decide +kernel
theorem dX4_meanOrZero_21 : decode cX4_meanOrZero 21 = .ok (.lstore_n 2, 1) := by decide +kernel
theorem dX4_meanOrZero_22 : decode cX4_meanOrZero 22 = .ok (.lconst 0, 1) := by decide +kernel
theorem dX4_meanOrZero_23 : decode cX4_meanOrZero 23 = .ok (.lstore 4, 2) := by decide +kernel
theorem dX4_meanOrZero_25 : decode cX4_meanOrZero 25 = .ok (.iconst 1, 1) := by decide +kernel
theorem dX4_meanOrZero_26 : decode cX4_meanOrZero 26 = .ok (.istore 6, 2) := by decide +kernel
theorem dX4_meanOrZero_28 : decode cX4_meanOrZero 28 = .ok (.iconst 0, 1) := by decide +kernel
theorem dX4_meanOrZero_29 : decode cX4_meanOrZero 29 = .ok (.istore 7, 2) := by decide +kernel
theorem dX4_meanOrZero_31 : decode cX4_meanOrZero 31 = .ok (.iload 7, 2) := by decide +kernel
theorem dX4_meanOrZero_33 : decode cX4_meanOrZero 33 = .ok (.aload_n 0, 1) := by decide +kernel
theorem dX4_meanOrZero_34 : decode cX4_meanOrZero 34 = .ok (.getfield 19, 3) := by decide +kernel
theorem dX4_meanOrZero_37 : decode cX4_meanOrZero 37 = .ok (.invokevirtual 104, 3) := by decide +kernel
theorem dX4_meanOrZero_40 : decode cX4_meanOrZero 40 = .ok (.if_icmp .ge 98, 3) := by decide +kernel
theorem dX4_meanOrZero_43 : decode cX4_meanOrZero 43 = .ok (.aload_n 0, 1) := by decide +kernel
theorem dX4_meanOrZero_44 : decode cX4_meanOrZero 44 = .ok (.getfield 19, 3) := by decide +kernel
theorem dX4_meanOrZero_47 : decode cX4_meanOrZero 47 = .ok (.iload 7, 2) := by decide +kernel
theorem dX4_meanOrZero_49 : decode cX4_meanOrZero 49 = .ok (.invokevirtual 270, 3) := by decide +kernel
theorem dX4_meanOrZero_52 : decode cX4_meanOrZero 52 = .ok (.istore 8, 2) := by decide +kernel
theorem dX4_meanOrZero_54 : decode cX4_meanOrZero 54 = .ok (.iload 8, 2) := by decide +kernel
theorem dX4_meanOrZero_56 : decode cX4_meanOrZero 56 = .ok (.iconst (-1), 1) := by decide +kernel
theorem dX4_meanOrZero_57 : decode cX4_meanOrZero 57 = .ok (.if_icmp .eq 75, 3) := by decide +kernel
theorem dX4_meanOrZero_60 : decode cX4_meanOrZero 60 = .ok (.iload 6, 2) := by decide +kernel
theorem dX4_meanOrZero_62 : decode cX4_meanOrZero 62 = .ok (.iload 8, 2) := by decide +kernel
theorem dX4_meanOrZero_64 : decode cX4_meanOrZero 64 = .ok (.ishr, 1) := by decide +kernel
theorem dX4_meanOrZero_65 : decode cX4_meanOrZero 65 = .ok (.iconst 1, 1) := by decide +kernel
theorem dX4_meanOrZero_66 : decode cX4_meanOrZero 66 = .ok (.iand, 1) := by decide +kernel
theorem dX4_meanOrZero_67 : decode cX4_meanOrZero 67 = .ok (.ifCond .ne 65, 3) := by decide +kernel
theorem dX4_meanOrZero_70 : decode cX4_meanOrZero 70 = .ok (.aload_n 0, 1) := by decide +kernel
theorem dX4_meanOrZero_71 : decode cX4_meanOrZero 71 = .ok (.getfield 19, 3) := by decide +kernel
theorem dX4_meanOrZero_74 : decode cX4_meanOrZero 74 = .ok (.iload 7, 2) := by decide +kernel
theorem dX4_meanOrZero_76 : decode cX4_meanOrZero 76 = .ok (.iload_n 1, 1) := by decide +kernel
theorem dX4_meanOrZero_77 : decode cX4_meanOrZero 77 = .ok (.invokevirtual 222, 3) := by decide +kernel
theorem dX4_meanOrZero_80 : decode cX4_meanOrZero 80 = .ok (.ifCond .eq 52, 3) := by decide +kernel
theorem dX4_meanOrZero_83 : decode cX4_meanOrZero 83 = .ok (.iload 6, 2) := by decide +kernel
theorem dX4_meanOrZero_85 : decode cX4_meanOrZero 85 = .ok (.iconst 1, 1) := by decide +kernel
theorem dX4_meanOrZero_86 : decode cX4_meanOrZero 86 = .ok (.iload 8, 2) := by decide +kernel
theorem dX4_meanOrZero_88 : decode cX4_meanOrZero 88 = .ok (.ishl, 1) := by decide +kernel
theorem dX4_meanOrZero_89 : decode cX4_meanOrZero 89 = .ok (.ior, 1) := by decide +kernel
theorem dX4_meanOrZero_90 : decode cX4_meanOrZero 90 = .ok (.istore 6, 2) := by decide +kernel
theorem dX4_meanOrZero_92 : decode cX4_meanOrZero 92 = .ok (.lload_n 2, 1) := by decide +kernel
theorem dX4_meanOrZero_93 : decode cX4_meanOrZero 93 = .ok (.aload_n 0, 1) := by decide +kernel
theorem dX4_meanOrZero_94 : decode cX4_meanOrZero 94 = .ok (.getfield 10, 3) := by decide +kernel
theorem dX4_meanOrZero_97 : decode cX4_meanOrZero 97 = .ok (.iload 8, 2) := by decide +kernel
theorem dX4_meanOrZero_99 : decode cX4_meanOrZero 99 = .ok (.invokevirtual 94, 3) := by decide +kernel
theorem dX4_meanOrZero_102 : decode cX4_meanOrZero 102 = .ok (.i2l, 1) := by decide +kernel
theorem dX4_meanOrZero_103 : decode cX4_meanOrZero 103 = .ok (.ladd, 1) := by decide +kernel
theorem dX4_meanOrZero_104 : decode cX4_meanOrZero 104 = .ok (.lstore_n 2, 1) := by decide +kernel
theorem dX4_meanOrZero_105 : decode cX4_meanOrZero 105 = .ok (.lload 4, 2) := by decide +kernel
theorem dX4_meanOrZero_107 : decode cX4_meanOrZero 107 = .ok (.aload_n 0, 1) := by decide +kernel
theorem dX4_meanOrZero_108 : decode cX4_meanOrZero 108 = .ok (.getfield 10, 3) := by decide +kernel
theorem dX4_meanOrZero_111 : decode cX4_meanOrZero 111 = .ok (.iload 8, 2) := by decide +kernel
theorem dX4_meanOrZero_113 : decode cX4_meanOrZero 113 = .ok (.invokevirtual 94, 3) := by decide +kernel
theorem dX4_meanOrZero_116 : decode cX4_meanOrZero 116 = .ok (.i2l, 1) := by decide +kernel
theorem dX4_meanOrZero_117 : decode cX4_meanOrZero 117 = .ok (.aload_n 0, 1) := by decide +kernel
theorem dX4_meanOrZero_118 : decode cX4_meanOrZero 118 = .ok (.getfield 19, 3) := by decide +kernel
theorem dX4_meanOrZero_121 : decode cX4_meanOrZero 121 = .ok (.iload 7, 2) := by decide +kernel
theorem dX4_meanOrZero_123 : decode cX4_meanOrZero 123 = .ok (.iload_n 1, 1) := by decide +kernel
theorem dX4_meanOrZero_124 : decode cX4_meanOrZero 124 = .ok (.invokevirtual 273, 3) := by decide +kernel
theorem dX4_meanOrZero_127 : decode cX4_meanOrZero 127 = .ok (.i2l, 1) := by decide +kernel
theorem dX4_meanOrZero_128 : decode cX4_meanOrZero 128 = .ok (.lmul, 1) := by decide +kernel
theorem dX4_meanOrZero_129 : decode cX4_meanOrZero 129 = .ok (.ladd, 1) := by decide +kernel
theorem dX4_meanOrZero_130 : decode cX4_meanOrZero 130 = .ok (.lstore 4, 2) := by decide +kernel
theorem dX4_meanOrZero_132 : decode cX4_meanOrZero 132 = .ok (.iinc 7 1, 3) := by decide +kernel
theorem dX4_meanOrZero_135 : decode cX4_meanOrZero 135 = .ok (.goto (-104), 3) := by decide +kernel
theorem dX4_meanOrZero_138 : decode cX4_meanOrZero 138 = .ok (.lload_n 2, 1) := by decide +kernel
theorem dX4_meanOrZero_139 : decode cX4_meanOrZero 139 = .ok (.lconst 0, 1) := by decide +kernel
theorem dX4_meanOrZero_140 : decode cX4_meanOrZero 140 = .ok (.lcmp, 1) := by decide +kernel
theorem dX4_meanOrZero_141 : decode cX4_meanOrZero 141 = .ok (.ifCond .ne 7, 3) := by decide +kernel
theorem dX4_meanOrZero_144 : decode cX4_meanOrZero 144 = .ok (.iconst 0, 1) := by decide +kernel
theorem dX4_meanOrZero_145 : decode cX4_meanOrZero 145 = .ok (.goto 8, 3) := by decide +kernel
theorem dX4_meanOrZero_148 : decode cX4_meanOrZero 148 = .ok (.lload 4, 2) := by decide +kernel
theorem dX4_meanOrZero_150 : decode cX4_meanOrZero 150 = .ok (.lload_n 2, 1) := by decide +kernel
theorem dX4_meanOrZero_151 : decode cX4_meanOrZero 151 = .ok (.ldiv, 1) := by decide +kernel
theorem dX4_meanOrZero_152 : decode cX4_meanOrZero 152 = .ok (.l2i, 1) := by decide +kernel
theorem dX4_meanOrZero_153 : decode cX4_meanOrZero 153 = .ok (.ireturn, 1) := by decide +kernel
set_option maxRecDepth 20000 in
theorem ggX4_steered_X4_meanOrZero : GoodIn wsX4_steered wsX4_meanOrZero := goodIn_r _ [6, 7, 8, 9, 10, 11, 12, 13, 14, 15, 16, 17, 18, 19, 20, 21, 22, 23, 24, 25, 26, 27, 28, 29, 30, 31, 32, 33, 34, 35, 36, 37, 38, 39, 40, 41, 42, 43, 44, 45, 46, 57, 58, 59, 60, 61, 62, 63, 64, 65, 66, 67, 68, 69, 70, 71, 72, 73, 74, 75, 76, 77, 78, 79, 80, 81] (by decide +kernel) (by decide +kernel)
set_option maxRecDepth 20000 in
theorem gX4_steered_X4_meanOrZero : GoodIn wsX4_steered (wsV RX4 210 RX4 yX4_meanOrZero wsX4_meanOrZero) := goodIn_app (goodIn_of _ (by decide +kernel)) ggX4_steered_X4_meanOrZero
set_option maxRecDepth 20000 in
theorem ggX4_steered_X4_held : GoodIn wsX4_steered wsX4_held := goodIn_r _ [49, 50, 51, 52, 53, 54, 55, 56] (by decide +kernel) (by decide +kernel)
set_option maxRecDepth 20000 in
theorem gX4_steered_X4_held : GoodIn wsX4_steered (va_wsS RX4 276 yX4_held wsX4_held) := goodIn_app (goodIn_of _ (by decide +kernel)) ggX4_steered_X4_held
theorem dX4_steered_0 : decode cX4_steered 0 = .ok (.iload_n 1, 1) := by decide +kernel
theorem dX4_steered_1 : decode cX4_steered 1 = .ok (.aload_n 0, 1) := by decide +kernel
theorem dX4_steered_2 : decode cX4_steered 2 = .ok (.iload_n 2, 1) := by decide +kernel
theorem dX4_steered_3 : decode cX4_steered 3 = .ok (.invokevirtual 210, 3) := by decide +kernel
theorem dX4_steered_6 : decode cX4_steered 6 = .ok (.iload_n 1, 1) := by decide +kernel
theorem dX4_steered_7 : decode cX4_steered 7 = .ok (.isub, 1) := by decide +kernel
theorem dX4_steered_8 : decode cX4_steered 8 = .ok (.aload_n 0, 1) := by decide +kernel
theorem dX4_steered_9 : decode cX4_steered 9 = .ok (.getfield 52, 3) := by decide +kernel
theorem dX4_steered_12 : decode cX4_steered 12 = .ok (.invokestatic 276, 3) := by decide +kernel
theorem dX4_steered_15 : decode cX4_steered 15 = .ok (.iadd, 1) := by decide +kernel
theorem dX4_steered_16 : decode cX4_steered 16 = .ok (.ireturn, 1) := by decide +kernel
set_option maxRecDepth 20000 in
theorem ggX4_steeredAnew_X4_steered : GoodIn wsX4_steeredAnew wsX4_steered := goodIn_r _ [5, 6, 7, 8, 9, 4, 10, 11, 12, 13, 14, 15, 16, 17, 18, 19, 20, 21, 22, 23, 24, 25, 26, 27, 28, 29, 30, 31, 32, 33, 34, 35, 36, 37, 38, 39, 40, 41, 42, 43, 44, 45, 46, 47, 48, 49, 50, 51, 52, 53, 54, 55, 56, 57, 58, 59, 60, 61, 62, 63, 64, 65, 66, 67, 68, 69, 70, 71, 72, 73, 74, 75, 76, 77, 78, 79, 80, 81, 82, 83, 84, 85] (by decide +kernel) (by decide +kernel)
set_option maxRecDepth 20000 in
theorem gX4_steeredAnew_X4_steered : GoodIn wsX4_steeredAnew (wsV RX4 242 RX4 yX4_steered wsX4_steered) := goodIn_app (goodIn_of _ (by decide +kernel)) ggX4_steeredAnew_X4_steered
theorem dX4_steeredAnew_0 : decode cX4_steeredAnew 0 = .ok (.iconst 0, 1) := by decide +kernel
theorem dX4_steeredAnew_1 : decode cX4_steeredAnew 1 = .ok (.istore_n 2, 1) := by decide +kernel
theorem dX4_steeredAnew_2 : decode cX4_steeredAnew 2 = .ok (.iconst 1, 1) := by decide +kernel
theorem dX4_steeredAnew_3 : decode cX4_steeredAnew 3 = .ok (.istore_n 3, 1) := by decide +kernel
theorem dX4_steeredAnew_4 : decode cX4_steeredAnew 4 = .ok (.iload_n 3, 1) := by decide +kernel
theorem dX4_steeredAnew_5 : decode cX4_steeredAnew 5 = .ok (.iload_n 1, 1) := by decide +kernel
theorem dX4_steeredAnew_6 : decode cX4_steeredAnew 6 = .ok (.if_icmp .gt 16, 3) := by decide +kernel
theorem dX4_steeredAnew_9 : decode cX4_steeredAnew 9 = .ok (.aload_n 0, 1) := by decide +kernel
theorem dX4_steeredAnew_10 : decode cX4_steeredAnew 10 = .ok (.iload_n 2, 1) := by decide +kernel
theorem dX4_steeredAnew_11 : decode cX4_steeredAnew 11 = .ok (.iload_n 3, 1) := by decide +kernel
theorem dX4_steeredAnew_12 : decode cX4_steeredAnew 12 = .ok (.invokevirtual 242, 3) := by decide +kernel
theorem dX4_steeredAnew_15 : decode cX4_steeredAnew 15 = .ok (.istore_n 2, 1) := by decide +kernel
theorem dX4_steeredAnew_16 : decode cX4_steeredAnew 16 = .ok (.iinc 3 1, 3) := by decide +kernel
theorem dX4_steeredAnew_19 : decode cX4_steeredAnew 19 = .ok (.goto (-15), 3) := by decide +kernel
theorem dX4_steeredAnew_22 : decode cX4_steeredAnew 22 = .ok (.iload_n 2, 1) := by decide +kernel
theorem dX4_steeredAnew_23 : decode cX4_steeredAnew 23 = .ok (.ireturn, 1) := by decide +kernel
theorem dJ9_abs_0f7a4_0 : decode cJ9_abs_0f7a4 0 = .ok (.iload_n 0, 1) := by decide +kernel
theorem dJ9_abs_0f7a4_1 : decode cJ9_abs_0f7a4 1 = .ok (.ifCond .ge 8, 3) := by decide +kernel
theorem dJ9_abs_0f7a4_4 : decode cJ9_abs_0f7a4 4 = .ok (.iload_n 0, 1) := by decide +kernel
theorem dJ9_abs_0f7a4_5 : decode cJ9_abs_0f7a4 5 = .ok (.ineg, 1) := by decide +kernel
theorem dJ9_abs_0f7a4_6 : decode cJ9_abs_0f7a4 6 = .ok (.goto 4, 3) := by decide +kernel
theorem dJ9_abs_0f7a4_9 : decode cJ9_abs_0f7a4 9 = .ok (.iload_n 0, 1) := by decide +kernel
theorem dJ9_abs_0f7a4_10 : decode cJ9_abs_0f7a4 10 = .ok (.ireturn, 1) := by decide +kernel
theorem dJ9_max_7cf53_0 : decode cJ9_max_7cf53 0 = .ok (.iload_n 0, 1) := by decide +kernel
theorem dJ9_max_7cf53_1 : decode cJ9_max_7cf53 1 = .ok (.iload_n 1, 1) := by decide +kernel
theorem dJ9_max_7cf53_2 : decode cJ9_max_7cf53 2 = .ok (.if_icmp .lt 7, 3) := by decide +kernel
theorem dJ9_max_7cf53_5 : decode cJ9_max_7cf53 5 = .ok (.iload_n 0, 1) := by decide +kernel
theorem dJ9_max_7cf53_6 : decode cJ9_max_7cf53 6 = .ok (.goto 4, 3) := by decide +kernel
theorem dJ9_max_7cf53_9 : decode cJ9_max_7cf53 9 = .ok (.iload_n 1, 1) := by decide +kernel
theorem dJ9_max_7cf53_10 : decode cJ9_max_7cf53 10 = .ok (.ireturn, 1) := by decide +kernel
theorem dJ9_min_7cf53_0 : decode cJ9_min_7cf53 0 = .ok (.iload_n 0, 1) := by decide +kernel
theorem dJ9_min_7cf53_1 : decode cJ9_min_7cf53 1 = .ok (.iload_n 1, 1) := by decide +kernel
theorem dJ9_min_7cf53_2 : decode cJ9_min_7cf53 2 = .ok (.if_icmp .gt 7, 3) := by decide +kernel
theorem dJ9_min_7cf53_5 : decode cJ9_min_7cf53 5 = .ok (.iload_n 0, 1) := by decide +kernel
theorem dJ9_min_7cf53_6 : decode cJ9_min_7cf53 6 = .ok (.goto 4, 3) := by decide +kernel
theorem dJ9_min_7cf53_9 : decode cJ9_min_7cf53 9 = .ok (.iload_n 1, 1) := by decide +kernel
theorem dJ9_min_7cf53_10 : decode cJ9_min_7cf53 10 = .ok (.ireturn, 1) := by decide +kernel
theorem dL_at_0 : decode cL_at 0 = .ok (.iload_n 1, 1) := by decide +kernel
theorem dL_at_1 : decode cL_at 1 = .ok (.aload_n 0, 1) := by decide +kernel
theorem dL_at_2 : decode cL_at 2 = .ok (.arraylength, 1) := by decide +kernel
theorem dL_at_3 : decode cL_at 3 = .ok (.if_icmp .ge 9, 3) := by decide +kernel
theorem dL_at_6 : decode cL_at 6 = .ok (.aload_n 0, 1) := by decide +kernel
theorem dL_at_7 : decode cL_at 7 = .ok (.iload_n 1, 1) := by decide +kernel
theorem dL_at_8 : decode cL_at 8 = .ok (.iaload, 1) := by decide +kernel
theorem dL_at_9 : decode cL_at 9 = .ok (.goto 12, 3) := by decide +kernel
theorem dL_at_12 : decode cL_at 12 = .ok (.ldc 7, 2) := by decide +kernel
theorem dL_at_14 : decode cL_at 14 = .ok (.iload_n 1, 1) := by decide +kernel
theorem dL_at_15 : decode cL_at 15 = .ok (.iconst 1, 1) := by decide +kernel
theorem dL_at_16 : decode cL_at 16 = .ok (.iadd, 1) := by decide +kernel
theorem dL_at_17 : decode cL_at 17 = .ok (.imul, 1) := by decide +kernel
theorem dL_at_18 : decode cL_at 18 = .ok (.ldc 8, 2) := by decide +kernel
theorem dL_at_20 : decode cL_at 20 = .ok (.iadd, 1) := by decide +kernel
theorem dL_at_21 : decode cL_at 21 = .ok (.ireturn, 1) := by decide +kernel
theorem dL_low_0 : decode cL_low 0 = .ok (.iload_n 0, 1) := by decide +kernel
theorem dL_low_1 : decode cL_low 1 = .ok (.ldc 9, 2) := by decide +kernel
theorem dL_low_3 : decode cL_low 3 = .ok (.iand, 1) := by decide +kernel
theorem dL_low_4 : decode cL_low 4 = .ok (.iload_n 1, 1) := by decide +kernel
theorem dL_low_5 : decode cL_low 5 = .ok (.irem, 1) := by decide +kernel
theorem dL_low_6 : decode cL_low 6 = .ok (.ireturn, 1) := by decide +kernel
set_option maxRecDepth 20000 in
theorem ggL_clock_X4_clock : GoodIn wsL_clock wsX4_clock := goodIn_ca (goodIn_ca (goodIn_r _ [9, 10, 11, 12, 13, 14, 15, 16, 8, 17, 18, 19, 20, 21, 22, 23, 24, 25, 26, 27, 28, 29, 30, 31, 32, 33, 34, 35, 36, 37, 38, 39, 40, 41, 42, 43, 44, 45, 46] (by decide +kernel) (by decide +kernel)) (goodIn_sub (fun _ h => List.mem_cons_of_mem _ (List.mem_append_left _ (List.mem_append_right _ h))) (by decide +kernel))) (goodIn_sub (fun _ h => List.mem_cons_of_mem _ (List.mem_append_right _ h)) (by decide +kernel))
set_option maxRecDepth 20000 in
theorem gL_clock_X4_clock : GoodIn wsL_clock (wsV RL 10 RX4 yX4_clock wsX4_clock) := goodIn_app (goodIn_of _ (by decide +kernel)) ggL_clock_X4_clock
theorem dL_clock_0 : decode cL_clock 0 = .ok (.aload_n 0, 1) := by decide +kernel
theorem dL_clock_1 : decode cL_clock 1 = .ok (.iload_n 1, 1) := by decide +kernel
theorem dL_clock_2 : decode cL_clock 2 = .ok (.iload_n 2, 1) := by decide +kernel
theorem dL_clock_3 : decode cL_clock 3 = .ok (.invokevirtual 10, 3) := by decide +kernel
theorem dL_clock_6 : decode cL_clock 6 = .ok (.ireturn, 1) := by decide +kernel
theorem dL_clock_7 : decode cL_clock 7 = .ok (.astore_n 3, 1) := by decide +kernel
theorem dL_clock_8 : decode cL_clock 8 = .ok (.ldc 18, 2) := by decide +kernel
theorem dL_clock_10 : decode cL_clock 10 = .ok (.ireturn, 1) := by decide +kernel
theorem dL_clock_11 : decode cL_clock 11 = .ok (.astore_n 3, 1) := by decide +kernel
theorem dL_clock_12 : decode cL_clock 12 = .ok (.ldc 21, 2) := by decide +kernel
theorem dL_clock_14 : decode cL_clock 14 = .ok (.ireturn, 1) := by decide +kernel
set_option maxRecDepth 20000 in
theorem ggL_tell_X4_tell : GoodIn wsL_tell wsX4_tell := goodIn_ca (goodIn_ca (goodIn_r _ [9, 10, 11, 12, 13, 14, 15, 16, 17, 18, 19, 20, 21, 22, 8, 23, 24, 25, 26, 27, 28, 29, 30, 31, 32, 33, 34, 35, 36, 37, 38, 39, 40, 41, 42, 43, 44, 45, 46, 47, 48, 49] (by decide +kernel) (by decide +kernel)) (goodIn_sub (fun _ h => List.mem_cons_of_mem _ (List.mem_append_left _ (List.mem_append_right _ h))) (by decide +kernel))) (goodIn_sub (fun _ h => List.mem_cons_of_mem _ (List.mem_append_right _ h)) (by decide +kernel))
set_option maxRecDepth 20000 in
theorem gL_tell_X4_tell : GoodIn wsL_tell (wsV RL 22 RX4 yX4_tell wsX4_tell) := goodIn_app (goodIn_of _ (by decide +kernel)) ggL_tell_X4_tell
theorem dL_tell_0 : decode cL_tell 0 = .ok (.aload_n 0, 1) := by decide +kernel
theorem dL_tell_1 : decode cL_tell 1 = .ok (.iload_n 1, 1) := by decide +kernel
theorem dL_tell_2 : decode cL_tell 2 = .ok (.iload_n 2, 1) := by decide +kernel
theorem dL_tell_3 : decode cL_tell 3 = .ok (.iload_n 3, 1) := by decide +kernel
theorem dL_tell_4 : decode cL_tell 4 = .ok (.invokevirtual 22, 3) := by decide +kernel
theorem dL_tell_7 : decode cL_tell 7 = .ok (.ireturn, 1) := by decide +kernel
theorem dL_tell_8 : decode cL_tell 8 = .ok (.astore 4, 2) := by decide +kernel
theorem dL_tell_10 : decode cL_tell 10 = .ok (.ldc 28, 2) := by decide +kernel
theorem dL_tell_12 : decode cL_tell 12 = .ok (.ireturn, 1) := by decide +kernel
theorem dL_tell_13 : decode cL_tell 13 = .ok (.astore 4, 2) := by decide +kernel
theorem dL_tell_15 : decode cL_tell 15 = .ok (.ldc 18, 2) := by decide +kernel
theorem dL_tell_17 : decode cL_tell 17 = .ok (.ireturn, 1) := by decide +kernel
set_option maxRecDepth 20000 in
theorem ggL_link_X4_link : GoodIn wsL_link wsX4_link := goodIn_ca (goodIn_ca (goodIn_ca (goodIn_r _ [11, 12, 13, 14, 15, 16, 17, 18, 19, 20, 21, 22, 23, 24, 25, 26, 27, 28, 10, 29, 30, 31, 32, 33, 34, 35, 36, 37, 38, 39, 40, 41, 42, 43, 44, 45, 46, 47, 48, 49, 50, 51, 52, 53, 54, 55, 56, 57, 58, 59, 60, 61, 62, 63, 64, 65, 66, 67, 68] (by decide +kernel) (by decide +kernel)) (goodIn_sub (fun _ h => List.mem_cons_of_mem _ (List.mem_append_left _ (List.mem_append_left _ (List.mem_append_right _ h)))) (by decide +kernel))) (goodIn_sub (fun _ h => List.mem_cons_of_mem _ (List.mem_append_left _ (List.mem_append_right _ h))) (by decide +kernel))) (goodIn_sub (fun _ h => List.mem_cons_of_mem _ (List.mem_append_right _ h)) (by decide +kernel))
set_option maxRecDepth 20000 in
theorem gL_link_X4_link : GoodIn wsL_link (wsV RL 29 RX4 yX4_link wsX4_link) := goodIn_app (goodIn_of _ (by decide +kernel)) ggL_link_X4_link
theorem dL_link_0 : decode cL_link 0 = .ok (.aload_n 0, 1) := by decide +kernel
theorem dL_link_1 : decode cL_link 1 = .ok (.iload_n 1, 1) := by decide +kernel
theorem dL_link_2 : decode cL_link 2 = .ok (.iload_n 2, 1) := by decide +kernel
theorem dL_link_3 : decode cL_link 3 = .ok (.iload_n 3, 1) := by decide +kernel
theorem dL_link_4 : decode cL_link 4 = .ok (.invokevirtual 29, 3) := by decide +kernel
theorem dL_link_7 : decode cL_link 7 = .ok (.ireturn, 1) := by decide +kernel
theorem dL_link_8 : decode cL_link 8 = .ok (.astore 4, 2) := by decide +kernel
theorem dL_link_10 : decode cL_link 10 = .ok (.ldc 28, 2) := by decide +kernel
theorem dL_link_12 : decode cL_link 12 = .ok (.ireturn, 1) := by decide +kernel
theorem dL_link_13 : decode cL_link 13 = .ok (.astore 4, 2) := by decide +kernel
theorem dL_link_15 : decode cL_link 15 = .ok (.ldc 18, 2) := by decide +kernel
theorem dL_link_17 : decode cL_link 17 = .ok (.ireturn, 1) := by decide +kernel
theorem dL_link_18 : decode cL_link 18 = .ok (.astore 4, 2) := by decide +kernel
theorem dL_link_20 : decode cL_link 20 = .ok (.ldc 21, 2) := by decide +kernel
theorem dL_link_22 : decode cL_link 22 = .ok (.ireturn, 1) := by decide +kernel
set_option maxRecDepth 20000 in
theorem ggL_event_X4_event : GoodIn wsL_event wsX4_event := goodIn_ca (goodIn_ca (goodIn_ca (goodIn_r _ [11, 12, 13, 14, 15, 16, 17, 18, 19, 20, 21, 22, 23, 10, 24, 25, 26, 27, 28, 29, 30, 31, 32, 33, 34, 35, 36, 37, 38, 39, 40, 41, 42, 43, 44, 45, 46, 47, 48, 49, 50, 51, 52, 53, 54, 55, 56, 57, 58, 59, 60, 61, 62, 63, 64, 65, 66, 67, 68, 69, 70, 71, 72, 73, 74, 75, 76, 77] (by decide +kernel) (by decide +kernel)) (goodIn_sub (fun _ h => List.mem_cons_of_mem _ (List.mem_append_left _ (List.mem_append_left _ (List.mem_append_right _ h)))) (by decide +kernel))) (goodIn_sub (fun _ h => List.mem_cons_of_mem _ (List.mem_append_left _ (List.mem_append_right _ h))) (by decide +kernel))) (goodIn_sub (fun _ h => List.mem_cons_of_mem _ (List.mem_append_right _ h)) (by decide +kernel))
set_option maxRecDepth 20000 in
theorem gL_event_X4_event : GoodIn wsL_event (wsV RL 32 RX4 yX4_event wsX4_event) := goodIn_app (goodIn_of _ (by decide +kernel)) ggL_event_X4_event
theorem dL_event_0 : decode cL_event 0 = .ok (.aload_n 0, 1) := by decide +kernel
theorem dL_event_1 : decode cL_event 1 = .ok (.iload_n 1, 1) := by decide +kernel
theorem dL_event_2 : decode cL_event 2 = .ok (.iload_n 2, 1) := by decide +kernel
theorem dL_event_3 : decode cL_event 3 = .ok (.iload_n 3, 1) := by decide +kernel
theorem dL_event_4 : decode cL_event 4 = .ok (.iload 4, 2) := by decide +kernel
theorem dL_event_6 : decode cL_event 6 = .ok (.invokevirtual 32, 3) := by decide +kernel
theorem dL_event_9 : decode cL_event 9 = .ok (.ireturn, 1) := by decide +kernel
theorem dL_event_10 : decode cL_event 10 = .ok (.astore 5, 2) := by decide +kernel
theorem dL_event_12 : decode cL_event 12 = .ok (.ldc 28, 2) := by decide +kernel
theorem dL_event_14 : decode cL_event 14 = .ok (.ireturn, 1) := by decide +kernel
theorem dL_event_15 : decode cL_event 15 = .ok (.astore 5, 2) := by decide +kernel
theorem dL_event_17 : decode cL_event 17 = .ok (.ldc 18, 2) := by decide +kernel
theorem dL_event_19 : decode cL_event 19 = .ok (.ireturn, 1) := by decide +kernel
theorem dL_event_20 : decode cL_event 20 = .ok (.astore 5, 2) := by decide +kernel
theorem dL_event_22 : decode cL_event 22 = .ok (.ldc 21, 2) := by decide +kernel
theorem dL_event_24 : decode cL_event 24 = .ok (.ireturn, 1) := by decide +kernel
set_option maxRecDepth 20000 in
theorem ggL_calibrate_X4_calibrate : GoodIn wsL_calibrate wsX4_calibrate := goodIn_ca (goodIn_ca (goodIn_ca (goodIn_r _ [11, 12, 13, 14, 15, 16, 17, 18, 19, 20, 21, 22, 23, 24, 25, 26, 10, 27, 28, 29, 30, 31, 32, 33, 34, 35, 36, 37, 38, 39, 40, 41, 42, 43, 44, 45, 46, 47, 48, 49, 50, 51, 52, 53, 54, 55, 56] (by decide +kernel) (by decide +kernel)) (goodIn_sub (fun _ h => List.mem_cons_of_mem _ (List.mem_append_left _ (List.mem_append_left _ (List.mem_append_right _ h)))) (by decide +kernel))) (goodIn_sub (fun _ h => List.mem_cons_of_mem _ (List.mem_append_left _ (List.mem_append_right _ h))) (by decide +kernel))) (goodIn_sub (fun _ h => List.mem_cons_of_mem _ (List.mem_append_right _ h)) (by decide +kernel))
set_option maxRecDepth 20000 in
theorem gL_calibrate_X4_calibrate : GoodIn wsL_calibrate (wsV RL 36 RX4 yX4_calibrate wsX4_calibrate) := goodIn_app (goodIn_of _ (by decide +kernel)) ggL_calibrate_X4_calibrate
theorem dL_calibrate_0 : decode cL_calibrate 0 = .ok (.aload_n 0, 1) := by decide +kernel
theorem dL_calibrate_1 : decode cL_calibrate 1 = .ok (.iload_n 1, 1) := by decide +kernel
theorem dL_calibrate_2 : decode cL_calibrate 2 = .ok (.iload_n 2, 1) := by decide +kernel
theorem dL_calibrate_3 : decode cL_calibrate 3 = .ok (.iload_n 3, 1) := by decide +kernel
theorem dL_calibrate_4 : decode cL_calibrate 4 = .ok (.iload 4, 2) := by decide +kernel
theorem dL_calibrate_6 : decode cL_calibrate 6 = .ok (.invokevirtual 36, 3) := by decide +kernel
theorem dL_calibrate_9 : decode cL_calibrate 9 = .ok (.ireturn, 1) := by decide +kernel
theorem dL_calibrate_10 : decode cL_calibrate 10 = .ok (.astore 5, 2) := by decide +kernel
theorem dL_calibrate_12 : decode cL_calibrate 12 = .ok (.ldc 28, 2) := by decide +kernel
theorem dL_calibrate_14 : decode cL_calibrate 14 = .ok (.ireturn, 1) := by decide +kernel
theorem dL_calibrate_15 : decode cL_calibrate 15 = .ok (.astore 5, 2) := by decide +kernel
theorem dL_calibrate_17 : decode cL_calibrate 17 = .ok (.ldc 18, 2) := by decide +kernel
theorem dL_calibrate_19 : decode cL_calibrate 19 = .ok (.ireturn, 1) := by decide +kernel
theorem dL_calibrate_20 : decode cL_calibrate 20 = .ok (.astore 5, 2) := by decide +kernel
theorem dL_calibrate_22 : decode cL_calibrate 22 = .ok (.ldc 21, 2) := by decide +kernel
theorem dL_calibrate_24 : decode cL_calibrate 24 = .ok (.ireturn, 1) := by decide +kernel
set_option maxRecDepth 20000 in
theorem ggL_bounds_X4_bounds : GoodIn wsL_bounds wsX4_bounds := goodIn_ca (goodIn_r _ [7, 8, 9, 10, 11, 12, 13, 6, 14, 15, 16, 17, 18, 19, 20, 21, 22, 23, 24] (by decide +kernel) (by decide +kernel)) (goodIn_sub (fun _ h => List.mem_cons_of_mem _ (List.mem_append_right _ h)) (by decide +kernel))
set_option maxRecDepth 20000 in
theorem gL_bounds_X4_bounds : GoodIn wsL_bounds (wsV RL 39 RX4 yX4_bounds wsX4_bounds) := goodIn_app (goodIn_of _ (by decide +kernel)) ggL_bounds_X4_bounds
theorem dL_bounds_0 : decode cL_bounds 0 = .ok (.aload_n 0, 1) := by decide +kernel
theorem dL_bounds_1 : decode cL_bounds 1 = .ok (.iload_n 1, 1) := by decide +kernel
theorem dL_bounds_2 : decode cL_bounds 2 = .ok (.iload_n 2, 1) := by decide +kernel
theorem dL_bounds_3 : decode cL_bounds 3 = .ok (.invokevirtual 39, 3) := by decide +kernel
theorem dL_bounds_6 : decode cL_bounds 6 = .ok (.iconst 0, 1) := by decide +kernel
theorem dL_bounds_7 : decode cL_bounds 7 = .ok (.ireturn, 1) := by decide +kernel
theorem dL_bounds_8 : decode cL_bounds 8 = .ok (.astore_n 3, 1) := by decide +kernel
theorem dL_bounds_9 : decode cL_bounds 9 = .ok (.ldc 18, 2) := by decide +kernel
theorem dL_bounds_11 : decode cL_bounds 11 = .ok (.ireturn, 1) := by decide +kernel
set_option maxRecDepth 20000 in
theorem ggL_pass_X4_pass : GoodIn wsL_pass wsX4_pass := goodIn_ca (goodIn_ca (goodIn_r _ [9, 10, 11, 12, 13, 14, 15, 16, 8, 17, 18, 19, 20, 21, 22, 23, 24, 25, 26, 27, 28, 29, 30, 31, 32, 33, 34, 35, 36, 37, 38, 39, 40, 41, 42, 43, 44, 45, 46, 47, 48, 49, 50, 51, 52, 53, 54, 55, 56, 57, 58, 59, 60, 61, 62, 63, 64, 65, 66, 67, 68, 69, 70, 71, 72, 73, 74, 75, 76, 77, 78, 79, 80, 81, 82, 83, 84, 85, 86, 87, 88, 89, 90, 91, 92, 93, 94, 95, 96, 97, 98, 99, 100, 101, 102, 103, 104, 105, 106, 107, 108, 109, 110, 111, 112, 113, 114, 115, 116, 117, 118, 119, 120, 121, 122, 123, 124, 125, 126, 127, 128, 129, 130, 131, 132, 133, 134, 135, 136, 137, 138, 139, 140, 141, 142, 143, 144, 145, 146, 147, 148, 149, 150, 151, 152, 153, 154, 155, 156, 157, 158, 159, 160, 161, 162, 163, 164, 165, 166, 167, 168, 169, 170, 171, 172] (by decide +kernel) (by decide +kernel)) (goodIn_sub (fun _ h => List.mem_cons_of_mem _ (List.mem_append_left _ (List.mem_append_right _ h))) (by decide +kernel))) (goodIn_sub (fun _ h => List.mem_cons_of_mem _ (List.mem_append_right _ h)) (by decide +kernel))
set_option maxRecDepth 20000 in
theorem gL_pass_X4_pass : GoodIn wsL_pass (wsV RL 43 RX4 yX4_pass wsX4_pass) := goodIn_app (goodIn_of _ (by decide +kernel)) ggL_pass_X4_pass
theorem dL_pass_0 : decode cL_pass 0 = .ok (.aload_n 0, 1) := by decide +kernel
theorem dL_pass_1 : decode cL_pass 1 = .ok (.iload_n 1, 1) := by decide +kernel
theorem dL_pass_2 : decode cL_pass 2 = .ok (.invokevirtual 43, 3) := by decide +kernel
theorem dL_pass_5 : decode cL_pass 5 = .ok (.ireturn, 1) := by decide +kernel
theorem dL_pass_6 : decode cL_pass 6 = .ok (.astore_n 2, 1) := by decide +kernel
theorem dL_pass_7 : decode cL_pass 7 = .ok (.ldc 18, 2) := by decide +kernel
theorem dL_pass_9 : decode cL_pass 9 = .ok (.ireturn, 1) := by decide +kernel
theorem dL_pass_10 : decode cL_pass 10 = .ok (.astore_n 2, 1) := by decide +kernel
theorem dL_pass_11 : decode cL_pass 11 = .ok (.ldc 21, 2) := by decide +kernel
theorem dL_pass_13 : decode cL_pass 13 = .ok (.ireturn, 1) := by decide +kernel
set_option maxRecDepth 20000 in
theorem ggL_vote_X4_vote : GoodIn wsL_vote wsX4_vote := goodIn_ca (goodIn_r _ [7, 8, 9, 10, 11, 12, 6, 13, 14, 15, 16, 17, 18, 19, 20, 21, 22, 23, 24, 25, 26, 27] (by decide +kernel) (by decide +kernel)) (goodIn_sub (fun _ h => List.mem_cons_of_mem _ (List.mem_append_right _ h)) (by decide +kernel))
set_option maxRecDepth 20000 in
theorem gL_vote_X4_vote : GoodIn wsL_vote (wsV RL 47 RX4 yX4_vote wsX4_vote) := goodIn_app (goodIn_of _ (by decide +kernel)) ggL_vote_X4_vote
