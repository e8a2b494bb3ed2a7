theorem dX5_corrected_0 : decode cX5_corrected 0 = .ok (.aload_n 0, 1) := by decide +kernel
theorem dX5_corrected_1 : decode cX5_corrected 1 = .ok (.getfield 40, 3) := by decide +kernel
theorem dX5_corrected_4 : decode cX5_corrected 4 = .ok (.bipush 8, 2) := by decide +kernel
theorem dX5_corrected_6 : decode cX5_corrected 6 = .ok (.iload_n 2, 1) := by decide +kernel
theorem dX5_corrected_7 : decode cX5_corrected 7 = .ok (.iconst 1, 1) := by decide +kernel
theorem dX5_corrected_8 : decode cX5_corrected 8 = .ok (.isub, 1) := by decide +kernel
theorem dX5_corrected_9 : decode cX5_corrected 9 = .ok (.imul, 1) := by decide +kernel
theorem dX5_corrected_10 : decode cX5_corrected 10 = .ok (.iload_n 1, 1) := by decide +kernel
theorem dX5_corrected_11 : decode cX5_corrected 11 = .ok (.iadd, 1) := by decide +kernel
theorem dX5_corrected_12 : decode cX5_corrected 12 = .ok (.iaload, 1) := by decide +kernel
theorem dX5_corrected_13 : decode cX5_corrected 13 = .ok (.istore_n 3, 1) := by decide +kernel
theorem dX5_corrected_14 : decode cX5_corrected 14 = .ok (.bipush 10, 2) := by decide +kernel
theorem dX5_corrected_16 : decode cX5_corrected 16 = .ok (.iload_n 1, 1) := by decide +kernel
theorem dX5_corrected_17 : decode cX5_corrected 17 = .ok (.imul, 1) := by decide +kernel
theorem dX5_corrected_18 : decode cX5_corrected 18 = .ok (.istore 4, 2) := by decide +kernel
theorem dX5_corrected_20 : decode cX5_corrected 20 = .ok (.iload 4, 2) := by decide +kernel
theorem dX5_corrected_22 : decode cX5_corrected 22 = .ok (.bipush 10, 2) := by decide +kernel
theorem dX5_corrected_24 : decode cX5_corrected 24 = .ok (.iload_n 1, 1) := by decide +kernel
theorem dX5_corrected_25 : decode cX5_corrected 25 = .ok (.imul, 1) := by decide +kernel
theorem dX5_corrected_26 : decode cX5_corrected 26 = .ok (.aload_n 0, 1) := by decide +kernel
theorem dX5_corrected_27 : decode cX5_corrected 27 = .ok (.getfield 55, 3) := by decide +kernel
theorem dX5_corrected_30 : decode cX5_corrected 30 = .ok (.iload_n 1, 1) := by decide +kernel
theorem dX5_corrected_31 : decode cX5_corrected 31 = .ok (.iaload, 1) := by decide +kernel
theorem dX5_corrected_32 : decode cX5_corrected 32 = .ok (.iadd, 1) := by decide +kernel
theorem dX5_corrected_33 : decode cX5_corrected 33 = .ok (.if_icmp .ge 44, 3) := by decide +kernel
theorem dX5_corrected_36 : decode cX5_corrected 36 = .ok (.iload_n 3, 1) := by decide +kernel
theorem dX5_corrected_37 : decode cX5_corrected 37 = .ok (.iload_n 2, 1) := by decide +kernel
theorem dX5_corrected_38 : decode cX5_corrected 38 = .ok (.aload_n 0, 1) := by decide +kernel
theorem dX5_corrected_39 : decode cX5_corrected 39 = .ok (.getfield 58, 3) := by decide +kernel
theorem dX5_corrected_42 : decode cX5_corrected 42 = .ok (.iload 4, 2) := by decide +kernel
theorem dX5_corrected_44 : decode cX5_corrected 44 = .ok (.iaload, 1) := by decide +kernel
theorem dX5_corrected_45 : decode cX5_corrected 45 = .ok (.aload_n 0, 1) := by decide +kernel
theorem dX5_corrected_46 : decode cX5_corrected 46 = .ok (.getfield 61, 3) := by decide +kernel
theorem dX5_corrected_49 : decode cX5_corrected 49 = .ok (.iload 4, 2) := by decide +kernel
theorem dX5_corrected_51 : decode cX5_corrected 51 = .ok (.iaload, 1) := by decide +kernel
theorem dX5_corrected_52 : decode cX5_corrected 52 = .ok (.invokestatic 99, 3) := by decide +kernel
theorem dX5_corrected_55 : decode cX5_corrected 55 = .ok (.ifCond .eq 13, 3) := by decide +kernel
theorem dX5_corrected_58 : decode cX5_corrected 58 = .ok (.aload_n 0, 1) := by decide +kernel
theorem dX5_corrected_59 : decode cX5_corrected 59 = .ok (.getfield 64, 3) := by decide +kernel
theorem dX5_corrected_62 : decode cX5_corrected 62 = .ok (.iload 4, 2) := by decide +kernel
theorem dX5_corrected_64 : decode cX5_corrected 64 = .ok (.iaload, 1) := by decide +kernel
theorem dX5_corrected_65 : decode cX5_corrected 65 = .ok (.goto 4, 3) := by decide +kernel
theorem dX5_corrected_68 : decode cX5_corrected 68 = .ok (.iconst 0, 1) := by decide +kernel
theorem dX5_corrected_69 : decode cX5_corrected 69 = .ok (.isub, 1) := by decide +kernel
theorem dX5_corrected_70 : decode cX5_corrected 70 = .ok (.istore_n 3, 1) := by decide +kernel
theorem dX5_corrected_71 : decode cX5_corrected 71 = .ok (.iinc 4 1, 3) := by decide +kernel
theorem dX5_corrected_74 : decode cX5_corrected 74 = .ok (.goto (-54), 3) := by decide +kernel
theorem dX5_corrected_77 : decode cX5_corrected 77 = .ok (.iload_n 3, 1) := by decide +kernel
theorem dX5_corrected_78 : decode cX5_corrected 78 = .ok (.ireturn, 1) := by decide +kernel
set_option maxRecDepth 20000 in
theorem ggX5_measured_X5_hasMeasured : GoodIn wsX5_measured wsX5_hasMeasured := goodIn_r _ [6, 7, 8, 9, 10, 5, 11, 12, 13, 14, 15, 16, 17, 18, 19, 20, 34, 35, 36, 37, 38, 39, 40, 41, 42, 43, 44, 45, 46, 47, 48, 49, 50, 51, 52, 53, 54, 55, 56, 57, 58, 59, 60, 61, 62, 63, 64, 65, 66, 67] (by decide +kernel) (by decide +kernel)
set_option maxRecDepth 20000 in
theorem gX5_measured_X5_hasMeasured : GoodIn wsX5_measured (wsV RX5 152 RX5 yX5_hasMeasured wsX5_hasMeasured) := goodIn_app (goodIn_of _ (by decide +kernel)) ggX5_measured_X5_hasMeasured
set_option maxRecDepth 20000 in
theorem ggX5_measured_X5_goes : GoodIn wsX5_measured wsX5_goes := goodIn_r _ [24, 25, 34, 35, 36, 37, 38, 39, 40, 41, 42, 43, 44, 45, 46, 47, 48, 49, 50, 51, 52, 53, 54, 55, 56, 57, 58, 59, 60, 61, 62, 63, 64, 65, 66, 67] (by decide +kernel) (by decide +kernel)
set_option maxRecDepth 20000 in
theorem gX5_measured_X5_goes : GoodIn wsX5_measured (wsV RX5 109 RX5 yX5_goes wsX5_goes) := goodIn_app (goodIn_of _ (by decide +kernel)) ggX5_measured_X5_goes
set_option maxRecDepth 20000 in
theorem ggX5_measured_X5_corrected : GoodIn wsX5_measured wsX5_corrected := goodIn_r _ [29, 1, 30, 31, 32, 33, 13, 14, 5, 15, 34, 35, 36, 37, 38, 39, 40, 41, 42, 43, 44, 45, 46, 47, 48, 49, 50, 51, 52, 53, 54, 55, 56, 57, 58, 59, 60, 61, 62, 63, 64, 65, 66, 67] (by decide +kernel) (by decide +kernel)
set_option maxRecDepth 20000 in
theorem gX5_measured_X5_corrected : GoodIn wsX5_measured (wsV RX5 155 RX5 yX5_corrected wsX5_corrected) := goodIn_app (goodIn_of _ (by decide +kernel)) ggX5_measured_X5_corrected
theorem dX5_measured_0 : decode cX5_measured 0 = .ok (.aload_n 0, 1) := by decide +kernel
theorem dX5_measured_1 : decode cX5_measured 1 = .ok (.aload_n 0, 1) := by decide +kernel
theorem dX5_measured_2 : decode cX5_measured 2 = .ok (.iload_n 1, 1) := by decide +kernel
theorem dX5_measured_3 : decode cX5_measured 3 = .ok (.iload_n 2, 1) := by decide +kernel
theorem dX5_measured_4 : decode cX5_measured 4 = .ok (.invokevirtual 152, 3) := by decide +kernel
theorem dX5_measured_7 : decode cX5_measured 7 = .ok (.iconst 1, 1) := by decide +kernel
theorem dX5_measured_8 : decode cX5_measured 8 = .ok (.iconst 1, 1) := by decide +kernel
theorem dX5_measured_9 : decode cX5_measured 9 = .ok (.invokevirtual 109, 3) := by decide +kernel
theorem dX5_measured_12 : decode cX5_measured 12 = .ok (.ifCond .ne 5, 3) := by decide +kernel
theorem dX5_measured_15 : decode cX5_measured 15 = .ok (.iconst 0, 1) := by decide +kernel
theorem dX5_measured_16 : decode cX5_measured 16 = .ok (.ireturn, 1) := by decide +kernel
theorem dX5_measured_17 : decode cX5_measured 17 = .ok (.iload_n 3, 1) := by decide +kernel
theorem dX5_measured_18 : decode cX5_measured 18 = .ok (.ifCond .eq 12, 3) := by decide +kernel
theorem dX5_measured_21 : decode cX5_measured 21 = .ok (.aload_n 0, 1) := by decide +kernel
theorem dX5_measured_22 : decode cX5_measured 22 = .ok (.iload_n 1, 1) := by decide +kernel
theorem dX5_measured_23 : decode cX5_measured 23 = .ok (.iload_n 2, 1) := by decide +kernel
theorem dX5_measured_24 : decode cX5_measured 24 = .ok (.invokevirtual 155, 3) := by decide +kernel
theorem dX5_measured_27 : decode cX5_measured 27 = .ok (.goto 16, 3) := by decide +kernel
theorem dX5_measured_30 : decode cX5_measured 30 = .ok (.aload_n 0, 1) := by decide +kernel
theorem dX5_measured_31 : decode cX5_measured 31 = .ok (.getfield 40, 3) := by decide +kernel
theorem dX5_measured_34 : decode cX5_measured 34 = .ok (.bipush 8, 2) := by decide +kernel
theorem dX5_measured_36 : decode cX5_measured 36 = .ok (.iload_n 2, 1) := by decide +kernel
theorem dX5_measured_37 : decode cX5_measured 37 = .ok (.iconst 1, 1) := by decide +kernel
theorem dX5_measured_38 : decode cX5_measured 38 = .ok (.isub, 1) := by decide +kernel
theorem dX5_measured_39 : decode cX5_measured 39 = .ok (.imul, 1) := by decide +kernel
theorem dX5_measured_40 : decode cX5_measured 40 = .ok (.iload_n 1, 1) := by decide +kernel
theorem dX5_measured_41 : decode cX5_measured 41 = .ok (.iadd, 1) := by decide +kernel
theorem dX5_measured_42 : decode cX5_measured 42 = .ok (.iaload, 1) := by decide +kernel
theorem dX5_measured_43 : decode cX5_measured 43 = .ok (.ireturn, 1) := by decide +kernel
theorem dX5_otherEnd_0 : decode cX5_otherEnd 0 = .ok (.aload_n 0, 1) := by decide +kernel
theorem dX5_otherEnd_1 : decode cX5_otherEnd 1 = .ok (.getfield 25, 3) := by decide +kernel
theorem dX5_otherEnd_4 : decode cX5_otherEnd 4 = .ok (.iload_n 1, 1) := by decide +kernel
theorem dX5_otherEnd_5 : decode cX5_otherEnd 5 = .ok (.iaload, 1) := by decide +kernel
theorem dX5_otherEnd_6 : decode cX5_otherEnd 6 = .ok (.iload_n 2, 1) := by decide +kernel
theorem dX5_otherEnd_7 : decode cX5_otherEnd 7 = .ok (.if_icmp .ne 12, 3) := by decide +kernel
theorem dX5_otherEnd_10 : decode cX5_otherEnd 10 = .ok (.aload_n 0, 1) := by decide +kernel
theorem dX5_otherEnd_11 : decode cX5_otherEnd 11 = .ok (.getfield 28, 3) := by decide +kernel
theorem dX5_otherEnd_14 : decode cX5_otherEnd 14 = .ok (.iload_n 1, 1) := by decide +kernel
theorem dX5_otherEnd_15 : decode cX5_otherEnd 15 = .ok (.iaload, 1) := by decide +kernel
theorem dX5_otherEnd_16 : decode cX5_otherEnd 16 = .ok (.goto 23, 3) := by decide +kernel
theorem dX5_otherEnd_19 : decode cX5_otherEnd 19 = .ok (.aload_n 0, 1) := by decide +kernel
theorem dX5_otherEnd_20 : decode cX5_otherEnd 20 = .ok (.getfield 28, 3) := by decide +kernel
theorem dX5_otherEnd_23 : decode cX5_otherEnd 23 = .ok (.iload_n 1, 1) := by decide +kernel
theorem dX5_otherEnd_24 : decode cX5_otherEnd 24 = .ok (.iaload, 1) := by decide +kernel
theorem dX5_otherEnd_25 : decode cX5_otherEnd 25 = .ok (.iload_n 2, 1) := by decide +kernel
theorem dX5_otherEnd_26 : decode cX5_otherEnd 26 = .ok (.if_icmp .ne 12, 3) := by decide +kernel
theorem dX5_otherEnd_29 : decode cX5_otherEnd 29 = .ok (.aload_n 0, 1) := by decide +kernel
theorem dX5_otherEnd_30 : decode cX5_otherEnd 30 = .ok (.getfield 25, 3) := by decide +kernel
theorem dX5_otherEnd_33 : decode cX5_otherEnd 33 = .ok (.iload_n 1, 1) := by decide +kernel
theorem dX5_otherEnd_34 : decode cX5_otherEnd 34 = .ok (.iaload, 1) := by decide +kernel
theorem dX5_otherEnd_35 : decode cX5_otherEnd 35 = .ok (.goto 4, 3) := by decide +kernel
theorem dX5_otherEnd_38 : decode cX5_otherEnd 38 = .ok (.iconst (-1), 1) := by decide +kernel
theorem dX5_otherEnd_39 : decode cX5_otherEnd 39 = .ok (.ireturn, 1) := by decide +kernel
set_option maxRecDepth 20000 in
theorem ggX5_isRing_X5_otherEnd : GoodIn wsX5_isRing wsX5_otherEnd := goodIn_r _ [7, 2, 1, 8, 9, 10, 11, 12, 13, 14, 15, 16, 17, 18, 19, 20, 21, 22, 23, 24, 25, 26, 27, 28, 29, 30, 31, 32, 33, 34, 35, 36, 37, 38, 39, 40, 41] (by decide +kernel) (by decide +kernel)
set_option maxRecDepth 20000 in
theorem gX5_isRing_X5_otherEnd : GoodIn wsX5_isRing (wsV RX5 158 RX5 yX5_otherEnd wsX5_otherEnd) := goodIn_app (goodIn_of _ (by decide +kernel)) ggX5_isRing_X5_otherEnd
theorem dX5_isRing_0 : decode cX5_isRing 0 = .ok (.aload_n 0, 1) := by decide +kernel
theorem dX5_isRing_1 : decode cX5_isRing 1 = .ok (.iload_n 2, 1) := by decide +kernel
theorem dX5_isRing_2 : decode cX5_isRing 2 = .ok (.aload_n 0, 1) := by decide +kernel
theorem dX5_isRing_3 : decode cX5_isRing 3 = .ok (.getfield 28, 3) := by decide +kernel
theorem dX5_isRing_6 : decode cX5_isRing 6 = .ok (.iload_n 1, 1) := by decide +kernel
theorem dX5_isRing_7 : decode cX5_isRing 7 = .ok (.iaload, 1) := by decide +kernel
theorem dX5_isRing_8 : decode cX5_isRing 8 = .ok (.invokevirtual 158, 3) := by decide +kernel
theorem dX5_isRing_11 : decode cX5_isRing 11 = .ok (.iconst (-1), 1) := by decide +kernel
theorem dX5_isRing_12 : decode cX5_isRing 12 = .ok (.if_icmp .eq 7, 3) := by decide +kernel
theorem dX5_isRing_15 : decode cX5_isRing 15 = .ok (.iload_n 2, 1) := by decide +kernel
theorem dX5_isRing_16 : decode cX5_isRing 16 = .ok (.goto 4, 3) := by decide +kernel
theorem dX5_isRing_19 : decode cX5_isRing 19 = .ok (.iload_n 3, 1) := by decide +kernel
theorem dX5_isRing_20 : decode cX5_isRing 20 = .ok (.istore 4, 2) := by decide +kernel
theorem dX5_isRing_22 : decode cX5_isRing 22 = .ok (.iload 4, 2) := by decide +kernel
theorem dX5_isRing_24 : decode cX5_isRing 24 = .ok (.iload_n 2, 1) := by decide +kernel
theorem dX5_isRing_25 : decode cX5_isRing 25 = .ok (.if_icmp .ne 7, 3) := by decide +kernel
theorem dX5_isRing_28 : decode cX5_isRing 28 = .ok (.iload_n 3, 1) := by decide +kernel
theorem dX5_isRing_29 : decode cX5_isRing 29 = .ok (.goto 4, 3) := by decide +kernel
theorem dX5_isRing_32 : decode cX5_isRing 32 = .ok (.iload_n 2, 1) := by decide +kernel
theorem dX5_isRing_33 : decode cX5_isRing 33 = .ok (.istore 5, 2) := by decide +kernel
theorem dX5_isRing_35 : decode cX5_isRing 35 = .ok (.aload_n 0, 1) := by decide +kernel
theorem dX5_isRing_36 : decode cX5_isRing 36 = .ok (.iload 4, 2) := by decide +kernel
theorem dX5_isRing_38 : decode cX5_isRing 38 = .ok (.aload_n 0, 1) := by decide +kernel
theorem dX5_isRing_39 : decode cX5_isRing 39 = .ok (.getfield 28, 3) := by decide +kernel
theorem dX5_isRing_42 : decode cX5_isRing 42 = .ok (.iload_n 1, 1) := by decide +kernel
theorem dX5_isRing_43 : decode cX5_isRing 43 = .ok (.iaload, 1) := by decide +kernel
theorem dX5_isRing_44 : decode cX5_isRing 44 = .ok (.invokevirtual 158, 3) := by decide +kernel
theorem dX5_isRing_47 : decode cX5_isRing 47 = .ok (.istore 6, 2) := by decide +kernel
theorem dX5_isRing_49 : decode cX5_isRing 49 = .ok (.iload 6, 2) := by decide +kernel
theorem dX5_isRing_51 : decode cX5_isRing 51 = .ok (.iconst (-1), 1) := by decide +kernel
theorem dX5_isRing_52 : decode cX5_isRing 52 = .ok (.if_icmp .eq 35, 3) := by decide +kernel
theorem dX5_isRing_55 : decode cX5_isRing 55 = .ok (.iload 6, 2) := by decide +kernel
theorem dX5_isRing_57 : decode cX5_isRing 57 = .ok (.aload_n 0, 1) := by decide +kernel
theorem dX5_isRing_58 : decode cX5_isRing 58 = .ok (.getfield 25, 3) := by decide +kernel
theorem dX5_isRing_61 : decode cX5_isRing 61 = .ok (.iload_n 1, 1) := by decide +kernel
theorem dX5_isRing_62 : decode cX5_isRing 62 = .ok (.iaload, 1) := by decide +kernel
theorem dX5_isRing_63 : decode cX5_isRing 63 = .ok (.if_icmp .eq 24, 3) := by decide +kernel
theorem dX5_isRing_66 : decode cX5_isRing 66 = .ok (.aload_n 0, 1) := by decide +kernel
theorem dX5_isRing_67 : decode cX5_isRing 67 = .ok (.iload 5, 2) := by decide +kernel
theorem dX5_isRing_69 : decode cX5_isRing 69 = .ok (.iload 6, 2) := by decide +kernel
theorem dX5_isRing_71 : decode cX5_isRing 71 = .ok (.invokevirtual 158, 3) := by decide +kernel
theorem dX5_isRing_74 : decode cX5_isRing 74 = .ok (.aload_n 0, 1) := by decide +kernel
theorem dX5_isRing_75 : decode cX5_isRing 75 = .ok (.getfield 25, 3) := by decide +kernel
theorem dX5_isRing_78 : decode cX5_isRing 78 = .ok (.iload_n 1, 1) := by decide +kernel
theorem dX5_isRing_79 : decode cX5_isRing 79 = .ok (.iaload, 1) := by decide +kernel
theorem dX5_isRing_80 : decode cX5_isRing 80 = .ok (.if_icmp .ne 7, 3) := by decide +kernel
theorem dX5_isRing_83 : decode cX5_isRing 83 = .ok (.iconst 1, 1) := by decide +kernel
theorem dX5_isRing_84 : decode cX5_isRing 84 = .ok (.goto 4, 3) := by decide +kernel
theorem dX5_isRing_87 : decode cX5_isRing 87 = .ok (.iconst 0, 1) := by decide +kernel
theorem dX5_isRing_88 : decode cX5_isRing 88 = .ok (.ireturn, 1) := by decide +kernel
set_option maxRecDepth 20000 in
theorem ggX5_goesBy_X5_corrected : GoodIn wsX5_goesBy wsX5_corrected := goodIn_r _ [10, 11, 12, 13, 14, 15, 16, 17, 9, 18, 19, 20, 21, 22, 23, 24, 25, 26, 27, 28, 29, 30, 31, 32, 33, 34, 35, 36, 37, 38, 39, 40, 41, 42, 43, 44, 45, 46, 47, 48, 49, 50, 51, 52] (by decide +kernel) (by decide +kernel)
set_option maxRecDepth 20000 in
theorem gX5_goesBy_X5_corrected : GoodIn wsX5_goesBy (wsV RX5 155 RX5 yX5_corrected wsX5_corrected) := goodIn_app (goodIn_of _ (by decide +kernel)) ggX5_goesBy_X5_corrected
theorem dX5_goesBy_0 : decode cX5_goesBy 0 = .ok (.iconst 3, 1) := by decide +kernel
theorem dX5_goesBy_1 : decode cX5_goesBy 1 = .ok (.aload_n 0, 1) := by decide +kernel
theorem dX5_goesBy_2 : decode cX5_goesBy 2 = .ok (.getfield 161, 3) := by decide +kernel
theorem dX5_goesBy_5 : decode cX5_goesBy 5 = .ok (.imul, 1) := by decide +kernel
theorem dX5_goesBy_6 : decode cX5_goesBy 6 = .ok (.iload_n 3, 1) := by decide +kernel
theorem dX5_goesBy_7 : decode cX5_goesBy 7 = .ok (.iadd, 1) := by decide +kernel
theorem dX5_goesBy_8 : decode cX5_goesBy 8 = .ok (.istore 5, 2) := by decide +kernel
theorem dX5_goesBy_10 : decode cX5_goesBy 10 = .ok (.aload_n 0, 1) := by decide +kernel
theorem dX5_goesBy_11 : decode cX5_goesBy 11 = .ok (.getfield 77, 3) := by decide +kernel
theorem dX5_goesBy_14 : decode cX5_goesBy 14 = .ok (.iload 5, 2) := by decide +kernel
theorem dX5_goesBy_16 : decode cX5_goesBy 16 = .ok (.iload_n 1, 1) := by decide +kernel
theorem dX5_goesBy_17 : decode cX5_goesBy 17 = .ok (.iastore, 1) := by decide +kernel
theorem dX5_goesBy_18 : decode cX5_goesBy 18 = .ok (.aload_n 0, 1) := by decide +kernel
theorem dX5_goesBy_19 : decode cX5_goesBy 19 = .ok (.getfield 80, 3) := by decide +kernel
theorem dX5_goesBy_22 : decode cX5_goesBy 22 = .ok (.iload 5, 2) := by decide +kernel
theorem dX5_goesBy_24 : decode cX5_goesBy 24 = .ok (.aload_n 0, 1) := by decide +kernel
theorem dX5_goesBy_25 : decode cX5_goesBy 25 = .ok (.getfield 25, 3) := by decide +kernel
theorem dX5_goesBy_28 : decode cX5_goesBy 28 = .ok (.iload_n 1, 1) := by decide +kernel
theorem dX5_goesBy_29 : decode cX5_goesBy 29 = .ok (.iaload, 1) := by decide +kernel
theorem dX5_goesBy_30 : decode cX5_goesBy 30 = .ok (.iload_n 2, 1) := by decide +kernel
theorem dX5_goesBy_31 : decode cX5_goesBy 31 = .ok (.if_icmp .ne 7, 3) := by decide +kernel
theorem dX5_goesBy_34 : decode cX5_goesBy 34 = .ok (.iconst 1, 1) := by decide +kernel
theorem dX5_goesBy_35 : decode cX5_goesBy 35 = .ok (.goto 4, 3) := by decide +kernel
theorem dX5_goesBy_38 : decode cX5_goesBy 38 = .ok (.iconst (-1), 1) := by decide +kernel
theorem dX5_goesBy_39 : decode cX5_goesBy 39 = .ok (.iastore, 1) := by decide +kernel
theorem dX5_goesBy_40 : decode cX5_goesBy 40 = .ok (.aload_n 0, 1) := by decide +kernel
theorem dX5_goesBy_41 : decode cX5_goesBy 41 = .ok (.getfield 83, 3) := by decide +kernel
theorem dX5_goesBy_44 : decode cX5_goesBy 44 = .ok (.aload_n 0, 1) := by decide +kernel
theorem dX5_goesBy_45 : decode cX5_goesBy 45 = .ok (.getfield 161, 3) := by decide +kernel
theorem dX5_goesBy_48 : decode cX5_goesBy 48 = .ok (.iload_n 3, 1) := by decide +kernel
theorem dX5_goesBy_49 : decode cX5_goesBy 49 = .ok (.ifCond .ne 7, 3) := by decide +kernel
theorem dX5_goesBy_52 : decode cX5_goesBy 52 = .ok (.iconst 0, 1) := by decide +kernel
theorem dX5_goesBy_53 : decode cX5_goesBy 53 = .ok (.goto 12, 3) := by decide +kernel
theorem dX5_goesBy_56 : decode cX5_goesBy 56 = .ok (.aload_n 0, 1) := by decide +kernel
theorem dX5_goesBy_57 : decode cX5_goesBy 57 = .ok (.getfield 83, 3) := by decide +kernel
theorem dX5_goesBy_60 : decode cX5_goesBy 60 = .ok (.aload_n 0, 1) := by decide +kernel
theorem dX5_goesBy_61 : decode cX5_goesBy 61 = .ok (.getfield 161, 3) := by decide +kernel
theorem dX5_goesBy_64 : decode cX5_goesBy 64 = .ok (.iaload, 1) := by decide +kernel
theorem dX5_goesBy_65 : decode cX5_goesBy 65 = .ok (.aload_n 0, 1) := by decide +kernel
theorem dX5_goesBy_66 : decode cX5_goesBy 66 = .ok (.getfield 80, 3) := by decide +kernel
theorem dX5_goesBy_69 : decode cX5_goesBy 69 = .ok (.iload 5, 2) := by decide +kernel
theorem dX5_goesBy_71 : decode cX5_goesBy 71 = .ok (.iaload, 1) := by decide +kernel
theorem dX5_goesBy_72 : decode cX5_goesBy 72 = .ok (.aload_n 0, 1) := by decide +kernel
theorem dX5_goesBy_73 : decode cX5_goesBy 73 = .ok (.iload_n 1, 1) := by decide +kernel
theorem dX5_goesBy_74 : decode cX5_goesBy 74 = .ok (.iload 4, 2) := by decide +kernel
theorem dX5_goesBy_76 : decode cX5_goesBy 76 = .ok (.invokevirtual 155, 3) := by decide +kernel
theorem dX5_goesBy_79 : decode cX5_goesBy 79 = .ok (.imul, 1) := by decide +kernel
theorem dX5_goesBy_80 : decode cX5_goesBy 80 = .ok (.iadd, 1) := by decide +kernel
theorem dX5_goesBy_81 : decode cX5_goesBy 81 = .ok (.iastore, 1) := by decide +kernel
theorem dX5_goesBy_82 : decode cX5_goesBy 82 = .ok (.return_, 1) := by decide +kernel
set_option maxRecDepth 20000 in
theorem ggX5_laysRing_X5_otherEnd : GoodIn wsX5_laysRing wsX5_otherEnd := goodIn_r _ [8, 2, 1, 28, 29, 30, 31, 32, 33, 34, 35, 36, 37, 38, 39, 40, 41, 42, 43, 44, 45, 46, 47, 48, 49, 50, 51, 52, 53, 54, 55, 56, 57, 58, 59, 60, 61] (by decide +kernel) (by decide +kernel)
set_option maxRecDepth 20000 in
theorem gX5_laysRing_X5_otherEnd : GoodIn wsX5_laysRing (wsV RX5 158 RX5 yX5_otherEnd wsX5_otherEnd) := goodIn_app (goodIn_of _ (by decide +kernel)) ggX5_laysRing_X5_otherEnd
set_option maxRecDepth 20000 in
theorem ggX5_laysRing_X5_goesBy : GoodIn wsX5_laysRing wsX5_goesBy := goodIn_r _ [12, 3, 13, 14, 2, 15, 16, 17, 18, 7, 19, 20, 21, 22, 23, 24, 25, 26, 27, 28, 29, 30, 31, 32, 33, 34, 35, 36, 37, 38, 39, 40, 41, 42, 43, 44, 45, 46, 47, 48, 49, 50, 51, 52, 53, 54, 55, 56, 57, 58, 59, 60, 61] (by decide +kernel) (by decide +kernel)
set_option maxRecDepth 20000 in
theorem gX5_laysRing_X5_goesBy : GoodIn wsX5_laysRing (wsV RX5 164 RX5 yX5_goesBy wsX5_goesBy) := goodIn_app (goodIn_of _ (by decide +kernel)) ggX5_laysRing_X5_goesBy
theorem dX5_laysRing_0 : decode cX5_laysRing 0 = .ok (.aload_n 0, 1) := by decide +kernel
theorem dX5_laysRing_1 : decode cX5_laysRing 1 = .ok (.iload_n 2, 1) := by decide +kernel
theorem dX5_laysRing_2 : decode cX5_laysRing 2 = .ok (.aload_n 0, 1) := by decide +kernel
theorem dX5_laysRing_3 : decode cX5_laysRing 3 = .ok (.getfield 28, 3) := by decide +kernel
theorem dX5_laysRing_6 : decode cX5_laysRing 6 = .ok (.iload_n 1, 1) := by decide +kernel
theorem dX5_laysRing_7 : decode cX5_laysRing 7 = .ok (.iaload, 1) := by decide +kernel
theorem dX5_laysRing_8 : decode cX5_laysRing 8 = .ok (.invokevirtual 158, 3) := by decide +kernel
theorem dX5_laysRing_11 : decode cX5_laysRing 11 = .ok (.iconst (-1), 1) := by decide +kernel
theorem dX5_laysRing_12 : decode cX5_laysRing 12 = .ok (.if_icmp .eq 7, 3) := by decide +kernel
theorem dX5_laysRing_15 : decode cX5_laysRing 15 = .ok (.iload_n 2, 1) := by decide +kernel
theorem dX5_laysRing_16 : decode cX5_laysRing 16 = .ok (.goto 4, 3) := by decide +kernel
theorem dX5_laysRing_19 : decode cX5_laysRing 19 = .ok (.iload_n 3, 1) := by decide +kernel
theorem dX5_laysRing_20 : decode cX5_laysRing 20 = .ok (.istore 5, 2) := by decide +kernel
theorem dX5_laysRing_22 : decode cX5_laysRing 22 = .ok (.aload_n 0, 1) := by decide +kernel
theorem dX5_laysRing_23 : decode cX5_laysRing 23 = .ok (.iload_n 1, 1) := by decide +kernel
theorem dX5_laysRing_24 : decode cX5_laysRing 24 = .ok (.aload_n 0, 1) := by decide +kernel
theorem dX5_laysRing_25 : decode cX5_laysRing 25 = .ok (.getfield 25, 3) := by decide +kernel
theorem dX5_laysRing_28 : decode cX5_laysRing 28 = .ok (.iload_n 1, 1) := by decide +kernel
theorem dX5_laysRing_29 : decode cX5_laysRing 29 = .ok (.iaload, 1) := by decide +kernel
theorem dX5_laysRing_30 : decode cX5_laysRing 30 = .ok (.iconst 0, 1) := by decide +kernel
theorem dX5_laysRing_31 : decode cX5_laysRing 31 = .ok (.iload 4, 2) := by decide +kernel
theorem dX5_laysRing_33 : decode cX5_laysRing 33 = .ok (.invokevirtual 164, 3) := by decide +kernel
theorem dX5_laysRing_36 : decode cX5_laysRing 36 = .ok (.aload_n 0, 1) := by decide +kernel
theorem dX5_laysRing_37 : decode cX5_laysRing 37 = .ok (.iload 5, 2) := by decide +kernel
theorem dX5_laysRing_39 : decode cX5_laysRing 39 = .ok (.aload_n 0, 1) := by decide +kernel
theorem dX5_laysRing_40 : decode cX5_laysRing 40 = .ok (.getfield 28, 3) := by decide +kernel
theorem dX5_laysRing_43 : decode cX5_laysRing 43 = .ok (.iload_n 1, 1) := by decide +kernel
theorem dX5_laysRing_44 : decode cX5_laysRing 44 = .ok (.iaload, 1) := by decide +kernel
theorem dX5_laysRing_45 : decode cX5_laysRing 45 = .ok (.iconst 1, 1) := by decide +kernel
theorem dX5_laysRing_46 : decode cX5_laysRing 46 = .ok (.iload 4, 2) := by decide +kernel
theorem dX5_laysRing_48 : decode cX5_laysRing 48 = .ok (.invokevirtual 164, 3) := by decide +kernel
theorem dX5_laysRing_51 : decode cX5_laysRing 51 = .ok (.aload_n 0, 1) := by decide +kernel
theorem dX5_laysRing_52 : decode cX5_laysRing 52 = .ok (.iload 5, 2) := by decide +kernel
theorem dX5_laysRing_54 : decode cX5_laysRing 54 = .ok (.iload_n 2, 1) := by decide +kernel
theorem dX5_laysRing_55 : decode cX5_laysRing 55 = .ok (.if_icmp .ne 7, 3) := by decide +kernel
theorem dX5_laysRing_58 : decode cX5_laysRing 58 = .ok (.iload_n 3, 1) := by decide +kernel
theorem dX5_laysRing_59 : decode cX5_laysRing 59 = .ok (.goto 4, 3) := by decide +kernel
theorem dX5_laysRing_62 : decode cX5_laysRing 62 = .ok (.iload_n 2, 1) := by decide +kernel
theorem dX5_laysRing_63 : decode cX5_laysRing 63 = .ok (.aload_n 0, 1) := by decide +kernel
theorem dX5_laysRing_64 : decode cX5_laysRing 64 = .ok (.iload 5, 2) := by decide +kernel
theorem dX5_laysRing_66 : decode cX5_laysRing 66 = .ok (.aload_n 0, 1) := by decide +kernel
theorem dX5_laysRing_67 : decode cX5_laysRing 67 = .ok (.getfield 28, 3) := by decide +kernel
theorem dX5_laysRing_70 : decode cX5_laysRing 70 = .ok (.iload_n 1, 1) := by decide +kernel
theorem dX5_laysRing_71 : decode cX5_laysRing 71 = .ok (.iaload, 1) := by decide +kernel
theorem dX5_laysRing_72 : decode cX5_laysRing 72 = .ok (.invokevirtual 158, 3) := by decide +kernel
theorem dX5_laysRing_75 : decode cX5_laysRing 75 = .ok (.iconst 2, 1) := by decide +kernel
theorem dX5_laysRing_76 : decode cX5_laysRing 76 = .ok (.iload 4, 2) := by decide +kernel
theorem dX5_laysRing_78 : decode cX5_laysRing 78 = .ok (.invokevirtual 164, 3) := by decide +kernel
theorem dX5_laysRing_81 : decode cX5_laysRing 81 = .ok (.aload_n 0, 1) := by decide +kernel
theorem dX5_laysRing_82 : decode cX5_laysRing 82 = .ok (.dup, 1) := by decide +kernel
theorem dX5_laysRing_83 : decode cX5_laysRing 83 = .ok (.getfield 161, 3) := by decide +kernel
theorem dX5_laysRing_86 : decode cX5_laysRing 86 = .ok (.iconst 1, 1) := by decide +kernel
theorem dX5_laysRing_87 : decode cX5_laysRing 87 = .ok (.iadd, 1) := by decide +kernel
theorem dX5_laysRing_88 : decode cX5_laysRing 88 = .ok (.putfield 161, 3) := by decide +kernel
theorem dX5_laysRing_91 : decode cX5_laysRing 91 = .ok (.return_, 1) := by decide +kernel
set_option maxRecDepth 20000 in
theorem ggX5_laysRings_X5_hasMeasured : GoodIn wsX5_laysRings wsX5_hasMeasured := goodIn_r _ [8, 9, 10, 11, 12, 7, 13, 3, 14, 15, 16, 17, 18, 19, 20, 21, 52, 53, 54, 55, 56, 57, 58, 59, 60, 61, 62, 63, 64, 65, 66, 67, 68, 69, 70, 71, 72, 73, 74, 75, 76, 77, 78, 79, 80, 81, 82, 83, 84, 85] (by decide +kernel) (by decide +kernel)
set_option maxRecDepth 20000 in
theorem gX5_laysRings_X5_hasMeasured : GoodIn wsX5_laysRings (wsV RX5 152 RX5 yX5_hasMeasured wsX5_hasMeasured) := goodIn_app (goodIn_of _ (by decide +kernel)) ggX5_laysRings_X5_hasMeasured
set_option maxRecDepth 20000 in
theorem ggX5_laysRings_X5_isRing : GoodIn wsX5_laysRings wsX5_isRing := goodIn_r _ [25, 26, 27, 28, 29, 30, 7, 31, 52, 53, 54, 55, 56, 57, 58, 59, 60, 61, 62, 63, 64, 65, 66, 67, 68, 69, 70, 71, 72, 73, 74, 75, 76, 77, 78, 79, 80, 81, 82, 83, 84, 85] (by decide +kernel) (by decide +kernel)
set_option maxRecDepth 20000 in
theorem gX5_laysRings_X5_isRing : GoodIn wsX5_laysRings (wsV RX5 168 RX5 yX5_isRing wsX5_isRing) := goodIn_app (goodIn_of _ (by decide +kernel)) ggX5_laysRings_X5_isRing
set_option maxRecDepth 20000 in
theorem ggX5_laysRings_X5_laysRing : GoodIn wsX5_laysRings wsX5_laysRing := goodIn_r _ [35, 26, 27, 1, 28, 29, 30, 7, 31, 36, 37, 38, 39, 40, 41, 42, 43, 44, 45, 46, 47, 48, 49, 50, 51, 14, 15, 16, 52, 53, 54, 55, 56, 57, 58, 59, 60, 61, 62, 63, 64, 65, 66, 67, 68, 69, 70, 71, 72, 73, 74, 75, 76, 77, 78, 79, 80, 81, 82, 83, 84, 85] (by decide +kernel) (by decide +kernel)
set_option maxRecDepth 20000 in
theorem gX5_laysRings_X5_laysRing : GoodIn wsX5_laysRings (wsV RX5 171 RX5 yX5_laysRing wsX5_laysRing) := goodIn_app (goodIn_of _ (by decide +kernel)) ggX5_laysRings_X5_laysRing
theorem dX5_laysRings_0 : decode cX5_laysRings 0 = .ok (.aload_n 0, 1) := by decide +kernel
theorem dX5_laysRings_1 : decode cX5_laysRings 1 = .ok (.iconst 0, 1) := by decide +kernel
theorem dX5_laysRings_2 : decode cX5_laysRings 2 = .ok (.putfield 161, 3) := by decide +kernel
theorem dX5_laysRings_5 : decode cX5_laysRings 5 = .ok (.iconst 0, 1) := by decide +kernel
theorem dX5_laysRings_6 : decode cX5_laysRings 6 = .ok (.istore_n 2, 1) := by decide +kernel
theorem dX5_laysRings_7 : decode cX5_laysRings 7 = .ok (.iload_n 2, 1) := by decide +kernel
theorem dX5_laysRings_8 : decode cX5_laysRings 8 = .ok (.bipush 8, 2) := by decide +kernel
theorem dX5_laysRings_10 : decode cX5_laysRings 10 = .ok (.if_icmp .ge 16, 3) := by decide +kernel
theorem dX5_laysRings_13 : decode cX5_laysRings 13 = .ok (.aload_n 0, 1) := by decide +kernel
theorem dX5_laysRings_14 : decode cX5_laysRings 14 = .ok (.getfield 74, 3) := by decide +kernel
theorem dX5_laysRings_17 : decode cX5_laysRings 17 = .ok (.iload_n 2, 1) := by decide +kernel
theorem dX5_laysRings_18 : decode cX5_laysRings 18 = .ok (.iconst 0, 1) := by decide +kernel
theorem dX5_laysRings_19 : decode cX5_laysRings 19 = .ok (.iastore, 1) := by decide +kernel
theorem dX5_laysRings_20 : decode cX5_laysRings 20 = .ok (.iinc 2 1, 3) := by decide +kernel
theorem dX5_laysRings_23 : decode cX5_laysRings 23 = .ok (.goto (-16), 3) := by decide +kernel
theorem dX5_laysRings_26 : decode cX5_laysRings 26 = .ok (.iconst 2, 1) := by decide +kernel
theorem dX5_laysRings_27 : decode cX5_laysRings 27 = .ok (.istore_n 2, 1) := by decide +kernel
theorem dX5_laysRings_28 : decode cX5_laysRings 28 = .ok (.iload_n 2, 1) := by decide +kernel
theorem dX5_laysRings_29 : decode cX5_laysRings 29 = .ok (.aload_n 0, 1) := by decide +kernel
theorem dX5_laysRings_30 : decode cX5_laysRings 30 = .ok (.getfield 103, 3) := by decide +kernel
theorem dX5_laysRings_33 : decode cX5_laysRings 33 = .ok (.if_icmp .ge 97, 3) := by decide +kernel
theorem dX5_laysRings_36 : decode cX5_laysRings 36 = .ok (.iconst 1, 1) := by decide +kernel
theorem dX5_laysRings_37 : decode cX5_laysRings 37 = .ok (.istore_n 3, 1) := by decide +kernel
theorem dX5_laysRings_38 : decode cX5_laysRings 38 = .ok (.iload_n 3, 1) := by decide +kernel
theorem dX5_laysRings_39 : decode cX5_laysRings 39 = .ok (.iload_n 2, 1) := by decide +kernel
theorem dX5_laysRings_40 : decode cX5_laysRings 40 = .ok (.if_icmp .ge 84, 3) := by decide +kernel
theorem dX5_laysRings_43 : decode cX5_laysRings 43 = .ok (.iconst 0, 1) := by decide +kernel
theorem dX5_laysRings_44 : decode cX5_laysRings 44 = .ok (.istore 4, 2) := by decide +kernel
theorem dX5_laysRings_46 : decode cX5_laysRings 46 = .ok (.iload 4, 2) := by decide +kernel
theorem dX5_laysRings_48 : decode cX5_laysRings 48 = .ok (.iload_n 3, 1) := by decide +kernel
theorem dX5_laysRings_49 : decode cX5_laysRings 49 = .ok (.if_icmp .ge 69, 3) := by decide +kernel
theorem dX5_laysRings_52 : decode cX5_laysRings 52 = .ok (.aload_n 0, 1) := by decide +kernel
theorem dX5_laysRings_53 : decode cX5_laysRings 53 = .ok (.iload 4, 2) := by decide +kernel
theorem dX5_laysRings_55 : decode cX5_laysRings 55 = .ok (.iload_n 1, 1) := by decide +kernel
theorem dX5_laysRings_56 : decode cX5_laysRings 56 = .ok (.invokevirtual 152, 3) := by decide +kernel
theorem dX5_laysRings_59 : decode cX5_laysRings 59 = .ok (.ifCond .eq 25, 3) := by decide +kernel
theorem dX5_laysRings_62 : decode cX5_laysRings 62 = .ok (.aload_n 0, 1) := by decide +kernel
theorem dX5_laysRings_63 : decode cX5_laysRings 63 = .ok (.iload_n 3, 1) := by decide +kernel
theorem dX5_laysRings_64 : decode cX5_laysRings 64 = .ok (.iload_n 1, 1) := by decide +kernel
theorem dX5_laysRings_65 : decode cX5_laysRings 65 = .ok (.invokevirtual 152, 3) := by decide +kernel
theorem dX5_laysRings_68 : decode cX5_laysRings 68 = .ok (.ifCond .eq 16, 3) := by decide +kernel
theorem dX5_laysRings_71 : decode cX5_laysRings 71 = .ok (.aload_n 0, 1) := by decide +kernel
theorem dX5_laysRings_72 : decode cX5_laysRings 72 = .ok (.iload_n 2, 1) := by decide +kernel
theorem dX5_laysRings_73 : decode cX5_laysRings 73 = .ok (.iload_n 1, 1) := by decide +kernel
theorem dX5_laysRings_74 : decode cX5_laysRings 74 = .ok (.invokevirtual 152, 3) := by decide +kernel
theorem dX5_laysRings_77 : decode cX5_laysRings 77 = .ok (.ifCond .eq 7, 3) := by decide +kernel
theorem dX5_laysRings_80 : decode cX5_laysRings 80 = .ok (.iconst 1, 1) := by decide +kernel
theorem dX5_laysRings_81 : decode cX5_laysRings 81 = .ok (.goto 4, 3) := by decide +kernel
theorem dX5_laysRings_84 : decode cX5_laysRings 84 = .ok (.iconst 0, 1) := by decide +kernel
theorem dX5_laysRings_85 : decode cX5_laysRings 85 = .ok (.istore 5, 2) := by decide +kernel
theorem dX5_laysRings_87 : decode cX5_laysRings 87 = .ok (.iload 5, 2) := by decide +kernel
theorem dX5_laysRings_89 : decode cX5_laysRings 89 = .ok (.ifCond .eq 23, 3) := by decide +kernel
theorem dX5_laysRings_92 : decode cX5_laysRings 92 = .ok (.aload_n 0, 1) := by decide +kernel
theorem dX5_laysRings_93 : decode cX5_laysRings 93 = .ok (.iload 4, 2) := by decide +kernel
theorem dX5_laysRings_95 : decode cX5_laysRings 95 = .ok (.iload_n 3, 1) := by decide +kernel
theorem dX5_laysRings_96 : decode cX5_laysRings 96 = .ok (.iload_n 2, 1) := by decide +kernel
theorem dX5_laysRings_97 : decode cX5_laysRings 97 = .ok (.invokevirtual 168, 3) := by decide +kernel
theorem dX5_laysRings_100 : decode cX5_laysRings 100 = .ok (.ifCond .eq 12, 3) := by decide +kernel
theorem dX5_laysRings_103 : decode cX5_laysRings 103 = .ok (.aload_n 0, 1) := by decide +kernel
theorem dX5_laysRings_104 : decode cX5_laysRings 104 = .ok (.iload 4, 2) := by decide +kernel
theorem dX5_laysRings_106 : decode cX5_laysRings 106 = .ok (.iload_n 3, 1) := by decide +kernel
theorem dX5_laysRings_107 : decode cX5_laysRings 107 = .ok (.iload_n 2, 1) := by decide +kernel
theorem dX5_laysRings_108 : decode cX5_laysRings 108 = .ok (.iload_n 1, 1) := by decide +kernel
theorem dX5_laysRings_109 : decode cX5_laysRings 109 = .ok (.invokevirtual 171, 3) := by decide +kernel
theorem dX5_laysRings_112 : decode cX5_laysRings 112 = .ok (.iinc 4 1, 3) := by decide +kernel
theorem dX5_laysRings_115 : decode cX5_laysRings 115 = .ok (.goto (-69), 3) := by decide +kernel
theorem dX5_laysRings_118 : decode cX5_laysRings 118 = .ok (.iinc 3 1, 3) := by decide +kernel
theorem dX5_laysRings_121 : decode cX5_laysRings 121 = .ok (.goto (-83), 3) := by decide +kernel
theorem dX5_laysRings_124 : decode cX5_laysRings 124 = .ok (.iinc 2 1, 3) := by decide +kernel
theorem dX5_laysRings_127 : decode cX5_laysRings 127 = .ok (.goto (-99), 3) := by decide +kernel
theorem dX5_laysRings_130 : decode cX5_laysRings 130 = .ok (.return_, 1) := by decide +kernel
theorem dX5_openRings_0 : decode cX5_openRings 0 = .ok (.iconst 0, 1) := by decide +kernel
theorem dX5_openRings_1 : decode cX5_openRings 1 = .ok (.istore_n 1, 1) := by decide +kernel
theorem dX5_openRings_2 : decode cX5_openRings 2 = .ok (.iconst 0, 1) := by decide +kernel
theorem dX5_openRings_3 : decode cX5_openRings 3 = .ok (.istore_n 2, 1) := by decide +kernel
theorem dX5_openRings_4 : decode cX5_openRings 4 = .ok (.iload_n 2, 1) := by decide +kernel
theorem dX5_openRings_5 : decode cX5_openRings 5 = .ok (.aload_n 0, 1) := by decide +kernel
theorem dX5_openRings_6 : decode cX5_openRings 6 = .ok (.getfield 161, 3) := by decide +kernel
theorem dX5_openRings_9 : decode cX5_openRings 9 = .ok (.if_icmp .ge 89, 3) := by decide +kernel
theorem dX5_openRings_12 : decode cX5_openRings 12 = .ok (.aload_n 0, 1) := by decide +kernel
theorem dX5_openRings_13 : decode cX5_openRings 13 = .ok (.getfield 83, 3) := by decide +kernel
theorem dX5_openRings_16 : decode cX5_openRings 16 = .ok (.iload_n 2, 1) := by decide +kernel
theorem dX5_openRings_17 : decode cX5_openRings 17 = .ok (.iaload, 1) := by decide +kernel
theorem dX5_openRings_18 : decode cX5_openRings 18 = .ok (.istore_n 3, 1) := by decide +kernel
theorem dX5_openRings_19 : decode cX5_openRings 19 = .ok (.iconst 3, 1) := by decide +kernel
theorem dX5_openRings_20 : decode cX5_openRings 20 = .ok (.iload_n 2, 1) := by decide +kernel
theorem dX5_openRings_21 : decode cX5_openRings 21 = .ok (.imul, 1) := by decide +kernel
theorem dX5_openRings_22 : decode cX5_openRings 22 = .ok (.istore 4, 2) := by decide +kernel
theorem dX5_openRings_24 : decode cX5_openRings 24 = .ok (.iload 4, 2) := by decide +kernel
theorem dX5_openRings_26 : decode cX5_openRings 26 = .ok (.iconst 3, 1) := by decide +kernel
theorem dX5_openRings_27 : decode cX5_openRings 27 = .ok (.iload_n 2, 1) := by decide +kernel
theorem dX5_openRings_28 : decode cX5_openRings 28 = .ok (.imul, 1) := by decide +kernel
theorem dX5_openRings_29 : decode cX5_openRings 29 = .ok (.iconst 3, 1) := by decide +kernel
theorem dX5_openRings_30 : decode cX5_openRings 30 = .ok (.iadd, 1) := by decide +kernel
theorem dX5_openRings_31 : decode cX5_openRings 31 = .ok (.if_icmp .ge 36, 3) := by decide +kernel
theorem dX5_openRings_34 : decode cX5_openRings 34 = .ok (.iload_n 3, 1) := by decide +kernel
theorem dX5_openRings_35 : decode cX5_openRings 35 = .ok (.sipush 1000, 3) := by decide +kernel
theorem dX5_openRings_38 : decode cX5_openRings 38 = .ok (.aload_n 0, 1) := by decide +kernel
theorem dX5_openRings_39 : decode cX5_openRings 39 = .ok (.getfield 80, 3) := by decide +kernel
theorem dX5_openRings_42 : decode cX5_openRings 42 = .ok (.iload 4, 2) := by decide +kernel
theorem dX5_openRings_44 : decode cX5_openRings 44 = .ok (.iaload, 1) := by decide +kernel
theorem dX5_openRings_45 : decode cX5_openRings 45 = .ok (.imul, 1) := by decide +kernel
theorem dX5_openRings_46 : decode cX5_openRings 46 = .ok (.aload_n 0, 1) := by decide +kernel
theorem dX5_openRings_47 : decode cX5_openRings 47 = .ok (.getfield 74, 3) := by decide +kernel
theorem dX5_openRings_50 : decode cX5_openRings 50 = .ok (.aload_n 0, 1) := by decide +kernel
theorem dX5_openRings_51 : decode cX5_openRings 51 = .ok (.getfield 77, 3) := by decide +kernel
theorem dX5_openRings_54 : decode cX5_openRings 54 = .ok (.iload 4, 2) := by decide +kernel
theorem dX5_openRings_56 : decode cX5_openRings 56 = .ok (.iaload, 1) := by decide +kernel
theorem dX5_openRings_57 : decode cX5_openRings 57 = .ok (.iaload, 1) := by decide +kernel
theorem dX5_openRings_58 : decode cX5_openRings 58 = .ok (.imul, 1) := by decide +kernel
theorem dX5_openRings_59 : decode cX5_openRings 59 = .ok (.isub, 1) := by decide +kernel
theorem dX5_openRings_60 : decode cX5_openRings 60 = .ok (.istore_n 3, 1) := by decide +kernel
theorem dX5_openRings_61 : decode cX5_openRings 61 = .ok (.iinc 4 1, 3) := by decide +kernel
theorem dX5_openRings_64 : decode cX5_openRings 64 = .ok (.goto (-40), 3) := by decide +kernel
theorem dX5_openRings_67 : decode cX5_openRings 67 = .ok (.iload_n 1, 1) := by decide +kernel
theorem dX5_openRings_68 : decode cX5_openRings 68 = .ok (.iload_n 3, 1) := by decide +kernel
theorem dX5_openRings_69 : decode cX5_openRings 69 = .ok (.aload_n 0, 1) := by decide +kernel
theorem dX5_openRings_70 : decode cX5_openRings 70 = .ok (.getfield 86, 3) := by decide +kernel
theorem dX5_openRings_73 : decode cX5_openRings 73 = .ok (.if_icmp .gt 12, 3) := by decide +kernel
theorem dX5_openRings_76 : decode cX5_openRings 76 = .ok (.iload_n 3, 1) := by decide +kernel
theorem dX5_openRings_77 : decode cX5_openRings 77 = .ok (.aload_n 0, 1) := by decide +kernel
theorem dX5_openRings_78 : decode cX5_openRings 78 = .ok (.getfield 86, 3) := by decide +kernel
theorem dX5_openRings_81 : decode cX5_openRings 81 = .ok (.ineg, 1) := by decide +kernel
theorem dX5_openRings_82 : decode cX5_openRings 82 = .ok (.if_icmp .ge 7, 3) := by decide +kernel
theorem dX5_openRings_85 : decode cX5_openRings 85 = .ok (.iconst 1, 1) := by decide +kernel
theorem dX5_openRings_86 : decode cX5_openRings 86 = .ok (.goto 4, 3) := by decide +kernel
theorem dX5_openRings_89 : decode cX5_openRings 89 = .ok (.iconst 0, 1) := by decide +kernel
theorem dX5_openRings_90 : decode cX5_openRings 90 = .ok (.iadd, 1) := by decide +kernel
theorem dX5_openRings_91 : decode cX5_openRings 91 = .ok (.istore_n 1, 1) := by decide +kernel
theorem dX5_openRings_92 : decode cX5_openRings 92 = .ok (.iinc 2 1, 3) := by decide +kernel
theorem dX5_openRings_95 : decode cX5_openRings 95 = .ok (.goto (-91), 3) := by decide +kernel
theorem dX5_openRings_98 : decode cX5_openRings 98 = .ok (.iload_n 1, 1) := by decide +kernel
theorem dX5_openRings_99 : decode cX5_openRings 99 = .ok (.ireturn, 1) := by decide +kernel
theorem dX5_least_0 : decode cX5_least 0 = .ok (.iload_n 0, 1) := by decide +kernel
theorem dX5_least_1 : decode cX5_least 1 = .ok (.iload_n 1, 1) := by decide +kernel
theorem dX5_least_2 : decode cX5_least 2 = .ok (.if_icmp .ge 16, 3) := by decide +kernel
theorem dX5_least_5 : decode cX5_least 5 = .ok (.iload_n 0, 1) := by decide +kernel
theorem dX5_least_6 : decode cX5_least 6 = .ok (.iload_n 2, 1) := by decide +kernel
theorem dX5_least_7 : decode cX5_least 7 = .ok (.if_icmp .ge 7, 3) := by decide +kernel
theorem dX5_least_10 : decode cX5_least 10 = .ok (.iload_n 0, 1) := by decide +kernel
theorem dX5_least_11 : decode cX5_least 11 = .ok (.goto 17, 3) := by decide +kernel
theorem dX5_least_14 : decode cX5_least 14 = .ok (.iload_n 2, 1) := by decide +kernel
theorem dX5_least_15 : decode cX5_least 15 = .ok (.goto 13, 3) := by decide +kernel
theorem dX5_least_18 : decode cX5_least 18 = .ok (.iload_n 1, 1) := by decide +kernel
theorem dX5_least_19 : decode cX5_least 19 = .ok (.iload_n 2, 1) := by decide +kernel
theorem dX5_least_20 : decode cX5_least 20 = .ok (.if_icmp .ge 7, 3) := by decide +kernel
theorem dX5_least_23 : decode cX5_least 23 = .ok (.iload_n 1, 1) := by decide +kernel
theorem dX5_least_24 : decode cX5_least 24 = .ok (.goto 4, 3) := by decide +kernel
theorem dX5_least_27 : decode cX5_least 27 = .ok (.iload_n 2, 1) := by decide +kernel
theorem dX5_least_28 : decode cX5_least 28 = .ok (.ireturn, 1) := by decide +kernel
set_option maxRecDepth 20000 in
theorem ggX5_most_X5_least : GoodIn wsX5_most wsX5_least := goodIn_r _ [4] (by decide +kernel) (by decide +kernel)
set_option maxRecDepth 20000 in
theorem gX5_most_X5_least : GoodIn wsX5_most (va_wsS RX5 174 yX5_least wsX5_least) := goodIn_app (goodIn_of _ (by decide +kernel)) ggX5_most_X5_least
theorem dX5_most_0 : decode cX5_most 0 = .ok (.iload_n 0, 1) := by decide +kernel
theorem dX5_most_1 : decode cX5_most 1 = .ok (.ineg, 1) := by decide +kernel
theorem dX5_most_2 : decode cX5_most 2 = .ok (.iload_n 1, 1) := by decide +kernel
theorem dX5_most_3 : decode cX5_most 3 = .ok (.ineg, 1) := by decide +kernel
theorem dX5_most_4 : decode cX5_most 4 = .ok (.iload_n 2, 1) := by decide +kernel
theorem dX5_most_5 : decode cX5_most 5 = .ok (.ineg, 1) := by decide +kernel
theorem dX5_most_6 : decode cX5_most 6 = .ok (.invokestatic 174, 3) := by decide +kernel
theorem dX5_most_9 : decode cX5_most 9 = .ok (.ineg, 1) := by decide +kernel
theorem dX5_most_10 : decode cX5_most 10 = .ok (.ireturn, 1) := by decide +kernel
set_option maxRecDepth 20000 in
theorem ggX5_closes_X5_least : GoodIn wsX5_closes wsX5_least := goodIn_r _ [6] (by decide +kernel) (by decide +kernel)
set_option maxRecDepth 20000 in
theorem gX5_closes_X5_least : GoodIn wsX5_closes (va_wsS RX5 174 yX5_least wsX5_least) := goodIn_app (goodIn_of _ (by decide +kernel)) ggX5_closes_X5_least
set_option maxRecDepth 20000 in
theorem ggX5_closes_X5_most : GoodIn wsX5_closes wsX5_most := goodIn_r _ [9, 3, 4, 5, 6] (by decide +kernel) (by decide +kernel)
set_option maxRecDepth 20000 in
theorem gX5_closes_X5_most : GoodIn wsX5_closes (va_wsS RX5 178 yX5_most wsX5_most) := goodIn_app (goodIn_of _ (by decide +kernel)) ggX5_closes_X5_most
set_option maxRecDepth 20000 in
theorem ggX5_closes_X5_hasMeasured : GoodIn wsX5_closes wsX5_hasMeasured := goodIn_r _ [13, 14, 15, 16, 17, 5, 18, 19, 20, 21, 22, 23, 24, 25, 26, 27, 62, 63, 64, 65, 66, 67, 68, 69, 70, 71, 72, 73, 74, 75, 76, 77, 78, 79, 80, 81, 82, 83, 84, 85, 86, 87, 88, 89, 90, 91, 92, 93, 94, 95] (by decide +kernel) (by decide +kernel)
set_option maxRecDepth 20000 in
theorem gX5_closes_X5_hasMeasured : GoodIn wsX5_closes (wsV RX5 152 RX5 yX5_hasMeasured wsX5_hasMeasured) := goodIn_app (goodIn_of _ (by decide +kernel)) ggX5_closes_X5_hasMeasured
set_option maxRecDepth 20000 in
theorem ggX5_closes_X5_isRing : GoodIn wsX5_closes wsX5_isRing := goodIn_r _ [31, 32, 33, 34, 35, 36, 5, 37, 62, 63, 64, 65, 66, 67, 68, 69, 70, 71, 72, 73, 74, 75, 76, 77, 78, 79, 80, 81, 82, 83, 84, 85, 86, 87, 88, 89, 90, 91, 92, 93, 94, 95] (by decide +kernel) (by decide +kernel)
set_option maxRecDepth 20000 in
theorem gX5_closes_X5_isRing : GoodIn wsX5_closes (wsV RX5 168 RX5 yX5_isRing wsX5_isRing) := goodIn_app (goodIn_of _ (by decide +kernel)) ggX5_closes_X5_isRing
set_option maxRecDepth 20000 in
theorem ggX5_closes_X5_goes : GoodIn wsX5_closes wsX5_goes := goodIn_r _ [41, 42, 62, 63, 64, 65, 66, 67, 68, 69, 70, 71, 72, 73, 74, 75, 76, 77, 78, 79, 80, 81, 82, 83, 84, 85, 86, 87, 88, 89, 90, 91, 92, 93, 94, 95] (by decide +kernel) (by decide +kernel)
set_option maxRecDepth 20000 in
theorem gX5_closes_X5_goes : GoodIn wsX5_closes (wsV RX5 109 RX5 yX5_goes wsX5_goes) := goodIn_app (goodIn_of _ (by decide +kernel)) ggX5_closes_X5_goes
set_option maxRecDepth 20000 in
theorem ggX5_closes_X5_laysRing : GoodIn wsX5_closes wsX5_laysRing := goodIn_r _ [46, 32, 33, 1, 34, 35, 36, 5, 37, 47, 48, 49, 50, 51, 52, 2, 53, 54, 55, 56, 57, 58, 59, 60, 61, 20, 21, 22, 62, 63, 64, 65, 66, 67, 68, 69, 70, 71, 72, 73, 74, 75, 76, 77, 78, 79, 80, 81, 82, 83, 84, 85, 86, 87, 88, 89, 90, 91, 92, 93, 94, 95] (by decide +kernel) (by decide +kernel)
set_option maxRecDepth 20000 in
theorem gX5_closes_X5_laysRing : GoodIn wsX5_closes (wsV RX5 171 RX5 yX5_laysRing wsX5_laysRing) := goodIn_app (goodIn_of _ (by decide +kernel)) ggX5_closes_X5_laysRing
theorem dX5_closes_0 : decode cX5_closes 0 = .ok (.iload_n 1, 1) := by decide +kernel
theorem dX5_closes_1 : decode cX5_closes 1 = .ok (.iload_n 2, 1) := by decide +kernel
theorem dX5_closes_2 : decode cX5_closes 2 = .ok (.iload_n 3, 1) := by decide +kernel
theorem dX5_closes_3 : decode cX5_closes 3 = .ok (.invokestatic 174, 3) := by decide +kernel
theorem dX5_closes_6 : decode cX5_closes 6 = .ok (.istore 5, 2) := by decide +kernel
theorem dX5_closes_8 : decode cX5_closes 8 = .ok (.iload_n 1, 1) := by decide +kernel
theorem dX5_closes_9 : decode cX5_closes 9 = .ok (.iload_n 2, 1) := by decide +kernel
theorem dX5_closes_10 : decode cX5_closes 10 = .ok (.iload_n 3, 1) := by decide +kernel
theorem dX5_closes_11 : decode cX5_closes 11 = .ok (.invokestatic 178, 3) := by decide +kernel
theorem dX5_closes_14 : decode cX5_closes 14 = .ok (.istore 6, 2) := by decide +kernel
theorem dX5_closes_16 : decode cX5_closes 16 = .ok (.iload_n 1, 1) := by decide +kernel
theorem dX5_closes_17 : decode cX5_closes 17 = .ok (.iload 5, 2) := by decide +kernel
theorem dX5_closes_19 : decode cX5_closes 19 = .ok (.if_icmp .eq 13, 3) := by decide +kernel
theorem dX5_closes_22 : decode cX5_closes 22 = .ok (.iload_n 1, 1) := by decide +kernel
theorem dX5_closes_23 : decode cX5_closes 23 = .ok (.iload 6, 2) := by decide +kernel
theorem dX5_closes_25 : decode cX5_closes 25 = .ok (.if_icmp .eq 7, 3) := by decide +kernel
theorem dX5_closes_28 : decode cX5_closes 28 = .ok (.iload_n 1, 1) := by decide +kernel
theorem dX5_closes_29 : decode cX5_closes 29 = .ok (.goto 20, 3) := by decide +kernel
theorem dX5_closes_32 : decode cX5_closes 32 = .ok (.iload_n 2, 1) := by decide +kernel
theorem dX5_closes_33 : decode cX5_closes 33 = .ok (.iload 5, 2) := by decide +kernel
theorem dX5_closes_35 : decode cX5_closes 35 = .ok (.if_icmp .eq 13, 3) := by decide +kernel
theorem dX5_closes_38 : decode cX5_closes 38 = .ok (.iload_n 2, 1) := by decide +kernel
theorem dX5_closes_39 : decode cX5_closes 39 = .ok (.iload 6, 2) := by decide +kernel
theorem dX5_closes_41 : decode cX5_closes 41 = .ok (.if_icmp .eq 7, 3) := by decide +kernel
theorem dX5_closes_44 : decode cX5_closes 44 = .ok (.iload_n 2, 1) := by decide +kernel
theorem dX5_closes_45 : decode cX5_closes 45 = .ok (.goto 4, 3) := by decide +kernel
theorem dX5_closes_48 : decode cX5_closes 48 = .ok (.iload_n 3, 1) := by decide +kernel
theorem dX5_closes_49 : decode cX5_closes 49 = .ok (.istore 7, 2) := by decide +kernel
theorem dX5_closes_51 : decode cX5_closes 51 = .ok (.aload_n 0, 1) := by decide +kernel
theorem dX5_closes_52 : decode cX5_closes 52 = .ok (.iload_n 1, 1) := by decide +kernel
theorem dX5_closes_53 : decode cX5_closes 53 = .ok (.iload 4, 2) := by decide +kernel
theorem dX5_closes_55 : decode cX5_closes 55 = .ok (.invokevirtual 152, 3) := by decide +kernel
theorem dX5_closes_58 : decode cX5_closes 58 = .ok (.ifCond .eq 27, 3) := by decide +kernel
theorem dX5_closes_61 : decode cX5_closes 61 = .ok (.aload_n 0, 1) := by decide +kernel
theorem dX5_closes_62 : decode cX5_closes 62 = .ok (.iload_n 2, 1) := by decide +kernel
theorem dX5_closes_63 : decode cX5_closes 63 = .ok (.iload 4, 2) := by decide +kernel
theorem dX5_closes_65 : decode cX5_closes 65 = .ok (.invokevirtual 152, 3) := by decide +kernel
theorem dX5_closes_68 : decode cX5_closes 68 = .ok (.ifCond .eq 17, 3) := by decide +kernel
theorem dX5_closes_71 : decode cX5_closes 71 = .ok (.aload_n 0, 1) := by decide +kernel
theorem dX5_closes_72 : decode cX5_closes 72 = .ok (.iload_n 3, 1) := by decide +kernel
theorem dX5_closes_73 : decode cX5_closes 73 = .ok (.iload 4, 2) := by decide +kernel
theorem dX5_closes_75 : decode cX5_closes 75 = .ok (.invokevirtual 152, 3) := by decide +kernel
theorem dX5_closes_78 : decode cX5_closes 78 = .ok (.ifCond .eq 7, 3) := by decide +kernel
theorem dX5_closes_81 : decode cX5_closes 81 = .ok (.iconst 1, 1) := by decide +kernel
theorem dX5_closes_82 : decode cX5_closes 82 = .ok (.goto 4, 3) := by decide +kernel
theorem dX5_closes_85 : decode cX5_closes 85 = .ok (.iconst 0, 1) := by decide +kernel
theorem dX5_closes_86 : decode cX5_closes 86 = .ok (.istore 8, 2) := by decide +kernel
theorem dX5_closes_88 : decode cX5_closes 88 = .ok (.aload_n 0, 1) := by decide +kernel
theorem dX5_closes_89 : decode cX5_closes 89 = .ok (.iload 8, 2) := by decide +kernel
theorem dX5_closes_91 : decode cX5_closes 91 = .ok (.iload 8, 2) := by decide +kernel
theorem dX5_closes_93 : decode cX5_closes 93 = .ok (.ifCond .eq 35, 3) := by decide +kernel
theorem dX5_closes_96 : decode cX5_closes 96 = .ok (.iload_n 1, 1) := by decide +kernel
theorem dX5_closes_97 : decode cX5_closes 97 = .ok (.iload_n 2, 1) := by decide +kernel
theorem dX5_closes_98 : decode cX5_closes 98 = .ok (.if_icmp .eq 30, 3) := by decide +kernel
theorem dX5_closes_101 : decode cX5_closes 101 = .ok (.iload_n 1, 1) := by decide +kernel
theorem dX5_closes_102 : decode cX5_closes 102 = .ok (.iload_n 3, 1) := by decide +kernel
theorem dX5_closes_103 : decode cX5_closes 103 = .ok (.if_icmp .eq 25, 3) := by decide +kernel
theorem dX5_closes_106 : decode cX5_closes 106 = .ok (.iload_n 2, 1) := by decide +kernel
theorem dX5_closes_107 : decode cX5_closes 107 = .ok (.iload_n 3, 1) := by decide +kernel
theorem dX5_closes_108 : decode cX5_closes 108 = .ok (.if_icmp .eq 20, 3) := by decide +kernel
theorem dX5_closes_111 : decode cX5_closes 111 = .ok (.aload_n 0, 1) := by decide +kernel
theorem dX5_closes_112 : decode cX5_closes 112 = .ok (.iload 5, 2) := by decide +kernel
theorem dX5_closes_114 : decode cX5_closes 114 = .ok (.iload 7, 2) := by decide +kernel
theorem dX5_closes_116 : decode cX5_closes 116 = .ok (.iload 6, 2) := by decide +kernel
theorem dX5_closes_118 : decode cX5_closes 118 = .ok (.invokevirtual 168, 3) := by decide +kernel
theorem dX5_closes_121 : decode cX5_closes 121 = .ok (.ifCond .eq 7, 3) := by decide +kernel
theorem dX5_closes_124 : decode cX5_closes 124 = .ok (.iconst 1, 1) := by decide +kernel
theorem dX5_closes_125 : decode cX5_closes 125 = .ok (.goto 4, 3) := by decide +kernel
theorem dX5_closes_128 : decode cX5_closes 128 = .ok (.iconst 0, 1) := by decide +kernel
theorem dX5_closes_129 : decode cX5_closes 129 = .ok (.iconst 1, 1) := by decide +kernel
theorem dX5_closes_130 : decode cX5_closes 130 = .ok (.invokevirtual 109, 3) := by decide +kernel
theorem dX5_closes_133 : decode cX5_closes 133 = .ok (.ifCond .ne 5, 3) := by decide +kernel
theorem dX5_closes_136 : decode cX5_closes 136 = .ok (.iconst 0, 1) := by decide +kernel
theorem dX5_closes_137 : decode cX5_closes 137 = .ok (.ireturn, 1) := by decide +kernel
theorem dX5_closes_138 : decode cX5_closes 138 = .ok (.aload_n 0, 1) := by decide +kernel
theorem dX5_closes_139 : decode cX5_closes 139 = .ok (.iconst 0, 1) := by decide +kernel
theorem dX5_closes_140 : decode cX5_closes 140 = .ok (.putfield 161, 3) := by decide +kernel
theorem dX5_closes_143 : decode cX5_closes 143 = .ok (.aload_n 0, 1) := by decide +kernel
theorem dX5_closes_144 : decode cX5_closes 144 = .ok (.iload 5, 2) := by decide +kernel
theorem dX5_closes_146 : decode cX5_closes 146 = .ok (.iload 7, 2) := by decide +kernel
theorem dX5_closes_148 : decode cX5_closes 148 = .ok (.iload 6, 2) := by decide +kernel
theorem dX5_closes_150 : decode cX5_closes 150 = .ok (.iload 4, 2) := by decide +kernel
theorem dX5_closes_152 : decode cX5_closes 152 = .ok (.invokevirtual 171, 3) := by decide +kernel
theorem dX5_closes_155 : decode cX5_closes 155 = .ok (.aload_n 0, 1) := by decide +kernel
theorem dX5_closes_156 : decode cX5_closes 156 = .ok (.getfield 83, 3) := by decide +kernel
theorem dX5_closes_159 : decode cX5_closes 159 = .ok (.iconst 0, 1) := by decide +kernel
theorem dX5_closes_160 : decode cX5_closes 160 = .ok (.iaload, 1) := by decide +kernel
theorem dX5_closes_161 : decode cX5_closes 161 = .ok (.ireturn, 1) := by decide +kernel
set_option maxRecDepth 20000 in
theorem ggX5_open_X5_isDay : GoodIn wsX5_open wsX5_isDay := goodIn_r _ [5, 6, 7, 8, 4, 9, 66, 67, 68, 69, 70, 71, 72, 73, 74, 75, 76, 77, 78, 79, 80, 81, 82, 83, 84, 85, 86, 87, 88, 89, 90, 91, 92, 93, 94, 95, 96, 97, 98, 99] (by decide +kernel) (by decide +kernel)
set_option maxRecDepth 20000 in
theorem gX5_open_X5_isDay : GoodIn wsX5_open (wsV RX5 149 RX5 yX5_isDay wsX5_isDay) := goodIn_app (goodIn_of _ (by decide +kernel)) ggX5_open_X5_isDay
set_option maxRecDepth 20000 in
theorem ggX5_open_X5_goes : GoodIn wsX5_open wsX5_goes := goodIn_r _ [13, 14, 66, 67, 68, 69, 70, 71, 72, 73, 74, 75, 76, 77, 78, 79, 80, 81, 82, 83, 84, 85, 86, 87, 88, 89, 90, 91, 92, 93, 94, 95, 96, 97, 98, 99] (by decide +kernel) (by decide +kernel)
set_option maxRecDepth 20000 in
theorem gX5_open_X5_goes : GoodIn wsX5_open (wsV RX5 109 RX5 yX5_goes wsX5_goes) := goodIn_app (goodIn_of _ (by decide +kernel)) ggX5_open_X5_goes
set_option maxRecDepth 20000 in
theorem ggX5_open_X5_laysRings : GoodIn wsX5_open wsX5_laysRings := goodIn_r _ [18, 19, 20, 21, 22, 23, 24, 4, 25, 26, 27, 28, 29, 30, 7, 8, 9, 1, 2, 3, 5, 6, 31, 32, 33, 34, 35, 36, 37, 38, 39, 40, 41, 42, 43, 44, 45, 46, 47, 48, 49, 50, 51, 52, 53, 54, 55, 56, 57, 58, 59, 60, 66, 67, 68, 69, 70, 71, 72, 73, 74, 75, 76, 77, 78, 79, 80, 81, 82, 83, 84, 85, 86, 87, 88, 89, 90, 91, 92, 93, 94, 95, 96, 97, 98, 99] (by decide +kernel) (by decide +kernel)
set_option maxRecDepth 20000 in
theorem gX5_open_X5_laysRings : GoodIn wsX5_open (wsV RX5 181 RX5 yX5_laysRings wsX5_laysRings) := goodIn_app (goodIn_of _ (by decide +kernel)) ggX5_open_X5_laysRings
set_option maxRecDepth 20000 in
theorem ggX5_open_X5_openRings : GoodIn wsX5_open wsX5_openRings := goodIn_r _ [64, 19, 51, 50, 20, 49, 65, 66, 67, 68, 69, 70, 71, 72, 73, 74, 75, 76, 77, 78, 79, 80, 81, 82, 83, 84, 85, 86, 87, 88, 89, 90, 91, 92, 93, 94, 95, 96, 97, 98, 99] (by decide +kernel) (by decide +kernel)
set_option maxRecDepth 20000 in
theorem gX5_open_X5_openRings : GoodIn wsX5_open (wsV RX5 184 RX5 yX5_openRings wsX5_openRings) := goodIn_app (goodIn_of _ (by decide +kernel)) ggX5_open_X5_openRings
theorem dX5_open_0 : decode cX5_open 0 = .ok (.aload_n 0, 1) := by decide +kernel
theorem dX5_open_1 : decode cX5_open 1 = .ok (.aload_n 0, 1) := by decide +kernel
theorem dX5_open_2 : decode cX5_open 2 = .ok (.iload_n 1, 1) := by decide +kernel
theorem dX5_open_3 : decode cX5_open 3 = .ok (.invokevirtual 149, 3) := by decide +kernel
theorem dX5_open_6 : decode cX5_open 6 = .ok (.iconst 1, 1) := by decide +kernel
theorem dX5_open_7 : decode cX5_open 7 = .ok (.iconst 1, 1) := by decide +kernel
theorem dX5_open_8 : decode cX5_open 8 = .ok (.invokevirtual 109, 3) := by decide +kernel
theorem dX5_open_11 : decode cX5_open 11 = .ok (.ifCond .ne 5, 3) := by decide +kernel
theorem dX5_open_14 : decode cX5_open 14 = .ok (.iconst 0, 1) := by decide +kernel
theorem dX5_open_15 : decode cX5_open 15 = .ok (.ireturn, 1) := by decide +kernel
theorem dX5_open_16 : decode cX5_open 16 = .ok (.aload_n 0, 1) := by decide +kernel
theorem dX5_open_17 : decode cX5_open 17 = .ok (.iload_n 1, 1) := by decide +kernel
theorem dX5_open_18 : decode cX5_open 18 = .ok (.invokevirtual 181, 3) := by decide +kernel
theorem dX5_open_21 : decode cX5_open 21 = .ok (.aload_n 0, 1) := by decide +kernel
theorem dX5_open_22 : decode cX5_open 22 = .ok (.invokevirtual 184, 3) := by decide +kernel
theorem dX5_open_25 : decode cX5_open 25 = .ok (.ireturn, 1) := by decide +kernel
set_option maxRecDepth 20000 in
theorem ggX5_laysOut_X5_hasMeasured : GoodIn wsX5_laysOut wsX5_hasMeasured := goodIn_r _ [7, 8, 9, 10, 11, 6, 12, 1, 13, 14, 15, 16, 17, 18, 19, 20, 21, 22, 23, 24, 25, 26, 27, 28, 29, 30, 31, 32, 33, 34, 35, 36, 37, 38, 39, 40, 41, 42, 43, 44, 45, 46, 47, 48, 49, 50, 51, 52, 53, 54] (by decide +kernel) (by decide +kernel)
set_option maxRecDepth 20000 in
theorem gX5_laysOut_X5_hasMeasured : GoodIn wsX5_laysOut (wsV RX5 152 RX5 yX5_hasMeasured wsX5_hasMeasured) := goodIn_app (goodIn_of _ (by decide +kernel)) ggX5_laysOut_X5_hasMeasured
theorem dX5_laysOut_0 : decode cX5_laysOut 0 = .ok (.iload_n 1, 1) := by decide +kernel
theorem dX5_laysOut_1 : decode cX5_laysOut 1 = .ok (.istore_n 3, 1) := by decide +kernel
theorem dX5_laysOut_2 : decode cX5_laysOut 2 = .ok (.iconst 0, 1) := by decide +kernel
theorem dX5_laysOut_3 : decode cX5_laysOut 3 = .ok (.istore 4, 2) := by decide +kernel
theorem dX5_laysOut_5 : decode cX5_laysOut 5 = .ok (.iconst 0, 1) := by decide +kernel
theorem dX5_laysOut_6 : decode cX5_laysOut 6 = .ok (.istore 5, 2) := by decide +kernel
theorem dX5_laysOut_8 : decode cX5_laysOut 8 = .ok (.iload 5, 2) := by decide +kernel
theorem dX5_laysOut_10 : decode cX5_laysOut 10 = .ok (.aload_n 0, 1) := by decide +kernel
theorem dX5_laysOut_11 : decode cX5_laysOut 11 = .ok (.getfield 103, 3) := by decide +kernel
theorem dX5_laysOut_14 : decode cX5_laysOut 14 = .ok (.if_icmp .ge 60, 3) := by decide +kernel
theorem dX5_laysOut_17 : decode cX5_laysOut 17 = .ok (.aload_n 0, 1) := by decide +kernel
theorem dX5_laysOut_18 : decode cX5_laysOut 18 = .ok (.getfield 74, 3) := by decide +kernel
theorem dX5_laysOut_21 : decode cX5_laysOut 21 = .ok (.iload 5, 2) := by decide +kernel
theorem dX5_laysOut_23 : decode cX5_laysOut 23 = .ok (.iload_n 3, 1) := by decide +kernel
theorem dX5_laysOut_24 : decode cX5_laysOut 24 = .ok (.iconst 3, 1) := by decide +kernel
theorem dX5_laysOut_25 : decode cX5_laysOut 25 = .ok (.irem, 1) := by decide +kernel
theorem dX5_laysOut_26 : decode cX5_laysOut 26 = .ok (.iconst 1, 1) := by decide +kernel
theorem dX5_laysOut_27 : decode cX5_laysOut 27 = .ok (.isub, 1) := by decide +kernel
theorem dX5_laysOut_28 : decode cX5_laysOut 28 = .ok (.iastore, 1) := by decide +kernel
theorem dX5_laysOut_29 : decode cX5_laysOut 29 = .ok (.iload 4, 2) := by decide +kernel
theorem dX5_laysOut_31 : decode cX5_laysOut 31 = .ok (.aload_n 0, 1) := by decide +kernel
theorem dX5_laysOut_32 : decode cX5_laysOut 32 = .ok (.getfield 74, 3) := by decide +kernel
theorem dX5_laysOut_35 : decode cX5_laysOut 35 = .ok (.iload 5, 2) := by decide +kernel
theorem dX5_laysOut_37 : decode cX5_laysOut 37 = .ok (.iaload, 1) := by decide +kernel
theorem dX5_laysOut_38 : decode cX5_laysOut 38 = .ok (.ifCond .ne 7, 3) := by decide +kernel
theorem dX5_laysOut_41 : decode cX5_laysOut 41 = .ok (.iconst 0, 1) := by decide +kernel
theorem dX5_laysOut_42 : decode cX5_laysOut 42 = .ok (.goto 19, 3) := by decide +kernel
theorem dX5_laysOut_45 : decode cX5_laysOut 45 = .ok (.aload_n 0, 1) := by decide +kernel
theorem dX5_laysOut_46 : decode cX5_laysOut 46 = .ok (.iload 5, 2) := by decide +kernel
theorem dX5_laysOut_48 : decode cX5_laysOut 48 = .ok (.iload_n 2, 1) := by decide +kernel
theorem dX5_laysOut_49 : decode cX5_laysOut 49 = .ok (.invokevirtual 152, 3) := by decide +kernel
theorem dX5_laysOut_52 : decode cX5_laysOut 52 = .ok (.ifCond .eq 7, 3) := by decide +kernel
theorem dX5_laysOut_55 : decode cX5_laysOut 55 = .ok (.iconst 1, 1) := by decide +kernel
theorem dX5_laysOut_56 : decode cX5_laysOut 56 = .ok (.goto 5, 3) := by decide +kernel
theorem dX5_laysOut_59 : decode cX5_laysOut 59 = .ok (.bipush 9, 2) := by decide +kernel
theorem dX5_laysOut_61 : decode cX5_laysOut 61 = .ok (.iadd, 1) := by decide +kernel
theorem dX5_laysOut_62 : decode cX5_laysOut 62 = .ok (.istore 4, 2) := by decide +kernel
theorem dX5_laysOut_64 : decode cX5_laysOut 64 = .ok (.iload_n 3, 1) := by decide +kernel
theorem dX5_laysOut_65 : decode cX5_laysOut 65 = .ok (.iconst 3, 1) := by decide +kernel
theorem dX5_laysOut_66 : decode cX5_laysOut 66 = .ok (.idiv, 1) := by decide +kernel
theorem dX5_laysOut_67 : decode cX5_laysOut 67 = .ok (.istore_n 3, 1) := by decide +kernel
theorem dX5_laysOut_68 : decode cX5_laysOut 68 = .ok (.iinc 5 1, 3) := by decide +kernel
theorem dX5_laysOut_71 : decode cX5_laysOut 71 = .ok (.goto (-63), 3) := by decide +kernel
theorem dX5_laysOut_74 : decode cX5_laysOut 74 = .ok (.iload 4, 2) := by decide +kernel
theorem dX5_laysOut_76 : decode cX5_laysOut 76 = .ok (.ireturn, 1) := by decide +kernel
set_option maxRecDepth 20000 in
theorem ggX5_slips_X5_isDay : GoodIn wsX5_slips wsX5_isDay := goodIn_r _ [6, 7, 8, 9, 5, 10, 70, 71, 72, 73, 74, 75, 76, 77, 78, 79, 80, 81, 82, 83, 84, 85, 86, 87, 88, 89, 90, 91, 92, 93, 94, 95, 96, 97, 98, 99, 100, 101, 102, 103] (by decide +kernel) (by decide +kernel)
set_option maxRecDepth 20000 in
theorem gX5_slips_X5_isDay : GoodIn wsX5_slips (wsV RX5 149 RX5 yX5_isDay wsX5_isDay) := goodIn_app (goodIn_of _ (by decide +kernel)) ggX5_slips_X5_isDay
set_option maxRecDepth 20000 in
theorem ggX5_slips_X5_goes : GoodIn wsX5_slips wsX5_goes := goodIn_r _ [14, 15, 70, 71, 72, 73, 74, 75, 76, 77, 78, 79, 80, 81, 82, 83, 84, 85, 86, 87, 88, 89, 90, 91, 92, 93, 94, 95, 96, 97, 98, 99, 100, 101, 102, 103] (by decide +kernel) (by decide +kernel)
set_option maxRecDepth 20000 in
theorem gX5_slips_X5_goes : GoodIn wsX5_slips (wsV RX5 109 RX5 yX5_goes wsX5_goes) := goodIn_app (goodIn_of _ (by decide +kernel)) ggX5_slips_X5_goes
set_option maxRecDepth 20000 in
theorem ggX5_slips_X5_laysRings : GoodIn wsX5_slips wsX5_laysRings := goodIn_r _ [19, 20, 21, 1, 22, 23, 24, 5, 25, 26, 27, 28, 29, 30, 8, 9, 10, 2, 3, 4, 6, 7, 31, 32, 33, 34, 35, 36, 37, 38, 39, 40, 41, 42, 43, 44, 45, 46, 47, 48, 49, 50, 51, 52, 53, 54, 55, 56, 57, 58, 59, 60, 70, 71, 72, 73, 74, 75, 76, 77, 78, 79, 80, 81, 82, 83, 84, 85, 86, 87, 88, 89, 90, 91, 92, 93, 94, 95, 96, 97, 98, 99, 100, 101, 102, 103] (by decide +kernel) (by decide +kernel)
set_option maxRecDepth 20000 in
theorem gX5_slips_X5_laysRings : GoodIn wsX5_slips (wsV RX5 181 RX5 yX5_laysRings wsX5_laysRings) := goodIn_app (goodIn_of _ (by decide +kernel)) ggX5_slips_X5_laysRings
set_option maxRecDepth 20000 in
theorem ggX5_slips_X5_laysOut : GoodIn wsX5_slips wsX5_laysOut := goodIn_r _ [64, 1, 21, 22, 23, 24, 5, 25, 26, 27, 28, 29, 30, 8, 9, 10, 2, 3, 4, 6, 7, 70, 71, 72, 73, 74, 75, 76, 77, 78, 79, 80, 81, 82, 83, 84, 85, 86, 87, 88, 89, 90, 91, 92, 93, 94, 95, 96, 97, 98, 99, 100, 101, 102, 103] (by decide +kernel) (by decide +kernel)
set_option maxRecDepth 20000 in
theorem gX5_slips_X5_laysOut : GoodIn wsX5_slips (wsV RX5 187 RX5 yX5_laysOut wsX5_laysOut) := goodIn_app (goodIn_of _ (by decide +kernel)) ggX5_slips_X5_laysOut
set_option maxRecDepth 20000 in
theorem ggX5_slips_X5_openRings : GoodIn wsX5_slips wsX5_openRings := goodIn_r _ [68, 20, 51, 50, 21, 49, 69, 70, 71, 72, 73, 74, 75, 76, 77, 78, 79, 80, 81, 82, 83, 84, 85, 86, 87, 88, 89, 90, 91, 92, 93, 94, 95, 96, 97, 98, 99, 100, 101, 102, 103] (by decide +kernel) (by decide +kernel)
set_option maxRecDepth 20000 in
theorem gX5_slips_X5_openRings : GoodIn wsX5_slips (wsV RX5 184 RX5 yX5_openRings wsX5_openRings) := goodIn_app (goodIn_of _ (by decide +kernel)) ggX5_slips_X5_openRings
theorem dX5_slips_0 : decode cX5_slips 0 = .ok (.aload_n 0, 1) := by decide +kernel
theorem dX5_slips_1 : decode cX5_slips 1 = .ok (.aload_n 0, 1) := by decide +kernel
theorem dX5_slips_2 : decode cX5_slips 2 = .ok (.iload_n 1, 1) := by decide +kernel
theorem dX5_slips_3 : decode cX5_slips 3 = .ok (.invokevirtual 149, 3) := by decide +kernel
theorem dX5_slips_6 : decode cX5_slips 6 = .ok (.iconst 1, 1) := by decide +kernel
theorem dX5_slips_7 : decode cX5_slips 7 = .ok (.iconst 1, 1) := by decide +kernel
theorem dX5_slips_8 : decode cX5_slips 8 = .ok (.invokevirtual 109, 3) := by decide +kernel
theorem dX5_slips_11 : decode cX5_slips 11 = .ok (.ifCond .ne 5, 3) := by decide +kernel
theorem dX5_slips_14 : decode cX5_slips 14 = .ok (.iconst 0, 1) := by decide +kernel
theorem dX5_slips_15 : decode cX5_slips 15 = .ok (.ireturn, 1) := by decide +kernel
theorem dX5_slips_16 : decode cX5_slips 16 = .ok (.iconst 1, 1) := by decide +kernel
theorem dX5_slips_17 : decode cX5_slips 17 = .ok (.istore_n 2, 1) := by decide +kernel
theorem dX5_slips_18 : decode cX5_slips 18 = .ok (.iconst 0, 1) := by decide +kernel
theorem dX5_slips_19 : decode cX5_slips 19 = .ok (.istore_n 3, 1) := by decide +kernel
theorem dX5_slips_20 : decode cX5_slips 20 = .ok (.iload_n 3, 1) := by decide +kernel
theorem dX5_slips_21 : decode cX5_slips 21 = .ok (.aload_n 0, 1) := by decide +kernel
theorem dX5_slips_22 : decode cX5_slips 22 = .ok (.getfield 103, 3) := by decide +kernel
theorem dX5_slips_25 : decode cX5_slips 25 = .ok (.if_icmp .ge 13, 3) := by decide +kernel
theorem dX5_slips_28 : decode cX5_slips 28 = .ok (.iload_n 2, 1) := by decide +kernel
theorem dX5_slips_29 : decode cX5_slips 29 = .ok (.iconst 3, 1) := by decide +kernel
theorem dX5_slips_30 : decode cX5_slips 30 = .ok (.imul, 1) := by decide +kernel
theorem dX5_slips_31 : decode cX5_slips 31 = .ok (.istore_n 2, 1) := by decide +kernel
theorem dX5_slips_32 : decode cX5_slips 32 = .ok (.iinc 3 1, 3) := by decide +kernel
theorem dX5_slips_35 : decode cX5_slips 35 = .ok (.goto (-15), 3) := by decide +kernel
theorem dX5_slips_38 : decode cX5_slips 38 = .ok (.iconst (-1), 1) := by decide +kernel
theorem dX5_slips_39 : decode cX5_slips 39 = .ok (.istore_n 3, 1) := by decide +kernel
theorem dX5_slips_40 : decode cX5_slips 40 = .ok (.bipush 9, 2) := by decide +kernel
theorem dX5_slips_42 : decode cX5_slips 42 = .ok (.istore 4, 2) := by decide +kernel
theorem dX5_slips_44 : decode cX5_slips 44 = .ok (.aload_n 0, 1) := by decide +kernel
theorem dX5_slips_45 : decode cX5_slips 45 = .ok (.iload_n 1, 1) := by decide +kernel
theorem dX5_slips_46 : decode cX5_slips 46 = .ok (.invokevirtual 181, 3) := by decide +kernel
theorem dX5_slips_49 : decode cX5_slips 49 = .ok (.iconst 0, 1) := by decide +kernel
theorem dX5_slips_50 : decode cX5_slips 50 = .ok (.istore 5, 2) := by decide +kernel
theorem dX5_slips_52 : decode cX5_slips 52 = .ok (.iload 5, 2) := by decide +kernel
theorem dX5_slips_54 : decode cX5_slips 54 = .ok (.iload_n 2, 1) := by decide +kernel
theorem dX5_slips_55 : decode cX5_slips 55 = .ok (.if_icmp .ge 39, 3) := by decide +kernel
theorem dX5_slips_58 : decode cX5_slips 58 = .ok (.aload_n 0, 1) := by decide +kernel
theorem dX5_slips_59 : decode cX5_slips 59 = .ok (.iload 5, 2) := by decide +kernel
theorem dX5_slips_61 : decode cX5_slips 61 = .ok (.iload_n 1, 1) := by decide +kernel
theorem dX5_slips_62 : decode cX5_slips 62 = .ok (.invokevirtual 187, 3) := by decide +kernel
theorem dX5_slips_65 : decode cX5_slips 65 = .ok (.istore 6, 2) := by decide +kernel
theorem dX5_slips_67 : decode cX5_slips 67 = .ok (.iload 6, 2) := by decide +kernel
theorem dX5_slips_69 : decode cX5_slips 69 = .ok (.iload 4, 2) := by decide +kernel
theorem dX5_slips_71 : decode cX5_slips 71 = .ok (.if_icmp .ge 17, 3) := by decide +kernel
theorem dX5_slips_74 : decode cX5_slips 74 = .ok (.aload_n 0, 1) := by decide +kernel
theorem dX5_slips_75 : decode cX5_slips 75 = .ok (.invokevirtual 184, 3) := by decide +kernel
theorem dX5_slips_78 : decode cX5_slips 78 = .ok (.ifCond .ne 10, 3) := by decide +kernel
theorem dX5_slips_81 : decode cX5_slips 81 = .ok (.iload 5, 2) := by decide +kernel
theorem dX5_slips_83 : decode cX5_slips 83 = .ok (.istore_n 3, 1) := by decide +kernel
theorem dX5_slips_84 : decode cX5_slips 84 = .ok (.iload 6, 2) := by decide +kernel
theorem dX5_slips_86 : decode cX5_slips 86 = .ok (.istore 4, 2) := by decide +kernel
theorem dX5_slips_88 : decode cX5_slips 88 = .ok (.iinc 5 1, 3) := by decide +kernel
theorem dX5_slips_91 : decode cX5_slips 91 = .ok (.goto (-39), 3) := by decide +kernel
theorem dX5_slips_94 : decode cX5_slips 94 = .ok (.iload_n 3, 1) := by decide +kernel
theorem dX5_slips_95 : decode cX5_slips 95 = .ok (.ireturn, 1) := by decide +kernel
set_option maxRecDepth 20000 in
theorem ggX5_linkOf_X5_hasMeasured : GoodIn wsX5_linkOf wsX5_hasMeasured := goodIn_r _ [8, 9, 10, 11, 12, 7, 13, 1, 14, 15, 16, 17, 18, 19, 20, 21, 22, 23, 24, 25, 26, 27, 28, 29, 30, 31, 32, 33, 34, 35, 36, 37, 38, 39, 40, 41, 42, 43, 44, 45, 46, 47, 48, 49, 50, 51, 52, 53, 54, 55] (by decide +kernel) (by decide +kernel)
set_option maxRecDepth 20000 in
theorem gX5_linkOf_X5_hasMeasured : GoodIn wsX5_linkOf (wsV RX5 152 RX5 yX5_hasMeasured wsX5_hasMeasured) := goodIn_app (goodIn_of _ (by decide +kernel)) ggX5_linkOf_X5_hasMeasured
theorem dX5_linkOf_0 : decode cX5_linkOf 0 = .ok (.iconst (-1), 1) := by decide +kernel
theorem dX5_linkOf_1 : decode cX5_linkOf 1 = .ok (.istore_n 3, 1) := by decide +kernel
theorem dX5_linkOf_2 : decode cX5_linkOf 2 = .ok (.aload_n 0, 1) := by decide +kernel
theorem dX5_linkOf_3 : decode cX5_linkOf 3 = .ok (.getfield 103, 3) := by decide +kernel
theorem dX5_linkOf_6 : decode cX5_linkOf 6 = .ok (.iconst 1, 1) := by decide +kernel
theorem dX5_linkOf_7 : decode cX5_linkOf 7 = .ok (.isub, 1) := by decide +kernel
theorem dX5_linkOf_8 : decode cX5_linkOf 8 = .ok (.istore 4, 2) := by decide +kernel
theorem dX5_linkOf_10 : decode cX5_linkOf 10 = .ok (.iload 4, 2) := by decide +kernel
theorem dX5_linkOf_12 : decode cX5_linkOf 12 = .ok (.ifCond .lt 80, 3) := by decide +kernel
theorem dX5_linkOf_15 : decode cX5_linkOf 15 = .ok (.aload_n 0, 1) := by decide +kernel
theorem dX5_linkOf_16 : decode cX5_linkOf 16 = .ok (.getfield 25, 3) := by decide +kernel
theorem dX5_linkOf_19 : decode cX5_linkOf 19 = .ok (.iload 4, 2) := by decide +kernel
theorem dX5_linkOf_21 : decode cX5_linkOf 21 = .ok (.iaload, 1) := by decide +kernel
theorem dX5_linkOf_22 : decode cX5_linkOf 22 = .ok (.iload_n 1, 1) := by decide +kernel
theorem dX5_linkOf_23 : decode cX5_linkOf 23 = .ok (.if_icmp .ne 13, 3) := by decide +kernel
theorem dX5_linkOf_26 : decode cX5_linkOf 26 = .ok (.aload_n 0, 1) := by decide +kernel
theorem dX5_linkOf_27 : decode cX5_linkOf 27 = .ok (.getfield 28, 3) := by decide +kernel
theorem dX5_linkOf_30 : decode cX5_linkOf 30 = .ok (.iload 4, 2) := by decide +kernel
theorem dX5_linkOf_32 : decode cX5_linkOf 32 = .ok (.iaload, 1) := by decide +kernel
theorem dX5_linkOf_33 : decode cX5_linkOf 33 = .ok (.ifCond .eq 24, 3) := by decide +kernel
theorem dX5_linkOf_36 : decode cX5_linkOf 36 = .ok (.aload_n 0, 1) := by decide +kernel
theorem dX5_linkOf_37 : decode cX5_linkOf 37 = .ok (.getfield 28, 3) := by decide +kernel
theorem dX5_linkOf_40 : decode cX5_linkOf 40 = .ok (.iload 4, 2) := by decide +kernel
theorem dX5_linkOf_42 : decode cX5_linkOf 42 = .ok (.iaload, 1) := by decide +kernel
theorem dX5_linkOf_43 : decode cX5_linkOf 43 = .ok (.iload_n 1, 1) := by decide +kernel
theorem dX5_linkOf_44 : decode cX5_linkOf 44 = .ok (.if_icmp .ne 17, 3) := by decide +kernel
theorem dX5_linkOf_47 : decode cX5_linkOf 47 = .ok (.aload_n 0, 1) := by decide +kernel
theorem dX5_linkOf_48 : decode cX5_linkOf 48 = .ok (.getfield 25, 3) := by decide +kernel
theorem dX5_linkOf_51 : decode cX5_linkOf 51 = .ok (.iload 4, 2) := by decide +kernel
theorem dX5_linkOf_53 : decode cX5_linkOf 53 = .ok (.iaload, 1) := by decide +kernel
theorem dX5_linkOf_54 : decode cX5_linkOf 54 = .ok (.ifCond .ne 7, 3) := by decide +kernel
theorem dX5_linkOf_57 : decode cX5_linkOf 57 = .ok (.iconst 1, 1) := by decide +kernel
theorem dX5_linkOf_58 : decode cX5_linkOf 58 = .ok (.goto 4, 3) := by decide +kernel
theorem dX5_linkOf_61 : decode cX5_linkOf 61 = .ok (.iconst 0, 1) := by decide +kernel
theorem dX5_linkOf_62 : decode cX5_linkOf 62 = .ok (.istore 5, 2) := by decide +kernel
theorem dX5_linkOf_64 : decode cX5_linkOf 64 = .ok (.iload 5, 2) := by decide +kernel
theorem dX5_linkOf_66 : decode cX5_linkOf 66 = .ok (.ifCond .eq 18, 3) := by decide +kernel
theorem dX5_linkOf_69 : decode cX5_linkOf 69 = .ok (.aload_n 0, 1) := by decide +kernel
theorem dX5_linkOf_70 : decode cX5_linkOf 70 = .ok (.iload 4, 2) := by decide +kernel
theorem dX5_linkOf_72 : decode cX5_linkOf 72 = .ok (.iload_n 2, 1) := by decide +kernel
theorem dX5_linkOf_73 : decode cX5_linkOf 73 = .ok (.invokevirtual 152, 3) := by decide +kernel
theorem dX5_linkOf_76 : decode cX5_linkOf 76 = .ok (.ifCond .eq 8, 3) := by decide +kernel
theorem dX5_linkOf_79 : decode cX5_linkOf 79 = .ok (.iload 4, 2) := by decide +kernel
theorem dX5_linkOf_81 : decode cX5_linkOf 81 = .ok (.goto 4, 3) := by decide +kernel
theorem dX5_linkOf_84 : decode cX5_linkOf 84 = .ok (.iload_n 3, 1) := by decide +kernel
theorem dX5_linkOf_85 : decode cX5_linkOf 85 = .ok (.istore_n 3, 1) := by decide +kernel
theorem dX5_linkOf_86 : decode cX5_linkOf 86 = .ok (.iinc 4 (-1), 3) := by decide +kernel
theorem dX5_linkOf_89 : decode cX5_linkOf 89 = .ok (.goto (-79), 3) := by decide +kernel
theorem dX5_linkOf_92 : decode cX5_linkOf 92 = .ok (.iload_n 3, 1) := by decide +kernel
theorem dX5_linkOf_93 : decode cX5_linkOf 93 = .ok (.ireturn, 1) := by decide +kernel
set_option maxRecDepth 20000 in
theorem ggX5_meanOf_X5_linkOf : GoodIn wsX5_meanOf wsX5_linkOf := goodIn_r _ [8, 9, 3, 10, 11, 12, 13, 7, 14, 15, 16, 17, 18, 19, 20, 21, 22, 23, 24, 25, 26, 27, 37, 38, 39, 40, 41, 42, 43, 44, 45, 46, 47, 48, 49, 50, 51, 52, 53, 54, 55, 56, 57, 58, 59, 60, 61, 62, 63, 64, 65, 66, 67, 68, 69, 70] (by decide +kernel) (by decide +kernel)
set_option maxRecDepth 20000 in
theorem gX5_meanOf_X5_linkOf : GoodIn wsX5_meanOf (wsV RX5 190 RX5 yX5_linkOf wsX5_linkOf) := goodIn_app (goodIn_of _ (by decide +kernel)) ggX5_meanOf_X5_linkOf
set_option maxRecDepth 20000 in
theorem ggX5_meanOf_X5_corrected : GoodIn wsX5_meanOf wsX5_corrected := goodIn_r _ [31, 32, 33, 34, 35, 36, 20, 21, 7, 22, 37, 38, 39, 40, 41, 42, 43, 44, 45, 46, 47, 48, 49, 50, 51, 52, 53, 54, 55, 56, 57, 58, 59, 60, 61, 62, 63, 64, 65, 66, 67, 68, 69, 70] (by decide +kernel) (by decide +kernel)
set_option maxRecDepth 20000 in
theorem gX5_meanOf_X5_corrected : GoodIn wsX5_meanOf (wsV RX5 155 RX5 yX5_corrected wsX5_corrected) := goodIn_app (goodIn_of _ (by decide +kernel)) ggX5_meanOf_X5_corrected
theorem dX5_meanOf_0 : decode cX5_meanOf 0 = .ok (.lconst 0, 1) := by decide +kernel
theorem dX5_meanOf_1 : decode cX5_meanOf 1 = .ok (.lstore_n 2, 1) := by decide +kernel
theorem dX5_meanOf_2 : decode cX5_meanOf 2 = .ok (.aload_n 0, 1) := by decide +kernel
theorem dX5_meanOf_3 : decode cX5_meanOf 3 = .ok (.getfield 96, 3) := by decide +kernel
theorem dX5_meanOf_6 : decode cX5_meanOf 6 = .ok (.ifCond .le 13, 3) := by decide +kernel
theorem dX5_meanOf_9 : decode cX5_meanOf 9 = .ok (.aload_n 0, 1) := by decide +kernel
theorem dX5_meanOf_10 : decode cX5_meanOf 10 = .ok (.getfield 22, 3) := by decide +kernel
theorem dX5_meanOf_13 : decode cX5_meanOf 13 = .ok (.iconst 0, 1) := by decide +kernel
theorem dX5_meanOf_14 : decode cX5_meanOf 14 = .ok (.iaload, 1) := by decide +kernel
theorem dX5_meanOf_15 : decode cX5_meanOf 15 = .ok (.i2l, 1) := by decide +kernel
theorem dX5_meanOf_16 : decode cX5_meanOf 16 = .ok (.goto 4, 3) := by decide +kernel
theorem dX5_meanOf_19 : decode cX5_meanOf 19 = .ok (.lconst 0, 1) := by decide +kernel
theorem dX5_meanOf_20 : decode cX5_meanOf 20 = .ok (.lstore 4, 2) := by decide +kernel
theorem dX5_meanOf_22 : decode cX5_meanOf 22 = .ok (.iconst 1, 1) := by decide +kernel
theorem dX5_meanOf_23 : decode cX5_meanOf 23 = .ok (.istore 6, 2) := by decide +kernel
theorem dX5_meanOf_25 : decode cX5_meanOf 25 = .ok (.iload 6, 2) := by decide +kernel
theorem dX5_meanOf_27 : decode cX5_meanOf 27 = .ok (.aload_n 0, 1) := by decide +kernel
theorem dX5_meanOf_28 : decode cX5_meanOf 28 = .ok (.getfield 96, 3) := by decide +kernel
theorem dX5_meanOf_31 : decode cX5_meanOf 31 = .ok (.if_icmp .ge 84, 3) := by decide +kernel
theorem dX5_meanOf_34 : decode cX5_meanOf 34 = .ok (.aload_n 0, 1) := by decide +kernel
theorem dX5_meanOf_35 : decode cX5_meanOf 35 = .ok (.iload 6, 2) := by decide +kernel
theorem dX5_meanOf_37 : decode cX5_meanOf 37 = .ok (.iload_n 1, 1) := by decide +kernel
theorem dX5_meanOf_38 : decode cX5_meanOf 38 = .ok (.invokevirtual 190, 3) := by decide +kernel
theorem dX5_meanOf_41 : decode cX5_meanOf 41 = .ok (.istore 7, 2) := by decide +kernel
theorem dX5_meanOf_43 : decode cX5_meanOf 43 = .ok (.iload 7, 2) := by decide +kernel
theorem dX5_meanOf_45 : decode cX5_meanOf 45 = .ok (.iconst (-1), 1) := by decide +kernel
theorem dX5_meanOf_46 : decode cX5_meanOf 46 = .ok (.if_icmp .eq 63, 3) := by decide +kernel
theorem dX5_meanOf_49 : decode cX5_meanOf 49 = .ok (.aload_n 0, 1) := by decide +kernel
theorem dX5_meanOf_50 : decode cX5_meanOf 50 = .ok (.getfield 25, 3) := by decide +kernel
theorem dX5_meanOf_53 : decode cX5_meanOf 53 = .ok (.iload 7, 2) := by decide +kernel
theorem dX5_meanOf_55 : decode cX5_meanOf 55 = .ok (.iaload, 1) := by decide +kernel
theorem dX5_meanOf_56 : decode cX5_meanOf 56 = .ok (.iload 6, 2) := by decide +kernel
theorem dX5_meanOf_58 : decode cX5_meanOf 58 = .ok (.if_icmp .ne 13, 3) := by decide +kernel
theorem dX5_meanOf_61 : decode cX5_meanOf 61 = .ok (.aload_n 0, 1) := by decide +kernel
theorem dX5_meanOf_62 : decode cX5_meanOf 62 = .ok (.iload 7, 2) := by decide +kernel
theorem dX5_meanOf_64 : decode cX5_meanOf 64 = .ok (.iload_n 1, 1) := by decide +kernel
theorem dX5_meanOf_65 : decode cX5_meanOf 65 = .ok (.invokevirtual 155, 3) := by decide +kernel
theorem dX5_meanOf_68 : decode cX5_meanOf 68 = .ok (.goto 11, 3) := by decide +kernel
theorem dX5_meanOf_71 : decode cX5_meanOf 71 = .ok (.aload_n 0, 1) := by decide +kernel
theorem dX5_meanOf_72 : decode cX5_meanOf 72 = .ok (.iload 7, 2) := by decide +kernel
theorem dX5_meanOf_74 : decode cX5_meanOf 74 = .ok (.iload_n 1, 1) := by decide +kernel
theorem dX5_meanOf_75 : decode cX5_meanOf 75 = .ok (.invokevirtual 155, 3) := by decide +kernel
theorem dX5_meanOf_78 : decode cX5_meanOf 78 = .ok (.ineg, 1) := by decide +kernel
theorem dX5_meanOf_79 : decode cX5_meanOf 79 = .ok (.istore 8, 2) := by decide +kernel
theorem dX5_meanOf_81 : decode cX5_meanOf 81 = .ok (.lload_n 2, 1) := by decide +kernel
theorem dX5_meanOf_82 : decode cX5_meanOf 82 = .ok (.aload_n 0, 1) := by decide +kernel
theorem dX5_meanOf_83 : decode cX5_meanOf 83 = .ok (.getfield 22, 3) := by decide +kernel
theorem dX5_meanOf_86 : decode cX5_meanOf 86 = .ok (.iload 6, 2) := by decide +kernel
theorem dX5_meanOf_88 : decode cX5_meanOf 88 = .ok (.iaload, 1) := by decide +kernel
theorem dX5_meanOf_89 : decode cX5_meanOf 89 = .ok (.i2l, 1) := by decide +kernel
theorem dX5_meanOf_90 : decode cX5_meanOf 90 = .ok (.iload 8, 2) := by decide +kernel
theorem dX5_meanOf_92 : decode cX5_meanOf 92 = .ok (.i2l, 1) := by decide +kernel
theorem dX5_meanOf_93 : decode cX5_meanOf 93 = .ok (.lmul, 1) := by decide +kernel
theorem dX5_meanOf_94 : decode cX5_meanOf 94 = .ok (.ladd, 1) := by decide +kernel
theorem dX5_meanOf_95 : decode cX5_meanOf 95 = .ok (.lstore_n 2, 1) := by decide +kernel
theorem dX5_meanOf_96 : decode cX5_meanOf 96 = .ok (.lload 4, 2) := by decide +kernel
theorem dX5_meanOf_98 : decode cX5_meanOf 98 = .ok (.aload_n 0, 1) := by decide +kernel
theorem dX5_meanOf_99 : decode cX5_meanOf 99 = .ok (.getfield 22, 3) := by decide +kernel
theorem dX5_meanOf_102 : decode cX5_meanOf 102 = .ok (.iload 6, 2) := by decide +kernel
theorem dX5_meanOf_104 : decode cX5_meanOf 104 = .ok (.iaload, 1) := by decide +kernel
theorem dX5_meanOf_105 : decode cX5_meanOf 105 = .ok (.i2l, 1) := by decide +kernel
theorem dX5_meanOf_106 : decode cX5_meanOf 106 = .ok (.ladd, 1) := by decide +kernel
theorem dX5_meanOf_107 : decode cX5_meanOf 107 = .ok (.lstore 4, 2) := by decide +kernel
theorem dX5_meanOf_109 : decode cX5_meanOf 109 = .ok (.iinc 6 1, 3) := by decide +kernel
theorem dX5_meanOf_112 : decode cX5_meanOf 112 = .ok (.goto (-87), 3) := by decide +kernel
theorem dX5_meanOf_115 : decode cX5_meanOf 115 = .ok (.lload 4, 2) := by decide +kernel
theorem dX5_meanOf_117 : decode cX5_meanOf 117 = .ok (.lconst 0, 1) := by decide +kernel
theorem dX5_meanOf_118 : decode cX5_meanOf 118 = .ok (.lcmp, 1) := by decide +kernel
theorem dX5_meanOf_119 : decode cX5_meanOf 119 = .ok (.ifCond .ne 7, 3) := by decide +kernel
theorem dX5_meanOf_122 : decode cX5_meanOf 122 = .ok (.iconst 0, 1) := by decide +kernel
theorem dX5_meanOf_123 : decode cX5_meanOf 123 = .ok (.goto 8, 3) := by decide +kernel
theorem dX5_meanOf_126 : decode cX5_meanOf 126 = .ok (.lload_n 2, 1) := by decide +kernel
theorem dX5_meanOf_127 : decode cX5_meanOf 127 = .ok (.lload 4, 2) := by decide +kernel
theorem dX5_meanOf_129 : decode cX5_meanOf 129 = .ok (.ldiv, 1) := by decide +kernel
theorem dX5_meanOf_130 : decode cX5_meanOf 130 = .ok (.l2i, 1) := by decide +kernel
theorem dX5_meanOf_131 : decode cX5_meanOf 131 = .ok (.ireturn, 1) := by decide +kernel
set_option maxRecDepth 20000 in
theorem ggX5_mean_X5_isDay : GoodIn wsX5_mean wsX5_isDay := goodIn_r _ [6, 7, 8, 9, 5, 10, 46, 47, 48, 49, 50, 51, 52, 53, 54, 55, 56, 57, 58, 59, 60, 61, 62, 63, 64, 65, 66, 67, 68, 69, 70, 71, 72, 73, 74, 75, 76, 77, 78, 79] (by decide +kernel) (by decide +kernel)
set_option maxRecDepth 20000 in
theorem gX5_mean_X5_isDay : GoodIn wsX5_mean (wsV RX5 149 RX5 yX5_isDay wsX5_isDay) := goodIn_app (goodIn_of _ (by decide +kernel)) ggX5_mean_X5_isDay
set_option maxRecDepth 20000 in
theorem ggX5_mean_X5_goes : GoodIn wsX5_mean wsX5_goes := goodIn_r _ [14, 15, 46, 47, 48, 49, 50, 51, 52, 53, 54, 55, 56, 57, 58, 59, 60, 61, 62, 63, 64, 65, 66, 67, 68, 69, 70, 71, 72, 73, 74, 75, 76, 77, 78, 79] (by decide +kernel) (by decide +kernel)
set_option maxRecDepth 20000 in
theorem gX5_mean_X5_goes : GoodIn wsX5_mean (wsV RX5 109 RX5 yX5_goes wsX5_goes) := goodIn_app (goodIn_of _ (by decide +kernel)) ggX5_mean_X5_goes
set_option maxRecDepth 20000 in
theorem ggX5_mean_X5_meanOf : GoodIn wsX5_mean wsX5_meanOf := goodIn_r _ [19, 1, 20, 21, 22, 23, 24, 5, 25, 26, 27, 28, 29, 30, 31, 32, 33, 34, 35, 36, 8, 9, 10, 2, 3, 4, 6, 7, 37, 38, 39, 40, 41, 42, 43, 44, 45, 46, 47, 48, 49, 50, 51, 52, 53, 54, 55, 56, 57, 58, 59, 60, 61, 62, 63, 64, 65, 66, 67, 68, 69, 70, 71, 72, 73, 74, 75, 76, 77, 78, 79] (by decide +kernel) (by decide +kernel)
set_option maxRecDepth 20000 in
theorem gX5_mean_X5_meanOf : GoodIn wsX5_mean (wsV RX5 142 RX5 yX5_meanOf wsX5_meanOf) := goodIn_app (goodIn_of _ (by decide +kernel)) ggX5_mean_X5_meanOf
theorem dX5_mean_0 : decode cX5_mean 0 = .ok (.aload_n 0, 1) := by decide +kernel
theorem dX5_mean_1 : decode cX5_mean 1 = .ok (.aload_n 0, 1) := by decide +kernel
theorem dX5_mean_2 : decode cX5_mean 2 = .ok (.iload_n 1, 1) := by decide +kernel
theorem dX5_mean_3 : decode cX5_mean 3 = .ok (.invokevirtual 149, 3) := by decide +kernel
theorem dX5_mean_6 : decode cX5_mean 6 = .ok (.ifCond .eq 14, 3) := by decide +kernel
theorem dX5_mean_9 : decode cX5_mean 9 = .ok (.aload_n 0, 1) := by decide +kernel
theorem dX5_mean_10 : decode cX5_mean 10 = .ok (.getfield 96, 3) := by decide +kernel
theorem dX5_mean_13 : decode cX5_mean 13 = .ok (.ifCond .le 7, 3) := by decide +kernel
theorem dX5_mean_16 : decode cX5_mean 16 = .ok (.iconst 1, 1) := by decide +kernel
theorem dX5_mean_17 : decode cX5_mean 17 = .ok (.goto 4, 3) := by decide +kernel
theorem dX5_mean_20 : decode cX5_mean 20 = .ok (.iconst 0, 1) := by decide +kernel
theorem dX5_mean_21 : decode cX5_mean 21 = .ok (.iconst 1, 1) := by decide +kernel
theorem dX5_mean_22 : decode cX5_mean 22 = .ok (.iconst 1, 1) := by decide +kernel
theorem dX5_mean_23 : decode cX5_mean 23 = .ok (.invokevirtual 109, 3) := by decide +kernel
theorem dX5_mean_26 : decode cX5_mean 26 = .ok (.ifCond .eq 11, 3) := by decide +kernel
theorem dX5_mean_29 : decode cX5_mean 29 = .ok (.aload_n 0, 1) := by decide +kernel
theorem dX5_mean_30 : decode cX5_mean 30 = .ok (.iload_n 1, 1) := by decide +kernel
theorem dX5_mean_31 : decode cX5_mean 31 = .ok (.invokevirtual 142, 3) := by decide +kernel
theorem dX5_mean_34 : decode cX5_mean 34 = .ok (.goto 4, 3) := by decide +kernel
theorem dX5_mean_37 : decode cX5_mean 37 = .ok (.iconst 0, 1) := by decide +kernel
theorem dX5_mean_38 : decode cX5_mean 38 = .ok (.ireturn, 1) := by decide +kernel
set_option maxRecDepth 20000 in
theorem ggX5_published_X5_isDay : GoodIn wsX5_published wsX5_isDay := goodIn_r _ [7, 8, 9, 10, 6, 11, 51, 52, 53, 54, 55, 56, 57, 58, 59, 60, 61, 62, 63, 64, 65, 66, 67, 68, 69, 70, 71, 72, 73, 74, 75, 76, 77, 78, 79, 80, 81, 82, 83, 84] (by decide +kernel) (by decide +kernel)
set_option maxRecDepth 20000 in
theorem gX5_published_X5_isDay : GoodIn wsX5_published (wsV RX5 149 RX5 yX5_isDay wsX5_isDay) := goodIn_app (goodIn_of _ (by decide +kernel)) ggX5_published_X5_isDay
set_option maxRecDepth 20000 in
theorem ggX5_published_X5_goes : GoodIn wsX5_published wsX5_goes := goodIn_r _ [15, 16, 51, 52, 53, 54, 55, 56, 57, 58, 59, 60, 61, 62, 63, 64, 65, 66, 67, 68, 69, 70, 71, 72, 73, 74, 75, 76, 77, 78, 79, 80, 81, 82, 83, 84] (by decide +kernel) (by decide +kernel)
set_option maxRecDepth 20000 in
theorem gX5_published_X5_goes : GoodIn wsX5_published (wsV RX5 109 RX5 yX5_goes wsX5_goes) := goodIn_app (goodIn_of _ (by decide +kernel)) ggX5_published_X5_goes
set_option maxRecDepth 20000 in
theorem ggX5_published_X5_meanOf : GoodIn wsX5_published wsX5_meanOf := goodIn_r _ [20, 21, 22, 23, 24, 25, 26, 6, 27, 28, 29, 30, 31, 32, 33, 34, 35, 36, 37, 38, 9, 10, 11, 3, 4, 5, 7, 8, 39, 40, 41, 42, 43, 44, 45, 46, 47, 51, 52, 53, 54, 55, 56, 57, 58, 59, 60, 61, 62, 63, 64, 65, 66, 67, 68, 69, 70, 71, 72, 73, 74, 75, 76, 77, 78, 79, 80, 81, 82, 83, 84] (by decide +kernel) (by decide +kernel)
set_option maxRecDepth 20000 in
theorem gX5_published_X5_meanOf : GoodIn wsX5_published (wsV RX5 142 RX5 yX5_meanOf wsX5_meanOf) := goodIn_app (goodIn_of _ (by decide +kernel)) ggX5_published_X5_meanOf
set_option maxRecDepth 20000 in
theorem ggX5_published_X5_held : GoodIn wsX5_published wsX5_held := goodIn_r _ [50] (by decide +kernel) (by decide +kernel)
set_option maxRecDepth 20000 in
theorem gX5_published_X5_held : GoodIn wsX5_published (va_wsS RX5 130 yX5_held wsX5_held) := goodIn_app (goodIn_of _ (by decide +kernel)) ggX5_published_X5_held
theorem dX5_published_0 : decode cX5_published 0 = .ok (.aload_n 0, 1) := by decide +kernel
theorem dX5_published_1 : decode cX5_published 1 = .ok (.aload_n 0, 1) := by decide +kernel
theorem dX5_published_2 : decode cX5_published 2 = .ok (.iload_n 1, 1) := by decide +kernel
theorem dX5_published_3 : decode cX5_published 3 = .ok (.invokevirtual 149, 3) := by decide +kernel
theorem dX5_published_6 : decode cX5_published 6 = .ok (.iconst 1, 1) := by decide +kernel
theorem dX5_published_7 : decode cX5_published 7 = .ok (.iconst 1, 1) := by decide +kernel
theorem dX5_published_8 : decode cX5_published 8 = .ok (.invokevirtual 109, 3) := by decide +kernel
theorem dX5_published_11 : decode cX5_published 11 = .ok (.ifCond .ne 5, 3) := by decide +kernel
theorem dX5_published_14 : decode cX5_published 14 = .ok (.iconst 0, 1) := by decide +kernel
theorem dX5_published_15 : decode cX5_published 15 = .ok (.ireturn, 1) := by decide +kernel
theorem dX5_published_16 : decode cX5_published 16 = .ok (.iload_n 2, 1) := by decide +kernel
theorem dX5_published_17 : decode cX5_published 17 = .ok (.ifCond .ne 10, 3) := by decide +kernel
theorem dX5_published_20 : decode cX5_published 20 = .ok (.aload_n 0, 1) := by decide +kernel
theorem dX5_published_21 : decode cX5_published 21 = .ok (.getfield 67, 3) := by decide +kernel
theorem dX5_published_24 : decode cX5_published 24 = .ok (.iload_n 1, 1) := by decide +kernel
theorem dX5_published_25 : decode cX5_published 25 = .ok (.iaload, 1) := by decide +kernel
theorem dX5_published_26 : decode cX5_published 26 = .ok (.ireturn, 1) := by decide +kernel
theorem dX5_published_27 : decode cX5_published 27 = .ok (.iconst 0, 1) := by decide +kernel
theorem dX5_published_28 : decode cX5_published 28 = .ok (.istore_n 3, 1) := by decide +kernel
theorem dX5_published_29 : decode cX5_published 29 = .ok (.iconst 1, 1) := by decide +kernel
theorem dX5_published_30 : decode cX5_published 30 = .ok (.istore 4, 2) := by decide +kernel
theorem dX5_published_32 : decode cX5_published 32 = .ok (.iload 4, 2) := by decide +kernel
theorem dX5_published_34 : decode cX5_published 34 = .ok (.iload_n 1, 1) := by decide +kernel
theorem dX5_published_35 : decode cX5_published 35 = .ok (.if_icmp .gt 27, 3) := by decide +kernel
theorem dX5_published_38 : decode cX5_published 38 = .ok (.iload_n 3, 1) := by decide +kernel
theorem dX5_published_39 : decode cX5_published 39 = .ok (.aload_n 0, 1) := by decide +kernel
theorem dX5_published_40 : decode cX5_published 40 = .ok (.iload 4, 2) := by decide +kernel
theorem dX5_published_42 : decode cX5_published 42 = .ok (.invokevirtual 142, 3) := by decide +kernel
theorem dX5_published_45 : decode cX5_published 45 = .ok (.iload_n 3, 1) := by decide +kernel
theorem dX5_published_46 : decode cX5_published 46 = .ok (.isub, 1) := by decide +kernel
theorem dX5_published_47 : decode cX5_published 47 = .ok (.aload_n 0, 1) := by decide +kernel
theorem dX5_published_48 : decode cX5_published 48 = .ok (.getfield 90, 3) := by decide +kernel
theorem dX5_published_51 : decode cX5_published 51 = .ok (.invokestatic 130, 3) := by decide +kernel
theorem dX5_published_54 : decode cX5_published 54 = .ok (.iadd, 1) := by decide +kernel
theorem dX5_published_55 : decode cX5_published 55 = .ok (.istore_n 3, 1) := by decide +kernel
theorem dX5_published_56 : decode cX5_published 56 = .ok (.iinc 4 1, 3) := by decide +kernel
theorem dX5_published_59 : decode cX5_published 59 = .ok (.goto (-27), 3) := by decide +kernel
theorem dX5_published_62 : decode cX5_published 62 = .ok (.iload_n 3, 1) := by decide +kernel
theorem dX5_published_63 : decode cX5_published 63 = .ok (.ireturn, 1) := by decide +kernel
set_option maxRecDepth 20000 in
theorem ggX5_height_X5_hasMeasured : GoodIn wsX5_height wsX5_hasMeasured := goodIn_r _ [6, 7, 8, 9, 10, 5, 11, 12, 13, 14, 15, 16, 17, 18, 19, 20, 35, 36, 37, 38, 39, 40, 41, 42, 43, 44, 45, 46, 47, 48, 49, 50, 51, 52, 53, 54, 55, 56, 57, 58, 59, 60, 61, 62, 63, 64, 65, 66, 67, 68] (by decide +kernel) (by decide +kernel)
set_option maxRecDepth 20000 in
theorem gX5_height_X5_hasMeasured : GoodIn wsX5_height (wsV RX5 152 RX5 yX5_hasMeasured wsX5_hasMeasured) := goodIn_app (goodIn_of _ (by decide +kernel)) ggX5_height_X5_hasMeasured
set_option maxRecDepth 20000 in
theorem ggX5_height_X5_in : GoodIn wsX5_height wsX5_in := goodIn_r _ [15] (by decide +kernel) (by decide +kernel)
set_option maxRecDepth 20000 in
theorem gX5_height_X5_in : GoodIn wsX5_height (va_wsS RX5 99 yX5_in wsX5_in) := goodIn_app (goodIn_of _ (by decide +kernel)) ggX5_height_X5_in
set_option maxRecDepth 20000 in
theorem ggX5_height_X5_goes : GoodIn wsX5_height wsX5_goes := goodIn_r _ [24, 25, 35, 36, 37, 38, 39, 40, 41, 42, 43, 44, 45, 46, 47, 48, 49, 50, 51, 52, 53, 54, 55, 56, 57, 58, 59, 60, 61, 62, 63, 64, 65, 66, 67, 68] (by decide +kernel) (by decide +kernel)
set_option maxRecDepth 20000 in
theorem gX5_height_X5_goes : GoodIn wsX5_height (wsV RX5 109 RX5 yX5_goes wsX5_goes) := goodIn_app (goodIn_of _ (by decide +kernel)) ggX5_height_X5_goes
set_option maxRecDepth 20000 in
theorem ggX5_height_X5_corrected : GoodIn wsX5_height wsX5_corrected := goodIn_r _ [29, 30, 31, 32, 33, 34, 13, 14, 5, 15, 35, 36, 37, 38, 39, 40, 41, 42, 43, 44, 45, 46, 47, 48, 49, 50, 51, 52, 53, 54, 55, 56, 57, 58, 59, 60, 61, 62, 63, 64, 65, 66, 67, 68] (by decide +kernel) (by decide +kernel)
set_option maxRecDepth 20000 in
theorem gX5_height_X5_corrected : GoodIn wsX5_height (wsV RX5 155 RX5 yX5_corrected wsX5_corrected) := goodIn_app (goodIn_of _ (by decide +kernel)) ggX5_height_X5_corrected
theorem dX5_height_0 : decode cX5_height 0 = .ok (.aload_n 0, 1) := by decide +kernel
theorem dX5_height_1 : decode cX5_height 1 = .ok (.iload_n 1, 1) := by decide +kernel
theorem dX5_height_2 : decode cX5_height 2 = .ok (.iload_n 2, 1) := by decide +kernel
theorem dX5_height_3 : decode cX5_height 3 = .ok (.invokevirtual 152, 3) := by decide +kernel
theorem dX5_height_6 : decode cX5_height 6 = .ok (.ifCond .eq 16, 3) := by decide +kernel
theorem dX5_height_9 : decode cX5_height 9 = .ok (.aload_n 0, 1) := by decide +kernel
theorem dX5_height_10 : decode cX5_height 10 = .ok (.iload_n 1, 1) := by decide +kernel
theorem dX5_height_11 : decode cX5_height 11 = .ok (.iload_n 3, 1) := by decide +kernel
theorem dX5_height_12 : decode cX5_height 12 = .ok (.invokevirtual 152, 3) := by decide +kernel
theorem dX5_height_15 : decode cX5_height 15 = .ok (.ifCond .eq 7, 3) := by decide +kernel
theorem dX5_height_18 : decode cX5_height 18 = .ok (.iconst 1, 1) := by decide +kernel
theorem dX5_height_19 : decode cX5_height 19 = .ok (.goto 4, 3) := by decide +kernel
theorem dX5_height_22 : decode cX5_height 22 = .ok (.iconst 0, 1) := by decide +kernel
theorem dX5_height_23 : decode cX5_height 23 = .ok (.istore 5, 2) := by decide +kernel
theorem dX5_height_25 : decode cX5_height 25 = .ok (.aload_n 0, 1) := by decide +kernel
theorem dX5_height_26 : decode cX5_height 26 = .ok (.iload 5, 2) := by decide +kernel
theorem dX5_height_28 : decode cX5_height 28 = .ok (.iload_n 3, 1) := by decide +kernel
theorem dX5_height_29 : decode cX5_height 29 = .ok (.iload_n 2, 1) := by decide +kernel
theorem dX5_height_30 : decode cX5_height 30 = .ok (.if_icmp .le 21, 3) := by decide +kernel
theorem dX5_height_33 : decode cX5_height 33 = .ok (.iload 4, 2) := by decide +kernel
theorem dX5_height_35 : decode cX5_height 35 = .ok (.sipush (-1000), 3) := by decide +kernel
theorem dX5_height_38 : decode cX5_height 38 = .ok (.sipush 1000, 3) := by decide +kernel
theorem dX5_height_41 : decode cX5_height 41 = .ok (.invokestatic 99, 3) := by decide +kernel
theorem dX5_height_44 : decode cX5_height 44 = .ok (.ifCond .eq 7, 3) := by decide +kernel
theorem dX5_height_47 : decode cX5_height 47 = .ok (.iconst 1, 1) := by decide +kernel
theorem dX5_height_48 : decode cX5_height 48 = .ok (.goto 4, 3) := by decide +kernel
theorem dX5_height_51 : decode cX5_height 51 = .ok (.iconst 0, 1) := by decide +kernel
theorem dX5_height_52 : decode cX5_height 52 = .ok (.iconst 1, 1) := by decide +kernel
theorem dX5_height_53 : decode cX5_height 53 = .ok (.invokevirtual 109, 3) := by decide +kernel
theorem dX5_height_56 : decode cX5_height 56 = .ok (.ifCond .ne 5, 3) := by decide +kernel
theorem dX5_height_59 : decode cX5_height 59 = .ok (.iconst 0, 1) := by decide +kernel
theorem dX5_height_60 : decode cX5_height 60 = .ok (.ireturn, 1) := by decide +kernel
theorem dX5_height_61 : decode cX5_height 61 = .ok (.iload_n 3, 1) := by decide +kernel
theorem dX5_height_62 : decode cX5_height 62 = .ok (.iload_n 2, 1) := by decide +kernel
theorem dX5_height_63 : decode cX5_height 63 = .ok (.isub, 1) := by decide +kernel
theorem dX5_height_64 : decode cX5_height 64 = .ok (.istore 6, 2) := by decide +kernel
theorem dX5_height_66 : decode cX5_height 66 = .ok (.aload_n 0, 1) := by decide +kernel
theorem dX5_height_67 : decode cX5_height 67 = .ok (.iload_n 1, 1) := by decide +kernel
theorem dX5_height_68 : decode cX5_height 68 = .ok (.iload_n 3, 1) := by decide +kernel
theorem dX5_height_69 : decode cX5_height 69 = .ok (.invokevirtual 155, 3) := by decide +kernel
theorem dX5_height_72 : decode cX5_height 72 = .ok (.aload_n 0, 1) := by decide +kernel
theorem dX5_height_73 : decode cX5_height 73 = .ok (.iload_n 1, 1) := by decide +kernel
theorem dX5_height_74 : decode cX5_height 74 = .ok (.iload_n 2, 1) := by decide +kernel
theorem dX5_height_75 : decode cX5_height 75 = .ok (.invokevirtual 155, 3) := by decide +kernel
theorem dX5_height_78 : decode cX5_height 78 = .ok (.isub, 1) := by decide +kernel
theorem dX5_height_79 : decode cX5_height 79 = .ok (.iload 4, 2) := by decide +kernel
theorem dX5_height_81 : decode cX5_height 81 = .ok (.iload 6, 2) := by decide +kernel
theorem dX5_height_83 : decode cX5_height 83 = .ok (.imul, 1) := by decide +kernel
theorem dX5_height_84 : decode cX5_height 84 = .ok (.isub, 1) := by decide +kernel
theorem dX5_height_85 : decode cX5_height 85 = .ok (.i2l, 1) := by decide +kernel
theorem dX5_height_86 : decode cX5_height 86 = .ok (.lstore 7, 2) := by decide +kernel
theorem dX5_height_88 : decode cX5_height 88 = .ok (.ldc2_w 193, 3) := by decide +kernel
theorem dX5_height_91 : decode cX5_height 91 = .ok (.lload 7, 2) := by decide +kernel
theorem dX5_height_93 : decode cX5_height 93 = .ok (.lmul, 1) := by decide +kernel
theorem dX5_height_94 : decode cX5_height 94 = .ok (.iload 6, 2) := by decide +kernel
theorem dX5_height_96 : decode cX5_height 96 = .ok (.i2l, 1) := by decide +kernel
theorem dX5_height_97 : decode cX5_height 97 = .ok (.ldiv, 1) := by decide +kernel
theorem dX5_height_98 : decode cX5_height 98 = .ok (.l2i, 1) := by decide +kernel
theorem dX5_height_99 : decode cX5_height 99 = .ok (.ireturn, 1) := by decide +kernel
theorem dX5_forIt_0 : decode cX5_forIt 0 = .ok (.iconst 0, 1) := by decide +kernel
theorem dX5_forIt_1 : decode cX5_forIt 1 = .ok (.istore_n 1, 1) := by decide +kernel
theorem dX5_forIt_2 : decode cX5_forIt 2 = .ok (.iconst 0, 1) := by decide +kernel
theorem dX5_forIt_3 : decode cX5_forIt 3 = .ok (.istore_n 2, 1) := by decide +kernel
theorem dX5_forIt_4 : decode cX5_forIt 4 = .ok (.iload_n 2, 1) := by decide +kernel
theorem dX5_forIt_5 : decode cX5_forIt 5 = .ok (.bipush 7, 2) := by decide +kernel
theorem dX5_forIt_7 : decode cX5_forIt 7 = .ok (.if_icmp .ge 26, 3) := by decide +kernel
theorem dX5_forIt_10 : decode cX5_forIt 10 = .ok (.iload_n 1, 1) := by decide +kernel
theorem dX5_forIt_11 : decode cX5_forIt 11 = .ok (.aload_n 0, 1) := by decide +kernel
theorem dX5_forIt_12 : decode cX5_forIt 12 = .ok (.getfield 70, 3) := by decide +kernel
theorem dX5_forIt_15 : decode cX5_forIt 15 = .ok (.iload_n 2, 1) := by decide +kernel
theorem dX5_forIt_16 : decode cX5_forIt 16 = .ok (.baload, 1) := by decide +kernel
theorem dX5_forIt_17 : decode cX5_forIt 17 = .ok (.ifCond .eq 7, 3) := by decide +kernel
theorem dX5_forIt_20 : decode cX5_forIt 20 = .ok (.iconst 1, 1) := by decide +kernel
theorem dX5_forIt_21 : decode cX5_forIt 21 = .ok (.goto 4, 3) := by decide +kernel
theorem dX5_forIt_24 : decode cX5_forIt 24 = .ok (.iconst 0, 1) := by decide +kernel
theorem dX5_forIt_25 : decode cX5_forIt 25 = .ok (.iadd, 1) := by decide +kernel
theorem dX5_forIt_26 : decode cX5_forIt 26 = .ok (.istore_n 1, 1) := by decide +kernel
theorem dX5_forIt_27 : decode cX5_forIt 27 = .ok (.iinc 2 1, 3) := by decide +kernel
theorem dX5_forIt_30 : decode cX5_forIt 30 = .ok (.goto (-26), 3) := by decide +kernel
theorem dX5_forIt_33 : decode cX5_forIt 33 = .ok (.iload_n 1, 1) := by decide +kernel
theorem dX5_forIt_34 : decode cX5_forIt 34 = .ok (.ireturn, 1) := by decide +kernel
set_option maxRecDepth 20000 in
theorem ggX5_vote_X5_in : GoodIn wsX5_vote wsX5_in := goodIn_r _ [5] (by decide +kernel) (by decide +kernel)
set_option maxRecDepth 20000 in
theorem gX5_vote_X5_in : GoodIn wsX5_vote (va_wsS RX5 99 yX5_in wsX5_in) := goodIn_app (goodIn_of _ (by decide +kernel)) ggX5_vote_X5_in
set_option maxRecDepth 20000 in
theorem ggX5_vote_X5_goes : GoodIn wsX5_vote wsX5_goes := goodIn_r _ [9, 10, 15, 16, 17, 18, 19, 20, 21, 22, 23, 24, 25, 26, 27, 28, 29, 30, 31, 32, 33, 34, 35, 36, 37, 38, 39, 40, 41, 42, 43, 44, 45, 46, 47, 48] (by decide +kernel) (by decide +kernel)
set_option maxRecDepth 20000 in
theorem gX5_vote_X5_goes : GoodIn wsX5_vote (wsV RX5 109 RX5 yX5_goes wsX5_goes) := goodIn_app (goodIn_of _ (by decide +kernel)) ggX5_vote_X5_goes
set_option maxRecDepth 20000 in
theorem ggX5_vote_X5_forIt : GoodIn wsX5_vote wsX5_forIt := goodIn_r _ [14, 1, 15, 16, 17, 18, 19, 20, 21, 22, 23, 24, 25, 26, 27, 28, 29, 30, 31, 32, 33, 34, 35, 36, 37, 38, 39, 40, 41, 42, 43, 44, 45, 46, 47, 48] (by decide +kernel) (by decide +kernel)
set_option maxRecDepth 20000 in
theorem gX5_vote_X5_forIt : GoodIn wsX5_vote (wsV RX5 195 RX5 yX5_forIt wsX5_forIt) := goodIn_app (goodIn_of _ (by decide +kernel)) ggX5_vote_X5_forIt
theorem dX5_vote_0 : decode cX5_vote 0 = .ok (.aload_n 0, 1) := by decide +kernel
theorem dX5_vote_1 : decode cX5_vote 1 = .ok (.iload_n 1, 1) := by decide +kernel
theorem dX5_vote_2 : decode cX5_vote 2 = .ok (.iconst 0, 1) := by decide +kernel
theorem dX5_vote_3 : decode cX5_vote 3 = .ok (.bipush 6, 2) := by decide +kernel
theorem dX5_vote_5 : decode cX5_vote 5 = .ok (.invokestatic 99, 3) := by decide +kernel
theorem dX5_vote_8 : decode cX5_vote 8 = .ok (.iconst 1, 1) := by decide +kernel
theorem dX5_vote_9 : decode cX5_vote 9 = .ok (.iconst 1, 1) := by decide +kernel
theorem dX5_vote_10 : decode cX5_vote 10 = .ok (.invokevirtual 109, 3) := by decide +kernel
theorem dX5_vote_13 : decode cX5_vote 13 = .ok (.ifCond .ne 5, 3) := by decide +kernel
theorem dX5_vote_16 : decode cX5_vote 16 = .ok (.iconst 0, 1) := by decide +kernel
theorem dX5_vote_17 : decode cX5_vote 17 = .ok (.ireturn, 1) := by decide +kernel
theorem dX5_vote_18 : decode cX5_vote 18 = .ok (.aload_n 0, 1) := by decide +kernel
theorem dX5_vote_19 : decode cX5_vote 19 = .ok (.getfield 70, 3) := by decide +kernel
theorem dX5_vote_22 : decode cX5_vote 22 = .ok (.iload_n 1, 1) := by decide +kernel
theorem dX5_vote_23 : decode cX5_vote 23 = .ok (.iload_n 2, 1) := by decide +kernel
theorem dX5_vote_24 : decode cX5_vote 24 = .ok (.bastore, 1) := by decide +kernel
theorem dX5_vote_25 : decode cX5_vote 25 = .ok (.aload_n 0, 1) := by decide +kernel
theorem dX5_vote_26 : decode cX5_vote 26 = .ok (.invokevirtual 195, 3) := by decide +kernel
theorem dX5_vote_29 : decode cX5_vote 29 = .ok (.ireturn, 1) := by decide +kernel
set_option maxRecDepth 20000 in
theorem ggX5_adopt_X5_goes : GoodIn wsX5_adopt wsX5_goes := goodIn_r _ [7, 8, 72, 73, 74, 75, 76, 77, 78, 79, 80, 81, 82, 83, 84, 85, 86, 87, 88, 89, 90, 91, 92, 93, 94, 95, 96, 97, 98, 99, 100, 101, 102, 103, 104, 105] (by decide +kernel) (by decide +kernel)
set_option maxRecDepth 20000 in
theorem gX5_adopt_X5_goes : GoodIn wsX5_adopt (wsV RX5 109 RX5 yX5_goes wsX5_goes) := goodIn_app (goodIn_of _ (by decide +kernel)) ggX5_adopt_X5_goes
set_option maxRecDepth 20000 in
theorem ggX5_adopt_X5_laysRings : GoodIn wsX5_adopt wsX5_laysRings := goodIn_r _ [12, 13, 14, 15, 16, 17, 18, 6, 19, 20, 21, 22, 23, 24, 25, 26, 27, 28, 29, 30, 31, 2, 32, 33, 34, 35, 36, 37, 38, 39, 40, 41, 42, 43, 44, 45, 46, 47, 48, 49, 50, 51, 52, 53, 54, 55, 56, 57, 58, 59, 60, 61, 72, 73, 74, 75, 76, 77, 78, 79, 80, 81, 82, 83, 84, 85, 86, 87, 88, 89, 90, 91, 92, 93, 94, 95, 96, 97, 98, 99, 100, 101, 102, 103, 104, 105] (by decide +kernel) (by decide +kernel)
set_option maxRecDepth 20000 in
theorem gX5_adopt_X5_laysRings : GoodIn wsX5_adopt (wsV RX5 181 RX5 yX5_laysRings wsX5_laysRings) := goodIn_app (goodIn_of _ (by decide +kernel)) ggX5_adopt_X5_laysRings
set_option maxRecDepth 20000 in
theorem ggX5_adopt_X5_forIt : GoodIn wsX5_adopt wsX5_forIt := goodIn_r _ [65, 66, 72, 73, 74, 75, 76, 77, 78, 79, 80, 81, 82, 83, 84, 85, 86, 87, 88, 89, 90, 91, 92, 93, 94, 95, 96, 97, 98, 99, 100, 101, 102, 103, 104, 105] (by decide +kernel) (by decide +kernel)
set_option maxRecDepth 20000 in
theorem gX5_adopt_X5_forIt : GoodIn wsX5_adopt (wsV RX5 195 RX5 yX5_forIt wsX5_forIt) := goodIn_app (goodIn_of _ (by decide +kernel)) ggX5_adopt_X5_forIt
set_option maxRecDepth 20000 in
theorem ggX5_adopt_X5_openRings : GoodIn wsX5_adopt wsX5_openRings := goodIn_r _ [70, 13, 52, 51, 14, 50, 71, 72, 73, 74, 75, 76, 77, 78, 79, 80, 81, 82, 83, 84, 85, 86, 87, 88, 89, 90, 91, 92, 93, 94, 95, 96, 97, 98, 99, 100, 101, 102, 103, 104, 105] (by decide +kernel) (by decide +kernel)
set_option maxRecDepth 20000 in
theorem gX5_adopt_X5_openRings : GoodIn wsX5_adopt (wsV RX5 184 RX5 yX5_openRings wsX5_openRings) := goodIn_app (goodIn_of _ (by decide +kernel)) ggX5_adopt_X5_openRings
theorem dX5_adopt_0 : decode cX5_adopt 0 = .ok (.aload_n 0, 1) := by decide +kernel
theorem dX5_adopt_1 : decode cX5_adopt 1 = .ok (.aload_n 0, 1) := by decide +kernel
theorem dX5_adopt_2 : decode cX5_adopt 2 = .ok (.getfield 198, 3) := by decide +kernel
theorem dX5_adopt_5 : decode cX5_adopt 5 = .ok (.ifCond .ne 14, 3) := by decide +kernel
theorem dX5_adopt_8 : decode cX5_adopt 8 = .ok (.aload_n 0, 1) := by decide +kernel
theorem dX5_adopt_9 : decode cX5_adopt 9 = .ok (.getfield 106, 3) := by decide +kernel
theorem dX5_adopt_12 : decode cX5_adopt 12 = .ok (.ifCond .le 7, 3) := by decide +kernel
theorem dX5_adopt_15 : decode cX5_adopt 15 = .ok (.iconst 1, 1) := by decide +kernel
theorem dX5_adopt_16 : decode cX5_adopt 16 = .ok (.goto 4, 3) := by decide +kernel
theorem dX5_adopt_19 : decode cX5_adopt 19 = .ok (.iconst 0, 1) := by decide +kernel
theorem dX5_adopt_20 : decode cX5_adopt 20 = .ok (.iconst 1, 1) := by decide +kernel
theorem dX5_adopt_21 : decode cX5_adopt 21 = .ok (.iconst 1, 1) := by decide +kernel
theorem dX5_adopt_22 : decode cX5_adopt 22 = .ok (.invokevirtual 109, 3) := by decide +kernel
theorem dX5_adopt_25 : decode cX5_adopt 25 = .ok (.ifCond .ne 5, 3) := by decide +kernel
theorem dX5_adopt_28 : decode cX5_adopt 28 = .ok (.iconst 0, 1) := by decide +kernel
theorem dX5_adopt_29 : decode cX5_adopt 29 = .ok (.ireturn, 1) := by decide +kernel
theorem dX5_adopt_30 : decode cX5_adopt 30 = .ok (.aload_n 0, 1) := by decide +kernel
theorem dX5_adopt_31 : decode cX5_adopt 31 = .ok (.aload_n 0, 1) := by decide +kernel
theorem dX5_adopt_32 : decode cX5_adopt 32 = .ok (.getfield 106, 3) := by decide +kernel
theorem dX5_adopt_35 : decode cX5_adopt 35 = .ok (.invokevirtual 181, 3) := by decide +kernel
theorem dX5_adopt_38 : decode cX5_adopt 38 = .ok (.aload_n 0, 1) := by decide +kernel
theorem dX5_adopt_39 : decode cX5_adopt 39 = .ok (.aload_n 0, 1) := by decide +kernel
theorem dX5_adopt_40 : decode cX5_adopt 40 = .ok (.invokevirtual 195, 3) := by decide +kernel
theorem dX5_adopt_43 : decode cX5_adopt 43 = .ok (.iconst 5, 1) := by decide +kernel
theorem dX5_adopt_44 : decode cX5_adopt 44 = .ok (.if_icmp .lt 14, 3) := by decide +kernel
theorem dX5_adopt_47 : decode cX5_adopt 47 = .ok (.aload_n 0, 1) := by decide +kernel
theorem dX5_adopt_48 : decode cX5_adopt 48 = .ok (.invokevirtual 184, 3) := by decide +kernel
theorem dX5_adopt_51 : decode cX5_adopt 51 = .ok (.ifCond .ne 7, 3) := by decide +kernel
theorem dX5_adopt_54 : decode cX5_adopt 54 = .ok (.iconst 1, 1) := by decide +kernel
theorem dX5_adopt_55 : decode cX5_adopt 55 = .ok (.goto 4, 3) := by decide +kernel
theorem dX5_adopt_58 : decode cX5_adopt 58 = .ok (.iconst 0, 1) := by decide +kernel
theorem dX5_adopt_59 : decode cX5_adopt 59 = .ok (.putfield 198, 3) := by decide +kernel
theorem dX5_adopt_62 : decode cX5_adopt 62 = .ok (.aload_n 0, 1) := by decide +kernel
theorem dX5_adopt_63 : decode cX5_adopt 63 = .ok (.getfield 198, 3) := by decide +kernel
theorem dX5_adopt_66 : decode cX5_adopt 66 = .ok (.ireturn, 1) := by decide +kernel
