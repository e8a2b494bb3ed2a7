theorem dX3_countOpen_0 : decode cX3_countOpen 0 = .ok (.iconst 0, 1) := by decide +kernel
theorem dX3_countOpen_1 : decode cX3_countOpen 1 = .ok (.istore_n 2, 1) := by decide +kernel
theorem dX3_countOpen_2 : decode cX3_countOpen 2 = .ok (.iconst 0, 1) := by decide +kernel
theorem dX3_countOpen_3 : decode cX3_countOpen 3 = .ok (.istore_n 3, 1) := by decide +kernel
theorem dX3_countOpen_4 : decode cX3_countOpen 4 = .ok (.iload_n 3, 1) := by decide +kernel
theorem dX3_countOpen_5 : decode cX3_countOpen 5 = .ok (.aload_n 0, 1) := by decide +kernel
theorem dX3_countOpen_6 : decode cX3_countOpen 6 = .ok (.getfield 30, 3) := by decide +kernel
theorem dX3_countOpen_9 : decode cX3_countOpen 9 = .ok (.if_icmp .ge 25, 3) := by decide +kernel
theorem dX3_countOpen_12 : decode cX3_countOpen 12 = .ok (.aload_n 0, 1) := by decide +kernel
theorem dX3_countOpen_13 : decode cX3_countOpen 13 = .ok (.getfield 27, 3) := by decide +kernel
theorem dX3_countOpen_16 : decode cX3_countOpen 16 = .ok (.iload_n 3, 1) := by decide +kernel
theorem dX3_countOpen_17 : decode cX3_countOpen 17 = .ok (.iaload, 1) := by decide +kernel
theorem dX3_countOpen_18 : decode cX3_countOpen 18 = .ok (.invokestatic 79, 3) := by decide +kernel
theorem dX3_countOpen_21 : decode cX3_countOpen 21 = .ok (.iload_n 1, 1) := by decide +kernel
theorem dX3_countOpen_22 : decode cX3_countOpen 22 = .ok (.if_icmp .le 6, 3) := by decide +kernel
theorem dX3_countOpen_25 : decode cX3_countOpen 25 = .ok (.iinc 2 1, 3) := by decide +kernel
theorem dX3_countOpen_28 : decode cX3_countOpen 28 = .ok (.iinc 3 1, 3) := by decide +kernel
theorem dX3_countOpen_31 : decode cX3_countOpen 31 = .ok (.goto (-27), 3) := by decide +kernel
theorem dX3_countOpen_34 : decode cX3_countOpen 34 = .ok (.iload_n 2, 1) := by decide +kernel
theorem dX3_countOpen_35 : decode cX3_countOpen 35 = .ok (.ireturn, 1) := by decide +kernel
set_option maxRecDepth 20000 in
theorem ggX3_findSlips_X3_tryFrom : GoodIn wsX3_findSlips wsX3_tryFrom := goodIn_r _ [7, 2, 3, 8, 9, 10, 11, 12, 13, 14, 15, 16, 6, 17, 18, 19, 20, 1, 21, 22, 23, 24, 25, 26, 27, 28, 4, 5, 29, 30, 31, 32, 33, 34, 35, 36, 37, 38, 39, 40] (by decide +kernel) (by decide +kernel)
set_option maxRecDepth 20000 in
theorem gX3_findSlips_X3_tryFrom : GoodIn wsX3_findSlips (va_wsS RX3 85 yX3_tryFrom wsX3_tryFrom) := goodIn_app (goodIn_of _ (by decide +kernel)) ggX3_findSlips_X3_tryFrom
theorem dX3_findSlips_0 : decode cX3_findSlips 0 = .ok (.aload_n 0, 1) := by decide +kernel
theorem dX3_findSlips_1 : decode cX3_findSlips 1 = .ok (.iload_n 2, 1) := by decide +kernel
theorem dX3_findSlips_2 : decode cX3_findSlips 2 = .ok (.putfield 41, 3) := by decide +kernel
theorem dX3_findSlips_5 : decode cX3_findSlips 5 = .ok (.aload_n 0, 1) := by decide +kernel
theorem dX3_findSlips_6 : decode cX3_findSlips 6 = .ok (.iload_n 1, 1) := by decide +kernel
theorem dX3_findSlips_7 : decode cX3_findSlips 7 = .ok (.iconst 1, 1) := by decide +kernel
theorem dX3_findSlips_8 : decode cX3_findSlips 8 = .ok (.iadd, 1) := by decide +kernel
theorem dX3_findSlips_9 : decode cX3_findSlips 9 = .ok (.putfield 44, 3) := by decide +kernel
theorem dX3_findSlips_12 : decode cX3_findSlips 12 = .ok (.aload_n 0, 1) := by decide +kernel
theorem dX3_findSlips_13 : decode cX3_findSlips 13 = .ok (.iconst (-1), 1) := by decide +kernel
theorem dX3_findSlips_14 : decode cX3_findSlips 14 = .ok (.putfield 47, 3) := by decide +kernel
theorem dX3_findSlips_17 : decode cX3_findSlips 17 = .ok (.aload_n 0, 1) := by decide +kernel
theorem dX3_findSlips_18 : decode cX3_findSlips 18 = .ok (.iload_n 1, 1) := by decide +kernel
theorem dX3_findSlips_19 : decode cX3_findSlips 19 = .ok (.iconst 1, 1) := by decide +kernel
theorem dX3_findSlips_20 : decode cX3_findSlips 20 = .ok (.isub, 1) := by decide +kernel
theorem dX3_findSlips_21 : decode cX3_findSlips 21 = .ok (.iconst 0, 1) := by decide +kernel
theorem dX3_findSlips_22 : decode cX3_findSlips 22 = .ok (.iconst 0, 1) := by decide +kernel
theorem dX3_findSlips_23 : decode cX3_findSlips 23 = .ok (.invokestatic 85, 3) := by decide +kernel
theorem dX3_findSlips_26 : decode cX3_findSlips 26 = .ok (.aload_n 0, 1) := by decide +kernel
theorem dX3_findSlips_27 : decode cX3_findSlips 27 = .ok (.getfield 47, 3) := by decide +kernel
theorem dX3_findSlips_30 : decode cX3_findSlips 30 = .ok (.ireturn, 1) := by decide +kernel
set_option maxRecDepth 20000 in
theorem ggX3_tryFrom_X3_areClosedAbove : GoodIn wsX3_tryFrom wsX3_areClosedAbove := goodIn_r _ [13, 14, 15, 16, 5, 6, 7, 8, 17, 18, 19, 20, 12, 21, 4, 22, 23, 24, 25, 28, 29, 30, 31, 32, 33, 34, 35, 36, 37, 38, 39] (by decide +kernel) (by decide +kernel)
set_option maxRecDepth 20000 in
theorem gX3_tryFrom_X3_areClosedAbove : GoodIn wsX3_tryFrom (wsV RX3 89 RX3 yX3_areClosedAbove wsX3_areClosedAbove) := goodIn_app (goodIn_of _ (by decide +kernel)) ggX3_tryFrom_X3_areClosedAbove
set_option maxRecDepth 20000 in
theorem ggX3_tryFrom_X3_tryFrom : GoodIn wsX3_tryFrom wsX3_tryFrom := goodIn_r _ [0, 1, 2, 3, 4, 5, 6, 7, 8, 9, 10, 11, 12, 13, 14, 15, 16, 17, 18, 19, 20, 21, 22, 23, 24, 25, 26, 27, 28, 29, 30, 31, 32, 33, 34, 35, 36, 37, 38, 39] (by decide +kernel) (by decide +kernel)
set_option maxRecDepth 20000 in
theorem gX3_tryFrom_X3_tryFrom : GoodIn wsX3_tryFrom (va_wsS RX3 85 yX3_tryFrom wsX3_tryFrom) := goodIn_app (goodIn_of _ (by decide +kernel)) ggX3_tryFrom_X3_tryFrom
theorem dX3_tryFrom_0 : decode cX3_tryFrom 0 = .ok (.iload_n 3, 1) := by decide +kernel
theorem dX3_tryFrom_1 : decode cX3_tryFrom 1 = .ok (.aload_n 0, 1) := by decide +kernel
theorem dX3_tryFrom_2 : decode cX3_tryFrom 2 = .ok (.getfield 44, 3) := by decide +kernel
theorem dX3_tryFrom_5 : decode cX3_tryFrom 5 = .ok (.if_icmp .lt 4, 3) := by decide +kernel
theorem dX3_tryFrom_8 : decode cX3_tryFrom 8 = .ok (.return_, 1) := by decide +kernel
theorem dX3_tryFrom_9 : decode cX3_tryFrom 9 = .ok (.iload_n 1, 1) := by decide +kernel
theorem dX3_tryFrom_10 : decode cX3_tryFrom 10 = .ok (.ifCond .ge 14, 3) := by decide +kernel
theorem dX3_tryFrom_13 : decode cX3_tryFrom 13 = .ok (.aload_n 0, 1) := by decide +kernel
theorem dX3_tryFrom_14 : decode cX3_tryFrom 14 = .ok (.iload_n 3, 1) := by decide +kernel
theorem dX3_tryFrom_15 : decode cX3_tryFrom 15 = .ok (.putfield 44, 3) := by decide +kernel
theorem dX3_tryFrom_18 : decode cX3_tryFrom 18 = .ok (.aload_n 0, 1) := by decide +kernel
theorem dX3_tryFrom_19 : decode cX3_tryFrom 19 = .ok (.iload_n 2, 1) := by decide +kernel
theorem dX3_tryFrom_20 : decode cX3_tryFrom 20 = .ok (.putfield 47, 3) := by decide +kernel
theorem dX3_tryFrom_23 : decode cX3_tryFrom 23 = .ok (.return_, 1) := by decide +kernel
theorem dX3_tryFrom_24 : decode cX3_tryFrom 24 = .ok (.aload_n 0, 1) := by decide +kernel
theorem dX3_tryFrom_25 : decode cX3_tryFrom 25 = .ok (.getfield 34, 3) := by decide +kernel
theorem dX3_tryFrom_28 : decode cX3_tryFrom 28 = .ok (.iload_n 1, 1) := by decide +kernel
theorem dX3_tryFrom_29 : decode cX3_tryFrom 29 = .ok (.baload, 1) := by decide +kernel
theorem dX3_tryFrom_30 : decode cX3_tryFrom 30 = .ok (.ifCond .eq 7, 3) := by decide +kernel
theorem dX3_tryFrom_33 : decode cX3_tryFrom 33 = .ok (.iconst 1, 1) := by decide +kernel
theorem dX3_tryFrom_34 : decode cX3_tryFrom 34 = .ok (.goto 4, 3) := by decide +kernel
theorem dX3_tryFrom_37 : decode cX3_tryFrom 37 = .ok (.iconst 0, 1) := by decide +kernel
theorem dX3_tryFrom_38 : decode cX3_tryFrom 38 = .ok (.istore 4, 2) := by decide +kernel
theorem dX3_tryFrom_40 : decode cX3_tryFrom 40 = .ok (.iload 4, 2) := by decide +kernel
theorem dX3_tryFrom_42 : decode cX3_tryFrom 42 = .ok (.ineg, 1) := by decide +kernel
theorem dX3_tryFrom_43 : decode cX3_tryFrom 43 = .ok (.istore 5, 2) := by decide +kernel
theorem dX3_tryFrom_45 : decode cX3_tryFrom 45 = .ok (.iload 5, 2) := by decide +kernel
theorem dX3_tryFrom_47 : decode cX3_tryFrom 47 = .ok (.iload 4, 2) := by decide +kernel
theorem dX3_tryFrom_49 : decode cX3_tryFrom 49 = .ok (.if_icmp .gt 47, 3) := by decide +kernel
theorem dX3_tryFrom_52 : decode cX3_tryFrom 52 = .ok (.aload_n 0, 1) := by decide +kernel
theorem dX3_tryFrom_53 : decode cX3_tryFrom 53 = .ok (.getfield 38, 3) := by decide +kernel
theorem dX3_tryFrom_56 : decode cX3_tryFrom 56 = .ok (.iload_n 1, 1) := by decide +kernel
theorem dX3_tryFrom_57 : decode cX3_tryFrom 57 = .ok (.iload 5, 2) := by decide +kernel
theorem dX3_tryFrom_59 : decode cX3_tryFrom 59 = .ok (.iastore, 1) := by decide +kernel
theorem dX3_tryFrom_60 : decode cX3_tryFrom 60 = .ok (.aload_n 0, 1) := by decide +kernel
theorem dX3_tryFrom_61 : decode cX3_tryFrom 61 = .ok (.iload_n 1, 1) := by decide +kernel
theorem dX3_tryFrom_62 : decode cX3_tryFrom 62 = .ok (.invokevirtual 89, 3) := by decide +kernel
theorem dX3_tryFrom_65 : decode cX3_tryFrom 65 = .ok (.ifCond .eq 25, 3) := by decide +kernel
theorem dX3_tryFrom_68 : decode cX3_tryFrom 68 = .ok (.aload_n 0, 1) := by decide +kernel
theorem dX3_tryFrom_69 : decode cX3_tryFrom 69 = .ok (.iload_n 1, 1) := by decide +kernel
theorem dX3_tryFrom_70 : decode cX3_tryFrom 70 = .ok (.iconst 1, 1) := by decide +kernel
theorem dX3_tryFrom_71 : decode cX3_tryFrom 71 = .ok (.isub, 1) := by decide +kernel
theorem dX3_tryFrom_72 : decode cX3_tryFrom 72 = .ok (.iload_n 2, 1) := by decide +kernel
theorem dX3_tryFrom_73 : decode cX3_tryFrom 73 = .ok (.iconst 3, 1) := by decide +kernel
theorem dX3_tryFrom_74 : decode cX3_tryFrom 74 = .ok (.imul, 1) := by decide +kernel
theorem dX3_tryFrom_75 : decode cX3_tryFrom 75 = .ok (.iconst 1, 1) := by decide +kernel
theorem dX3_tryFrom_76 : decode cX3_tryFrom 76 = .ok (.iadd, 1) := by decide +kernel
theorem dX3_tryFrom_77 : decode cX3_tryFrom 77 = .ok (.iload 5, 2) := by decide +kernel
theorem dX3_tryFrom_79 : decode cX3_tryFrom 79 = .ok (.iadd, 1) := by decide +kernel
theorem dX3_tryFrom_80 : decode cX3_tryFrom 80 = .ok (.iload_n 3, 1) := by decide +kernel
theorem dX3_tryFrom_81 : decode cX3_tryFrom 81 = .ok (.iload 5, 2) := by decide +kernel
theorem dX3_tryFrom_83 : decode cX3_tryFrom 83 = .ok (.invokestatic 79, 3) := by decide +kernel
theorem dX3_tryFrom_86 : decode cX3_tryFrom 86 = .ok (.iadd, 1) := by decide +kernel
theorem dX3_tryFrom_87 : decode cX3_tryFrom 87 = .ok (.invokestatic 85, 3) := by decide +kernel
theorem dX3_tryFrom_90 : decode cX3_tryFrom 90 = .ok (.iinc 5 1, 3) := by decide +kernel
theorem dX3_tryFrom_93 : decode cX3_tryFrom 93 = .ok (.goto (-48), 3) := by decide +kernel
theorem dX3_tryFrom_96 : decode cX3_tryFrom 96 = .ok (.return_, 1) := by decide +kernel
set_option maxRecDepth 20000 in
theorem ggX3_areClosedAbove_X3_takenOff : GoodIn wsX3_areClosedAbove wsX3_takenOff := goodIn_r _ [13, 14, 2, 15, 16, 17, 18, 19, 20, 21, 22, 23, 24, 25, 26, 27, 28, 29, 30] (by decide +kernel) (by decide +kernel)
set_option maxRecDepth 20000 in
theorem gX3_areClosedAbove_X3_takenOff : GoodIn wsX3_areClosedAbove (wsV RX3 93 RX3 yX3_takenOff wsX3_takenOff) := goodIn_app (goodIn_of _ (by decide +kernel)) ggX3_areClosedAbove_X3_takenOff
theorem dX3_areClosedAbove_0 : decode cX3_areClosedAbove 0 = .ok (.iconst 0, 1) := by decide +kernel
theorem dX3_areClosedAbove_1 : decode cX3_areClosedAbove 1 = .ok (.istore_n 2, 1) := by decide +kernel
theorem dX3_areClosedAbove_2 : decode cX3_areClosedAbove 2 = .ok (.iload_n 2, 1) := by decide +kernel
theorem dX3_areClosedAbove_3 : decode cX3_areClosedAbove 3 = .ok (.aload_n 0, 1) := by decide +kernel
theorem dX3_areClosedAbove_4 : decode cX3_areClosedAbove 4 = .ok (.getfield 30, 3) := by decide +kernel
theorem dX3_areClosedAbove_7 : decode cX3_areClosedAbove 7 = .ok (.if_icmp .ge 47, 3) := by decide +kernel
theorem dX3_areClosedAbove_10 : decode cX3_areClosedAbove 10 = .ok (.aload_n 0, 1) := by decide +kernel
theorem dX3_areClosedAbove_11 : decode cX3_areClosedAbove 11 = .ok (.getfield 9, 3) := by decide +kernel
theorem dX3_areClosedAbove_14 : decode cX3_areClosedAbove 14 = .ok (.iload_n 2, 1) := by decide +kernel
theorem dX3_areClosedAbove_15 : decode cX3_areClosedAbove 15 = .ok (.iaload, 1) := by decide +kernel
theorem dX3_areClosedAbove_16 : decode cX3_areClosedAbove 16 = .ok (.iload_n 1, 1) := by decide +kernel
theorem dX3_areClosedAbove_17 : decode cX3_areClosedAbove 17 = .ok (.if_icmp .ne 31, 3) := by decide +kernel
theorem dX3_areClosedAbove_20 : decode cX3_areClosedAbove 20 = .ok (.aload_n 0, 1) := by decide +kernel
theorem dX3_areClosedAbove_21 : decode cX3_areClosedAbove 21 = .ok (.getfield 27, 3) := by decide +kernel
theorem dX3_areClosedAbove_24 : decode cX3_areClosedAbove 24 = .ok (.iload_n 2, 1) := by decide +kernel
theorem dX3_areClosedAbove_25 : decode cX3_areClosedAbove 25 = .ok (.iaload, 1) := by decide +kernel
theorem dX3_areClosedAbove_26 : decode cX3_areClosedAbove 26 = .ok (.sipush 1000, 3) := by decide +kernel
theorem dX3_areClosedAbove_29 : decode cX3_areClosedAbove 29 = .ok (.aload_n 0, 1) := by decide +kernel
theorem dX3_areClosedAbove_30 : decode cX3_areClosedAbove 30 = .ok (.iload_n 2, 1) := by decide +kernel
theorem dX3_areClosedAbove_31 : decode cX3_areClosedAbove 31 = .ok (.invokevirtual 93, 3) := by decide +kernel
theorem dX3_areClosedAbove_34 : decode cX3_areClosedAbove 34 = .ok (.imul, 1) := by decide +kernel
theorem dX3_areClosedAbove_35 : decode cX3_areClosedAbove 35 = .ok (.isub, 1) := by decide +kernel
theorem dX3_areClosedAbove_36 : decode cX3_areClosedAbove 36 = .ok (.invokestatic 79, 3) := by decide +kernel
theorem dX3_areClosedAbove_39 : decode cX3_areClosedAbove 39 = .ok (.aload_n 0, 1) := by decide +kernel
theorem dX3_areClosedAbove_40 : decode cX3_areClosedAbove 40 = .ok (.getfield 41, 3) := by decide +kernel
theorem dX3_areClosedAbove_43 : decode cX3_areClosedAbove 43 = .ok (.if_icmp .le 5, 3) := by decide +kernel
theorem dX3_areClosedAbove_46 : decode cX3_areClosedAbove 46 = .ok (.iconst 0, 1) := by decide +kernel
theorem dX3_areClosedAbove_47 : decode cX3_areClosedAbove 47 = .ok (.ireturn, 1) := by decide +kernel
theorem dX3_areClosedAbove_48 : decode cX3_areClosedAbove 48 = .ok (.iinc 2 1, 3) := by decide +kernel
theorem dX3_areClosedAbove_51 : decode cX3_areClosedAbove 51 = .ok (.goto (-49), 3) := by decide +kernel
theorem dX3_areClosedAbove_54 : decode cX3_areClosedAbove 54 = .ok (.iconst 1, 1) := by decide +kernel
theorem dX3_areClosedAbove_55 : decode cX3_areClosedAbove 55 = .ok (.ireturn, 1) := by decide +kernel
theorem dX3_takenOff_0 : decode cX3_takenOff 0 = .ok (.aload_n 0, 1) := by decide +kernel
theorem dX3_takenOff_1 : decode cX3_takenOff 1 = .ok (.getfield 38, 3) := by decide +kernel
theorem dX3_takenOff_4 : decode cX3_takenOff 4 = .ok (.aload_n 0, 1) := by decide +kernel
theorem dX3_takenOff_5 : decode cX3_takenOff 5 = .ok (.getfield 9, 3) := by decide +kernel
theorem dX3_takenOff_8 : decode cX3_takenOff 8 = .ok (.iload_n 1, 1) := by decide +kernel
theorem dX3_takenOff_9 : decode cX3_takenOff 9 = .ok (.iaload, 1) := by decide +kernel
theorem dX3_takenOff_10 : decode cX3_takenOff 10 = .ok (.iaload, 1) := by decide +kernel
theorem dX3_takenOff_11 : decode cX3_takenOff 11 = .ok (.aload_n 0, 1) := by decide +kernel
theorem dX3_takenOff_12 : decode cX3_takenOff 12 = .ok (.getfield 21, 3) := by decide +kernel
theorem dX3_takenOff_15 : decode cX3_takenOff 15 = .ok (.iload_n 1, 1) := by decide +kernel
theorem dX3_takenOff_16 : decode cX3_takenOff 16 = .ok (.iaload, 1) := by decide +kernel
theorem dX3_takenOff_17 : decode cX3_takenOff 17 = .ok (.aload_n 0, 1) := by decide +kernel
theorem dX3_takenOff_18 : decode cX3_takenOff 18 = .ok (.getfield 38, 3) := by decide +kernel
theorem dX3_takenOff_21 : decode cX3_takenOff 21 = .ok (.aload_n 0, 1) := by decide +kernel
theorem dX3_takenOff_22 : decode cX3_takenOff 22 = .ok (.getfield 15, 3) := by decide +kernel
theorem dX3_takenOff_25 : decode cX3_takenOff 25 = .ok (.iload_n 1, 1) := by decide +kernel
theorem dX3_takenOff_26 : decode cX3_takenOff 26 = .ok (.iaload, 1) := by decide +kernel
theorem dX3_takenOff_27 : decode cX3_takenOff 27 = .ok (.iaload, 1) := by decide +kernel
theorem dX3_takenOff_28 : decode cX3_takenOff 28 = .ok (.imul, 1) := by decide +kernel
theorem dX3_takenOff_29 : decode cX3_takenOff 29 = .ok (.iadd, 1) := by decide +kernel
theorem dX3_takenOff_30 : decode cX3_takenOff 30 = .ok (.aload_n 0, 1) := by decide +kernel
theorem dX3_takenOff_31 : decode cX3_takenOff 31 = .ok (.getfield 24, 3) := by decide +kernel
theorem dX3_takenOff_34 : decode cX3_takenOff 34 = .ok (.iload_n 1, 1) := by decide +kernel
theorem dX3_takenOff_35 : decode cX3_takenOff 35 = .ok (.iaload, 1) := by decide +kernel
theorem dX3_takenOff_36 : decode cX3_takenOff 36 = .ok (.aload_n 0, 1) := by decide +kernel
theorem dX3_takenOff_37 : decode cX3_takenOff 37 = .ok (.getfield 38, 3) := by decide +kernel
theorem dX3_takenOff_40 : decode cX3_takenOff 40 = .ok (.aload_n 0, 1) := by decide +kernel
theorem dX3_takenOff_41 : decode cX3_takenOff 41 = .ok (.getfield 18, 3) := by decide +kernel
theorem dX3_takenOff_44 : decode cX3_takenOff 44 = .ok (.iload_n 1, 1) := by decide +kernel
theorem dX3_takenOff_45 : decode cX3_takenOff 45 = .ok (.iaload, 1) := by decide +kernel
theorem dX3_takenOff_46 : decode cX3_takenOff 46 = .ok (.iaload, 1) := by decide +kernel
theorem dX3_takenOff_47 : decode cX3_takenOff 47 = .ok (.imul, 1) := by decide +kernel
theorem dX3_takenOff_48 : decode cX3_takenOff 48 = .ok (.iadd, 1) := by decide +kernel
theorem dX3_takenOff_49 : decode cX3_takenOff 49 = .ok (.ireturn, 1) := by decide +kernel
set_option maxRecDepth 20000 in
theorem ggX4_init_X1_init : GoodIn wsX4_init wsX1_init := goodIn_r _ [29, 30, 2, 3, 20, 31, 32, 33, 34, 35, 36, 70, 71, 72, 73, 74, 75] (by decide +kernel) (by decide +kernel)
set_option maxRecDepth 20000 in
theorem gX4_init_X1_init_n9 : GoodIn wsX4_init (wsX1_init) := ggX4_init_X1_init
set_option maxRecDepth 20000 in
theorem ggX4_init_X2_init : GoodIn wsX4_init wsX2_init := goodIn_r _ [38, 39, 2, 3, 20, 40, 41, 42, 43, 44, 45, 46, 47, 48, 49, 86, 87, 88, 89, 90, 91, 92, 93, 94] (by decide +kernel) (by decide +kernel)
set_option maxRecDepth 20000 in
theorem gX4_init_X2_init_n18 : GoodIn wsX4_init (wsX2_init) := ggX4_init_X2_init
set_option maxRecDepth 20000 in
theorem ggX4_init_X0_init : GoodIn wsX4_init wsX0_init := goodIn_r _ [51, 52, 2, 3, 20, 53, 54, 95, 96] (by decide +kernel) (by decide +kernel)
set_option maxRecDepth 20000 in
theorem gX4_init_X0_init_n25 : GoodIn wsX4_init (wsX0_init) := ggX4_init_X0_init
set_option maxRecDepth 20000 in
theorem ggX4_init_X3_init : GoodIn wsX4_init wsX3_init := goodIn_r _ [56, 57, 2, 3, 20, 58, 59, 60, 61, 62, 63, 64, 22, 65, 66, 67, 68, 69, 97, 98, 99, 100, 101, 102, 103, 104, 105, 106, 107, 108] (by decide +kernel) (by decide +kernel)
set_option maxRecDepth 20000 in
theorem gX4_init_X3_init_n32 : GoodIn wsX4_init (wsX3_init) := ggX4_init_X3_init
theorem dX4_init_0 : decode cX4_init 0 = .ok (.aload_n 0, 1) := by decide +kernel
theorem dX4_init_1 : decode cX4_init 1 = .ok (.invokespecial 1, 3) := by decide +kernel
theorem dX4_init_4 : decode cX4_init 4 = .ok (.aload_n 0, 1) := by decide +kernel
theorem dX4_init_5 : decode cX4_init 5 = .ok (.new 7, 3) := by decide +kernel
theorem dX4_init_8 : decode cX4_init 8 = .ok (.dup, 1) := by decide +kernel
theorem dX4_init_9 : decode cX4_init 9 = .ok (.invokespecial 9, 3) := by decide +kernel
theorem dX4_init_12 : decode cX4_init 12 = .ok (.putfield 10, 3) := by decide +kernel
theorem dX4_init_15 : decode cX4_init 15 = .ok (.aload_n 0, 1) := by decide +kernel
theorem dX4_init_16 : decode cX4_init 16 = .ok (.new 16, 3) := by decide +kernel
theorem dX4_init_19 : decode cX4_init 19 = .ok (.dup, 1) := by decide +kernel
theorem dX4_init_20 : decode cX4_init 20 = .ok (.invokespecial 18, 3) := by decide +kernel
theorem dX4_init_23 : decode cX4_init 23 = .ok (.putfield 19, 3) := by decide +kernel
theorem dX4_init_26 : decode cX4_init 26 = .ok (.aload_n 0, 1) := by decide +kernel
theorem dX4_init_27 : decode cX4_init 27 = .ok (.new 23, 3) := by decide +kernel
theorem dX4_init_30 : decode cX4_init 30 = .ok (.dup, 1) := by decide +kernel
theorem dX4_init_31 : decode cX4_init 31 = .ok (.invokespecial 25, 3) := by decide +kernel
theorem dX4_init_34 : decode cX4_init 34 = .ok (.putfield 26, 3) := by decide +kernel
theorem dX4_init_37 : decode cX4_init 37 = .ok (.aload_n 0, 1) := by decide +kernel
theorem dX4_init_38 : decode cX4_init 38 = .ok (.new 30, 3) := by decide +kernel
theorem dX4_init_41 : decode cX4_init 41 = .ok (.dup, 1) := by decide +kernel
theorem dX4_init_42 : decode cX4_init 42 = .ok (.invokespecial 32, 3) := by decide +kernel
theorem dX4_init_45 : decode cX4_init 45 = .ok (.putfield 33, 3) := by decide +kernel
theorem dX4_init_48 : decode cX4_init 48 = .ok (.aload_n 0, 1) := by decide +kernel
theorem dX4_init_49 : decode cX4_init 49 = .ok (.sipush 501, 3) := by decide +kernel
theorem dX4_init_52 : decode cX4_init 52 = .ok (.newarray .int, 2) := by decide +kernel
theorem dX4_init_54 : decode cX4_init 54 = .ok (.putfield 37, 3) := by decide +kernel
theorem dX4_init_57 : decode cX4_init 57 = .ok (.aload_n 0, 1) := by decide +kernel
theorem dX4_init_58 : decode cX4_init 58 = .ok (.bipush 7, 2) := by decide +kernel
theorem dX4_init_60 : decode cX4_init 60 = .ok (.newarray .boolean, 2) := by decide +kernel
theorem dX4_init_62 : decode cX4_init 62 = .ok (.putfield 41, 3) := by decide +kernel
theorem dX4_init_65 : decode cX4_init 65 = .ok (.aload_n 0, 1) := by decide +kernel
theorem dX4_init_66 : decode cX4_init 66 = .ok (.iconst 0, 1) := by decide +kernel
theorem dX4_init_67 : decode cX4_init 67 = .ok (.putfield 45, 3) := by decide +kernel
theorem dX4_init_70 : decode cX4_init 70 = .ok (.aload_n 0, 1) := by decide +kernel
theorem dX4_init_71 : decode cX4_init 71 = .ok (.bipush 100, 2) := by decide +kernel
theorem dX4_init_73 : decode cX4_init 73 = .ok (.putfield 49, 3) := by decide +kernel
theorem dX4_init_76 : decode cX4_init 76 = .ok (.aload_n 0, 1) := by decide +kernel
theorem dX4_init_77 : decode cX4_init 77 = .ok (.bipush 20, 2) := by decide +kernel
theorem dX4_init_79 : decode cX4_init 79 = .ok (.putfield 52, 3) := by decide +kernel
theorem dX4_init_82 : decode cX4_init 82 = .ok (.aload_n 0, 1) := by decide +kernel
theorem dX4_init_83 : decode cX4_init 83 = .ok (.iconst 0, 1) := by decide +kernel
theorem dX4_init_84 : decode cX4_init 84 = .ok (.putfield 55, 3) := by decide +kernel
theorem dX4_init_87 : decode cX4_init 87 = .ok (.return_, 1) := by decide +kernel
set_option maxRecDepth 20000 in
theorem ggX4_clock_X4_isWithin : GoodIn wsX4_clock wsX4_isWithin := goodIn_r _ [9] (by decide +kernel) (by decide +kernel)
set_option maxRecDepth 20000 in
theorem gX4_clock_X4_isWithin : GoodIn wsX4_clock (va_wsS RX4 59 yX4_isWithin wsX4_isWithin) := goodIn_app (goodIn_of _ (by decide +kernel)) ggX4_clock_X4_isWithin
set_option maxRecDepth 20000 in
theorem ggX4_clock_X1_count : GoodIn wsX4_clock wsX1_count := goodIn_r _ [14, 15, 33, 34, 35, 36, 37, 38] (by decide +kernel) (by decide +kernel)
set_option maxRecDepth 20000 in
theorem gX4_clock_X1_count : GoodIn wsX4_clock (wsV RX4 70 RX1 yX1_count wsX1_count) := goodIn_app (goodIn_of _ (by decide +kernel)) ggX4_clock_X1_count
set_option maxRecDepth 20000 in
theorem ggX4_clock_X1_add : GoodIn wsX4_clock wsX1_add := goodIn_r _ [19, 15, 20, 21, 22, 33, 34, 35, 36, 37, 38] (by decide +kernel) (by decide +kernel)
set_option maxRecDepth 20000 in
theorem gX4_clock_X1_add : GoodIn wsX4_clock (wsV RX4 79 RX1 yX1_add wsX1_add) := goodIn_app (goodIn_of _ (by decide +kernel)) ggX4_clock_X1_add
theorem dX4_clock_0 : decode cX4_clock 0 = .ok (.iload_n 1, 1) := by decide +kernel
theorem dX4_clock_1 : decode cX4_clock 1 = .ok (.sipush (-500), 3) := by decide +kernel
theorem dX4_clock_4 : decode cX4_clock 4 = .ok (.sipush 500, 3) := by decide +kernel
theorem dX4_clock_7 : decode cX4_clock 7 = .ok (.invokestatic 59, 3) := by decide +kernel
theorem dX4_clock_10 : decode cX4_clock 10 = .ok (.ifCond .eq 14, 3) := by decide +kernel
theorem dX4_clock_13 : decode cX4_clock 13 = .ok (.iload_n 2, 1) := by decide +kernel
theorem dX4_clock_14 : decode cX4_clock 14 = .ok (.iconst 0, 1) := by decide +kernel
theorem dX4_clock_15 : decode cX4_clock 15 = .ok (.sipush 5000, 3) := by decide +kernel
theorem dX4_clock_18 : decode cX4_clock 18 = .ok (.invokestatic 59, 3) := by decide +kernel
theorem dX4_clock_21 : decode cX4_clock 21 = .ok (.ifCond .ne 13, 3) := by decide +kernel
theorem dX4_clock_24 : decode cX4_clock 24 = .ok (.new 63, 3) := by decide +kernel
theorem dX4_clock_27 : decode cX4_clock 27 = .ok (.dup, 1) := by decide +kernel
theorem dX4_clock_28 : decode cX4_clock 28 = .ok (.ldc 65, 2) := by decide +kernel
theorem dX4_clock_30 : decode cX4_clock 30 = .ok (.invokespecial 67, 3) := by decide +kernel
theorem dX4_clock_33 : decode cX4_clock 33 = .ok (.athrow, 1) := by decide +kernel
theorem dX4_clock_34 : decode cX4_clock 34 = .ok (.aload_n 0, 1) := by decide +kernel
theorem dX4_clock_35 : decode cX4_clock 35 = .ok (.getfield 10, 3) := by decide +kernel
theorem dX4_clock_38 : decode cX4_clock 38 = .ok (.invokevirtual 70, 3) := by decide +kernel
theorem dX4_clock_41 : decode cX4_clock 41 = .ok (.bipush 6, 2) := by decide +kernel
theorem dX4_clock_43 : decode cX4_clock 43 = .ok (.if_icmp .lt 13, 3) := by decide +kernel
theorem dX4_clock_46 : decode cX4_clock 46 = .ok (.new 74, 3) := by decide +kernel
theorem dX4_clock_49 : decode cX4_clock 49 = .ok (.dup, 1) := by decide +kernel
theorem dX4_clock_50 : decode cX4_clock 50 = .ok (.ldc 76, 2) := by decide +kernel
theorem dX4_clock_52 : decode cX4_clock 52 = .ok (.invokespecial 78, 3) := by decide +kernel
theorem dX4_clock_55 : decode cX4_clock 55 = .ok (.athrow, 1) := by decide +kernel
theorem dX4_clock_56 : decode cX4_clock 56 = .ok (.aload_n 0, 1) := by decide +kernel
theorem dX4_clock_57 : decode cX4_clock 57 = .ok (.getfield 10, 3) := by decide +kernel
theorem dX4_clock_60 : decode cX4_clock 60 = .ok (.iload_n 1, 1) := by decide +kernel
theorem dX4_clock_61 : decode cX4_clock 61 = .ok (.iload_n 2, 1) := by decide +kernel
theorem dX4_clock_62 : decode cX4_clock 62 = .ok (.invokevirtual 79, 3) := by decide +kernel
theorem dX4_clock_65 : decode cX4_clock 65 = .ok (.ireturn, 1) := by decide +kernel
set_option maxRecDepth 20000 in
theorem ggX4_tell_X1_has : GoodIn wsX4_tell wsX1_has := goodIn_r _ [10, 11, 36, 37, 38, 39, 40, 41] (by decide +kernel) (by decide +kernel)
set_option maxRecDepth 20000 in
theorem gX4_tell_X1_has : GoodIn wsX4_tell (wsV RX4 83 RX1 yX1_has wsX1_has) := goodIn_app (goodIn_of _ (by decide +kernel)) ggX4_tell_X1_has
set_option maxRecDepth 20000 in
theorem ggX4_tell_X4_isWithin : GoodIn wsX4_tell wsX4_isWithin := goodIn_r _ [15] (by decide +kernel) (by decide +kernel)
set_option maxRecDepth 20000 in
theorem gX4_tell_X4_isWithin : GoodIn wsX4_tell (va_wsS RX4 59 yX4_isWithin wsX4_isWithin) := goodIn_app (goodIn_of _ (by decide +kernel)) ggX4_tell_X4_isWithin
set_option maxRecDepth 20000 in
theorem ggX4_tell_X1_weightOf : GoodIn wsX4_tell wsX1_weightOf := goodIn_r _ [19, 20, 36, 37, 38, 39, 40, 41] (by decide +kernel) (by decide +kernel)
set_option maxRecDepth 20000 in
theorem gX4_tell_X1_weightOf : GoodIn wsX4_tell (wsV RX4 94 RX1 yX1_weightOf wsX1_weightOf) := goodIn_app (goodIn_of _ (by decide +kernel)) ggX4_tell_X1_weightOf
set_option maxRecDepth 20000 in
theorem ggX4_tell_X1_setDriftAndWeight : GoodIn wsX4_tell wsX1_setDriftAndWeight := goodIn_r _ [24, 25, 20, 36, 37, 38, 39, 40, 41] (by decide +kernel) (by decide +kernel)
set_option maxRecDepth 20000 in
theorem gX4_tell_X1_setDriftAndWeight : GoodIn wsX4_tell (wsV RX4 98 RX1 yX1_setDriftAndWeight wsX1_setDriftAndWeight) := goodIn_app (goodIn_of _ (by decide +kernel)) ggX4_tell_X1_setDriftAndWeight
theorem dX4_tell_0 : decode cX4_tell 0 = .ok (.aload_n 0, 1) := by decide +kernel
theorem dX4_tell_1 : decode cX4_tell 1 = .ok (.getfield 10, 3) := by decide +kernel
theorem dX4_tell_4 : decode cX4_tell 4 = .ok (.iload_n 1, 1) := by decide +kernel
theorem dX4_tell_5 : decode cX4_tell 5 = .ok (.invokevirtual 83, 3) := by decide +kernel
theorem dX4_tell_8 : decode cX4_tell 8 = .ok (.ifCond .ne 13, 3) := by decide +kernel
theorem dX4_tell_11 : decode cX4_tell 11 = .ok (.new 87, 3) := by decide +kernel
theorem dX4_tell_14 : decode cX4_tell 14 = .ok (.dup, 1) := by decide +kernel
theorem dX4_tell_15 : decode cX4_tell 15 = .ok (.ldc 89, 2) := by decide +kernel
theorem dX4_tell_17 : decode cX4_tell 17 = .ok (.invokespecial 91, 3) := by decide +kernel
theorem dX4_tell_20 : decode cX4_tell 20 = .ok (.athrow, 1) := by decide +kernel
theorem dX4_tell_21 : decode cX4_tell 21 = .ok (.iload_n 2, 1) := by decide +kernel
theorem dX4_tell_22 : decode cX4_tell 22 = .ok (.bipush (-20), 2) := by decide +kernel
theorem dX4_tell_24 : decode cX4_tell 24 = .ok (.bipush 20, 2) := by decide +kernel
theorem dX4_tell_26 : decode cX4_tell 26 = .ok (.invokestatic 59, 3) := by decide +kernel
theorem dX4_tell_29 : decode cX4_tell 29 = .ok (.ifCond .eq 13, 3) := by decide +kernel
theorem dX4_tell_32 : decode cX4_tell 32 = .ok (.iload_n 3, 1) := by decide +kernel
theorem dX4_tell_33 : decode cX4_tell 33 = .ok (.iconst 0, 1) := by decide +kernel
theorem dX4_tell_34 : decode cX4_tell 34 = .ok (.bipush 100, 2) := by decide +kernel
theorem dX4_tell_36 : decode cX4_tell 36 = .ok (.invokestatic 59, 3) := by decide +kernel
theorem dX4_tell_39 : decode cX4_tell 39 = .ok (.ifCond .ne 13, 3) := by decide +kernel
theorem dX4_tell_42 : decode cX4_tell 42 = .ok (.new 63, 3) := by decide +kernel
theorem dX4_tell_45 : decode cX4_tell 45 = .ok (.dup, 1) := by decide +kernel
theorem dX4_tell_46 : decode cX4_tell 46 = .ok (.ldc 92, 2) := by decide +kernel
theorem dX4_tell_48 : decode cX4_tell 48 = .ok (.invokespecial 67, 3) := by decide +kernel
theorem dX4_tell_51 : decode cX4_tell 51 = .ok (.athrow, 1) := by decide +kernel
theorem dX4_tell_52 : decode cX4_tell 52 = .ok (.aload_n 0, 1) := by decide +kernel
theorem dX4_tell_53 : decode cX4_tell 53 = .ok (.getfield 10, 3) := by decide +kernel
theorem dX4_tell_56 : decode cX4_tell 56 = .ok (.iload_n 1, 1) := by decide +kernel
theorem dX4_tell_57 : decode cX4_tell 57 = .ok (.invokevirtual 94, 3) := by decide +kernel
theorem dX4_tell_60 : decode cX4_tell 60 = .ok (.istore 4, 2) := by decide +kernel
theorem dX4_tell_62 : decode cX4_tell 62 = .ok (.aload_n 0, 1) := by decide +kernel
theorem dX4_tell_63 : decode cX4_tell 63 = .ok (.getfield 10, 3) := by decide +kernel
theorem dX4_tell_66 : decode cX4_tell 66 = .ok (.iload_n 1, 1) := by decide +kernel
theorem dX4_tell_67 : decode cX4_tell 67 = .ok (.iload_n 2, 1) := by decide +kernel
theorem dX4_tell_68 : decode cX4_tell 68 = .ok (.iload_n 3, 1) := by decide +kernel
theorem dX4_tell_69 : decode cX4_tell 69 = .ok (.invokevirtual 98, 3) := by decide +kernel
theorem dX4_tell_72 : decode cX4_tell 72 = .ok (.iload 4, 2) := by decide +kernel
theorem dX4_tell_74 : decode cX4_tell 74 = .ok (.ireturn, 1) := by decide +kernel
set_option maxRecDepth 20000 in
theorem ggX4_link_X1_has : GoodIn wsX4_link wsX1_has := goodIn_r _ [14, 15, 44, 45, 46, 47, 48, 49] (by decide +kernel) (by decide +kernel)
set_option maxRecDepth 20000 in
theorem gX4_link_X1_has : GoodIn wsX4_link (wsV RX4 83 RX1 yX1_has wsX1_has) := goodIn_app (goodIn_of _ (by decide +kernel)) ggX4_link_X1_has
set_option maxRecDepth 20000 in
theorem ggX4_link_X4_isWithin : GoodIn wsX4_link wsX4_isWithin := goodIn_r _ [19] (by decide +kernel) (by decide +kernel)
set_option maxRecDepth 20000 in
theorem gX4_link_X4_isWithin : GoodIn wsX4_link (va_wsS RX4 59 yX4_isWithin wsX4_isWithin) := goodIn_app (goodIn_of _ (by decide +kernel)) ggX4_link_X4_isWithin
set_option maxRecDepth 20000 in
theorem ggX4_link_X2_count : GoodIn wsX4_link wsX2_count := goodIn_r _ [24, 25, 50, 51, 52, 53, 54, 55, 56, 57, 58] (by decide +kernel) (by decide +kernel)
set_option maxRecDepth 20000 in
theorem gX4_link_X2_count : GoodIn wsX4_link (wsV RX4 104 RX2 yX2_count wsX2_count) := goodIn_app (goodIn_of _ (by decide +kernel)) ggX4_link_X2_count
set_option maxRecDepth 20000 in
theorem ggX4_link_X2_add : GoodIn wsX4_link wsX2_add := goodIn_r _ [29, 25, 30, 31, 32, 33, 50, 51, 52, 53, 54, 55, 56, 57, 58] (by decide +kernel) (by decide +kernel)
set_option maxRecDepth 20000 in
theorem gX4_link_X2_add : GoodIn wsX4_link (wsV RX4 107 RX2 yX2_add wsX2_add) := goodIn_app (goodIn_of _ (by decide +kernel)) ggX4_link_X2_add
theorem dX4_link_0 : decode cX4_link 0 = .ok (.aload_n 0, 1) := by decide +kernel
theorem dX4_link_1 : decode cX4_link 1 = .ok (.getfield 10, 3) := by decide +kernel
theorem dX4_link_4 : decode cX4_link 4 = .ok (.iload_n 1, 1) := by decide +kernel
theorem dX4_link_5 : decode cX4_link 5 = .ok (.invokevirtual 83, 3) := by decide +kernel
theorem dX4_link_8 : decode cX4_link 8 = .ok (.ifCond .eq 14, 3) := by decide +kernel
theorem dX4_link_11 : decode cX4_link 11 = .ok (.aload_n 0, 1) := by decide +kernel
theorem dX4_link_12 : decode cX4_link 12 = .ok (.getfield 10, 3) := by decide +kernel
theorem dX4_link_15 : decode cX4_link 15 = .ok (.iload_n 2, 1) := by decide +kernel
theorem dX4_link_16 : decode cX4_link 16 = .ok (.invokevirtual 83, 3) := by decide +kernel
theorem dX4_link_19 : decode cX4_link 19 = .ok (.ifCond .ne 13, 3) := by decide +kernel
theorem dX4_link_22 : decode cX4_link 22 = .ok (.new 87, 3) := by decide +kernel
theorem dX4_link_25 : decode cX4_link 25 = .ok (.dup, 1) := by decide +kernel
theorem dX4_link_26 : decode cX4_link 26 = .ok (.ldc 89, 2) := by decide +kernel
theorem dX4_link_28 : decode cX4_link 28 = .ok (.invokespecial 91, 3) := by decide +kernel
theorem dX4_link_31 : decode cX4_link 31 = .ok (.athrow, 1) := by decide +kernel
theorem dX4_link_32 : decode cX4_link 32 = .ok (.iload_n 1, 1) := by decide +kernel
theorem dX4_link_33 : decode cX4_link 33 = .ok (.iload_n 2, 1) := by decide +kernel
theorem dX4_link_34 : decode cX4_link 34 = .ok (.if_icmp .eq 14, 3) := by decide +kernel
theorem dX4_link_37 : decode cX4_link 37 = .ok (.iload_n 3, 1) := by decide +kernel
theorem dX4_link_38 : decode cX4_link 38 = .ok (.bipush (-50), 2) := by decide +kernel
theorem dX4_link_40 : decode cX4_link 40 = .ok (.bipush 50, 2) := by decide +kernel
theorem dX4_link_42 : decode cX4_link 42 = .ok (.invokestatic 59, 3) := by decide +kernel
theorem dX4_link_45 : decode cX4_link 45 = .ok (.ifCond .ne 13, 3) := by decide +kernel
theorem dX4_link_48 : decode cX4_link 48 = .ok (.new 63, 3) := by decide +kernel
theorem dX4_link_51 : decode cX4_link 51 = .ok (.dup, 1) := by decide +kernel
theorem dX4_link_52 : decode cX4_link 52 = .ok (.ldc 102, 2) := by decide +kernel
theorem dX4_link_54 : decode cX4_link 54 = .ok (.invokespecial 67, 3) := by decide +kernel
theorem dX4_link_57 : decode cX4_link 57 = .ok (.athrow, 1) := by decide +kernel
theorem dX4_link_58 : decode cX4_link 58 = .ok (.aload_n 0, 1) := by decide +kernel
theorem dX4_link_59 : decode cX4_link 59 = .ok (.getfield 19, 3) := by decide +kernel
theorem dX4_link_62 : decode cX4_link 62 = .ok (.invokevirtual 104, 3) := by decide +kernel
theorem dX4_link_65 : decode cX4_link 65 = .ok (.bipush 8, 2) := by decide +kernel
theorem dX4_link_67 : decode cX4_link 67 = .ok (.if_icmp .lt 13, 3) := by decide +kernel
theorem dX4_link_70 : decode cX4_link 70 = .ok (.new 74, 3) := by decide +kernel
theorem dX4_link_73 : decode cX4_link 73 = .ok (.dup, 1) := by decide +kernel
theorem dX4_link_74 : decode cX4_link 74 = .ok (.ldc 105, 2) := by decide +kernel
theorem dX4_link_76 : decode cX4_link 76 = .ok (.invokespecial 78, 3) := by decide +kernel
theorem dX4_link_79 : decode cX4_link 79 = .ok (.athrow, 1) := by decide +kernel
theorem dX4_link_80 : decode cX4_link 80 = .ok (.aload_n 0, 1) := by decide +kernel
theorem dX4_link_81 : decode cX4_link 81 = .ok (.getfield 19, 3) := by decide +kernel
theorem dX4_link_84 : decode cX4_link 84 = .ok (.iload_n 1, 1) := by decide +kernel
theorem dX4_link_85 : decode cX4_link 85 = .ok (.iload_n 2, 1) := by decide +kernel
theorem dX4_link_86 : decode cX4_link 86 = .ok (.iload_n 3, 1) := by decide +kernel
theorem dX4_link_87 : decode cX4_link 87 = .ok (.aload_n 0, 1) := by decide +kernel
theorem dX4_link_88 : decode cX4_link 88 = .ok (.getfield 45, 3) := by decide +kernel
theorem dX4_link_91 : decode cX4_link 91 = .ok (.invokevirtual 107, 3) := by decide +kernel
theorem dX4_link_94 : decode cX4_link 94 = .ok (.ireturn, 1) := by decide +kernel
set_option maxRecDepth 20000 in
theorem ggX4_event_X4_isWithin : GoodIn wsX4_event wsX4_isWithin := goodIn_r _ [14] (by decide +kernel) (by decide +kernel)
set_option maxRecDepth 20000 in
theorem gX4_event_X4_isWithin : GoodIn wsX4_event (va_wsS RX4 59 yX4_isWithin wsX4_isWithin) := goodIn_app (goodIn_of _ (by decide +kernel)) ggX4_event_X4_isWithin
set_option maxRecDepth 20000 in
theorem ggX4_event_X1_has : GoodIn wsX4_event wsX1_has := goodIn_r _ [19, 20, 51, 52, 53, 54, 55, 56] (by decide +kernel) (by decide +kernel)
set_option maxRecDepth 20000 in
theorem gX4_event_X1_has : GoodIn wsX4_event (wsV RX4 83 RX1 yX1_has wsX1_has) := goodIn_app (goodIn_of _ (by decide +kernel)) ggX4_event_X1_has
set_option maxRecDepth 20000 in
theorem ggX4_event_X2_has : GoodIn wsX4_event wsX2_has := goodIn_r _ [25, 26, 57, 58, 59, 60, 61, 62, 63, 64, 65] (by decide +kernel) (by decide +kernel)
set_option maxRecDepth 20000 in
theorem gX4_event_X2_has : GoodIn wsX4_event (wsV RX4 112 RX2 yX2_has wsX2_has) := goodIn_app (goodIn_of _ (by decide +kernel)) ggX4_event_X2_has
set_option maxRecDepth 20000 in
theorem ggX4_event_X4_isAmountOf : GoodIn wsX4_event wsX4_isAmountOf := goodIn_r _ [29, 11, 12, 13, 14] (by decide +kernel) (by decide +kernel)
set_option maxRecDepth 20000 in
theorem gX4_event_X4_isAmountOf : GoodIn wsX4_event (va_wsS RX4 115 yX4_isAmountOf wsX4_isAmountOf) := goodIn_app (goodIn_of _ (by decide +kernel)) ggX4_event_X4_isAmountOf
set_option maxRecDepth 20000 in
theorem ggX4_event_X0_count : GoodIn wsX4_event wsX0_count := goodIn_r _ [34, 35, 66, 67] (by decide +kernel) (by decide +kernel)
set_option maxRecDepth 20000 in
theorem gX4_event_X0_count : GoodIn wsX4_event (wsV RX4 119 RX0 yX0_count wsX0_count) := goodIn_app (goodIn_of _ (by decide +kernel)) ggX4_event_X0_count
set_option maxRecDepth 20000 in
theorem ggX4_event_X0_add : GoodIn wsX4_event wsX0_add := goodIn_r _ [39, 35, 40, 66, 67] (by decide +kernel) (by decide +kernel)
set_option maxRecDepth 20000 in
theorem gX4_event_X0_add : GoodIn wsX4_event (wsV RX4 122 RX0 yX0_add wsX0_add) := goodIn_app (goodIn_of _ (by decide +kernel)) ggX4_event_X0_add
theorem dX4_event_0 : decode cX4_event 0 = .ok (.iload_n 1, 1) := by decide +kernel
theorem dX4_event_1 : decode cX4_event 1 = .ok (.aload_n 0, 1) := by decide +kernel
theorem dX4_event_2 : decode cX4_event 2 = .ok (.getfield 45, 3) := by decide +kernel
theorem dX4_event_5 : decode cX4_event 5 = .ok (.if_icmp .le 19, 3) := by decide +kernel
theorem dX4_event_8 : decode cX4_event 8 = .ok (.iload_n 1, 1) := by decide +kernel
theorem dX4_event_9 : decode cX4_event 9 = .ok (.sipush 500, 3) := by decide +kernel
theorem dX4_event_12 : decode cX4_event 12 = .ok (.if_icmp .gt 12, 3) := by decide +kernel
theorem dX4_event_15 : decode cX4_event 15 = .ok (.iload_n 2, 1) := by decide +kernel
theorem dX4_event_16 : decode cX4_event 16 = .ok (.iconst 0, 1) := by decide +kernel
theorem dX4_event_17 : decode cX4_event 17 = .ok (.iconst 3, 1) := by decide +kernel
theorem dX4_event_18 : decode cX4_event 18 = .ok (.invokestatic 59, 3) := by decide +kernel
theorem dX4_event_21 : decode cX4_event 21 = .ok (.ifCond .ne 13, 3) := by decide +kernel
theorem dX4_event_24 : decode cX4_event 24 = .ok (.new 63, 3) := by decide +kernel
theorem dX4_event_27 : decode cX4_event 27 = .ok (.dup, 1) := by decide +kernel
theorem dX4_event_28 : decode cX4_event 28 = .ok (.ldc 110, 2) := by decide +kernel
theorem dX4_event_30 : decode cX4_event 30 = .ok (.invokespecial 67, 3) := by decide +kernel
theorem dX4_event_33 : decode cX4_event 33 = .ok (.athrow, 1) := by decide +kernel
theorem dX4_event_34 : decode cX4_event 34 = .ok (.iload_n 2, 1) := by decide +kernel
theorem dX4_event_35 : decode cX4_event 35 = .ok (.ifCond .eq 8, 3) := by decide +kernel
theorem dX4_event_38 : decode cX4_event 38 = .ok (.iload_n 2, 1) := by decide +kernel
theorem dX4_event_39 : decode cX4_event 39 = .ok (.iconst 1, 1) := by decide +kernel
theorem dX4_event_40 : decode cX4_event 40 = .ok (.if_icmp .ne 7, 3) := by decide +kernel
theorem dX4_event_43 : decode cX4_event 43 = .ok (.iconst 1, 1) := by decide +kernel
theorem dX4_event_44 : decode cX4_event 44 = .ok (.goto 4, 3) := by decide +kernel
theorem dX4_event_47 : decode cX4_event 47 = .ok (.iconst 0, 1) := by decide +kernel
theorem dX4_event_48 : decode cX4_event 48 = .ok (.istore 5, 2) := by decide +kernel
theorem dX4_event_50 : decode cX4_event 50 = .ok (.iload 5, 2) := by decide +kernel
theorem dX4_event_52 : decode cX4_event 52 = .ok (.ifCond .eq 17, 3) := by decide +kernel
theorem dX4_event_55 : decode cX4_event 55 = .ok (.aload_n 0, 1) := by decide +kernel
theorem dX4_event_56 : decode cX4_event 56 = .ok (.getfield 10, 3) := by decide +kernel
theorem dX4_event_59 : decode cX4_event 59 = .ok (.iload_n 3, 1) := by decide +kernel
theorem dX4_event_60 : decode cX4_event 60 = .ok (.invokevirtual 83, 3) := by decide +kernel
theorem dX4_event_63 : decode cX4_event 63 = .ok (.ifCond .ne 27, 3) := by decide +kernel
theorem dX4_event_66 : decode cX4_event 66 = .ok (.goto 14, 3) := by decide +kernel
theorem dX4_event_69 : decode cX4_event 69 = .ok (.aload_n 0, 1) := by decide +kernel
theorem dX4_event_70 : decode cX4_event 70 = .ok (.getfield 19, 3) := by decide +kernel
theorem dX4_event_73 : decode cX4_event 73 = .ok (.iload_n 3, 1) := by decide +kernel
theorem dX4_event_74 : decode cX4_event 74 = .ok (.invokevirtual 112, 3) := by decide +kernel
theorem dX4_event_77 : decode cX4_event 77 = .ok (.ifCond .ne 13, 3) := by decide +kernel
theorem dX4_event_80 : decode cX4_event 80 = .ok (.new 87, 3) := by decide +kernel
theorem dX4_event_83 : decode cX4_event 83 = .ok (.dup, 1) := by decide +kernel
theorem dX4_event_84 : decode cX4_event 84 = .ok (.ldc 113, 2) := by decide +kernel
theorem dX4_event_86 : decode cX4_event 86 = .ok (.invokespecial 91, 3) := by decide +kernel
theorem dX4_event_89 : decode cX4_event 89 = .ok (.athrow, 1) := by decide +kernel
theorem dX4_event_90 : decode cX4_event 90 = .ok (.iload_n 2, 1) := by decide +kernel
theorem dX4_event_91 : decode cX4_event 91 = .ok (.iload 4, 2) := by decide +kernel
theorem dX4_event_93 : decode cX4_event 93 = .ok (.invokestatic 115, 3) := by decide +kernel
theorem dX4_event_96 : decode cX4_event 96 = .ok (.ifCond .eq 15, 3) := by decide +kernel
theorem dX4_event_99 : decode cX4_event 99 = .ok (.aload_n 0, 1) := by decide +kernel
theorem dX4_event_100 : decode cX4_event 100 = .ok (.getfield 26, 3) := by decide +kernel
theorem dX4_event_103 : decode cX4_event 103 = .ok (.invokevirtual 119, 3) := by decide +kernel
theorem dX4_event_106 : decode cX4_event 106 = .ok (.bipush 40, 2) := by decide +kernel
theorem dX4_event_108 : decode cX4_event 108 = .ok (.if_icmp .lt 13, 3) := by decide +kernel
theorem dX4_event_111 : decode cX4_event 111 = .ok (.new 74, 3) := by decide +kernel
theorem dX4_event_114 : decode cX4_event 114 = .ok (.dup, 1) := by decide +kernel
theorem dX4_event_115 : decode cX4_event 115 = .ok (.ldc 120, 2) := by decide +kernel
theorem dX4_event_117 : decode cX4_event 117 = .ok (.invokespecial 78, 3) := by decide +kernel
theorem dX4_event_120 : decode cX4_event 120 = .ok (.athrow, 1) := by decide +kernel
theorem dX4_event_121 : decode cX4_event 121 = .ok (.aload_n 0, 1) := by decide +kernel
theorem dX4_event_122 : decode cX4_event 122 = .ok (.getfield 26, 3) := by decide +kernel
theorem dX4_event_125 : decode cX4_event 125 = .ok (.iload_n 1, 1) := by decide +kernel
theorem dX4_event_126 : decode cX4_event 126 = .ok (.iload_n 2, 1) := by decide +kernel
theorem dX4_event_127 : decode cX4_event 127 = .ok (.iload_n 3, 1) := by decide +kernel
theorem dX4_event_128 : decode cX4_event 128 = .ok (.iload 4, 2) := by decide +kernel
theorem dX4_event_130 : decode cX4_event 130 = .ok (.invokevirtual 122, 3) := by decide +kernel
theorem dX4_event_133 : decode cX4_event 133 = .ok (.aload_n 0, 1) := by decide +kernel
theorem dX4_event_134 : decode cX4_event 134 = .ok (.getfield 26, 3) := by decide +kernel
theorem dX4_event_137 : decode cX4_event 137 = .ok (.invokevirtual 119, 3) := by decide +kernel
theorem dX4_event_140 : decode cX4_event 140 = .ok (.ireturn, 1) := by decide +kernel
set_option maxRecDepth 20000 in
theorem ggX4_calibrate_X2_has : GoodIn wsX4_calibrate wsX2_has := goodIn_r _ [12, 13, 38, 39, 40, 41, 42, 43, 44, 45, 46] (by decide +kernel) (by decide +kernel)
set_option maxRecDepth 20000 in
theorem gX4_calibrate_X2_has : GoodIn wsX4_calibrate (wsV RX4 112 RX2 yX2_has wsX2_has) := goodIn_app (goodIn_of _ (by decide +kernel)) ggX4_calibrate_X2_has
set_option maxRecDepth 20000 in
theorem ggX4_calibrate_X4_isWithin : GoodIn wsX4_calibrate wsX4_isWithin := goodIn_r _ [17] (by decide +kernel) (by decide +kernel)
set_option maxRecDepth 20000 in
theorem gX4_calibrate_X4_isWithin : GoodIn wsX4_calibrate (va_wsS RX4 59 yX4_isWithin wsX4_isWithin) := goodIn_app (goodIn_of _ (by decide +kernel)) ggX4_calibrate_X4_isWithin
set_option maxRecDepth 20000 in
theorem ggX4_calibrate_X2_calibrationsOf : GoodIn wsX4_calibrate wsX2_calibrationsOf := goodIn_r _ [21, 22, 38, 39, 40, 41, 42, 43, 44, 45, 46] (by decide +kernel) (by decide +kernel)
set_option maxRecDepth 20000 in
theorem gX4_calibrate_X2_calibrationsOf : GoodIn wsX4_calibrate (wsV RX4 129 RX2 yX2_calibrationsOf wsX2_calibrationsOf) := goodIn_app (goodIn_of _ (by decide +kernel)) ggX4_calibrate_X2_calibrationsOf
set_option maxRecDepth 20000 in
theorem ggX4_calibrate_X2_addCalibration : GoodIn wsX4_calibrate wsX2_addCalibration := goodIn_r _ [26, 27, 22, 38, 39, 40, 41, 42, 43, 44, 45, 46] (by decide +kernel) (by decide +kernel)
set_option maxRecDepth 20000 in
theorem gX4_calibrate_X2_addCalibration : GoodIn wsX4_calibrate (wsV RX4 134 RX2 yX2_addCalibration wsX2_addCalibration) := goodIn_app (goodIn_of _ (by decide +kernel)) ggX4_calibrate_X2_addCalibration
theorem dX4_calibrate_0 : decode cX4_calibrate 0 = .ok (.aload_n 0, 1) := by decide +kernel
theorem dX4_calibrate_1 : decode cX4_calibrate 1 = .ok (.getfield 19, 3) := by decide +kernel
theorem dX4_calibrate_4 : decode cX4_calibrate 4 = .ok (.iload_n 1, 1) := by decide +kernel
theorem dX4_calibrate_5 : decode cX4_calibrate 5 = .ok (.invokevirtual 112, 3) := by decide +kernel
theorem dX4_calibrate_8 : decode cX4_calibrate 8 = .ok (.ifCond .ne 13, 3) := by decide +kernel
theorem dX4_calibrate_11 : decode cX4_calibrate 11 = .ok (.new 87, 3) := by decide +kernel
theorem dX4_calibrate_14 : decode cX4_calibrate 14 = .ok (.dup, 1) := by decide +kernel
theorem dX4_calibrate_15 : decode cX4_calibrate 15 = .ok (.ldc 125, 2) := by decide +kernel
theorem dX4_calibrate_17 : decode cX4_calibrate 17 = .ok (.invokespecial 91, 3) := by decide +kernel
theorem dX4_calibrate_20 : decode cX4_calibrate 20 = .ok (.athrow, 1) := by decide +kernel
theorem dX4_calibrate_21 : decode cX4_calibrate 21 = .ok (.iload_n 2, 1) := by decide +kernel
theorem dX4_calibrate_22 : decode cX4_calibrate 22 = .ok (.iconst 0, 1) := by decide +kernel
theorem dX4_calibrate_23 : decode cX4_calibrate 23 = .ok (.sipush 500, 3) := by decide +kernel
theorem dX4_calibrate_26 : decode cX4_calibrate 26 = .ok (.invokestatic 59, 3) := by decide +kernel
theorem dX4_calibrate_29 : decode cX4_calibrate 29 = .ok (.ifCond .eq 28, 3) := by decide +kernel
theorem dX4_calibrate_32 : decode cX4_calibrate 32 = .ok (.iload_n 3, 1) := by decide +kernel
theorem dX4_calibrate_33 : decode cX4_calibrate 33 = .ok (.iload_n 2, 1) := by decide +kernel
theorem dX4_calibrate_34 : decode cX4_calibrate 34 = .ok (.sipush 500, 3) := by decide +kernel
theorem dX4_calibrate_37 : decode cX4_calibrate 37 = .ok (.invokestatic 59, 3) := by decide +kernel
theorem dX4_calibrate_40 : decode cX4_calibrate 40 = .ok (.ifCond .eq 17, 3) := by decide +kernel
theorem dX4_calibrate_43 : decode cX4_calibrate 43 = .ok (.iload 4, 2) := by decide +kernel
theorem dX4_calibrate_45 : decode cX4_calibrate 45 = .ok (.sipush (-10000), 3) := by decide +kernel
theorem dX4_calibrate_48 : decode cX4_calibrate 48 = .ok (.sipush 10000, 3) := by decide +kernel
theorem dX4_calibrate_51 : decode cX4_calibrate 51 = .ok (.invokestatic 59, 3) := by decide +kernel
theorem dX4_calibrate_54 : decode cX4_calibrate 54 = .ok (.ifCond .ne 13, 3) := by decide +kernel
theorem dX4_calibrate_57 : decode cX4_calibrate 57 = .ok (.new 63, 3) := by decide +kernel
theorem dX4_calibrate_60 : decode cX4_calibrate 60 = .ok (.dup, 1) := by decide +kernel
theorem dX4_calibrate_61 : decode cX4_calibrate 61 = .ok (.ldc 127, 2) := by decide +kernel
theorem dX4_calibrate_63 : decode cX4_calibrate 63 = .ok (.invokespecial 67, 3) := by decide +kernel
theorem dX4_calibrate_66 : decode cX4_calibrate 66 = .ok (.athrow, 1) := by decide +kernel
theorem dX4_calibrate_67 : decode cX4_calibrate 67 = .ok (.aload_n 0, 1) := by decide +kernel
theorem dX4_calibrate_68 : decode cX4_calibrate 68 = .ok (.getfield 19, 3) := by decide +kernel
theorem dX4_calibrate_71 : decode cX4_calibrate 71 = .ok (.iload_n 1, 1) := by decide +kernel
theorem dX4_calibrate_72 : decode cX4_calibrate 72 = .ok (.invokevirtual 129, 3) := by decide +kernel
theorem dX4_calibrate_75 : decode cX4_calibrate 75 = .ok (.bipush 10, 2) := by decide +kernel
theorem dX4_calibrate_77 : decode cX4_calibrate 77 = .ok (.if_icmp .lt 13, 3) := by decide +kernel
theorem dX4_calibrate_80 : decode cX4_calibrate 80 = .ok (.new 74, 3) := by decide +kernel
theorem dX4_calibrate_83 : decode cX4_calibrate 83 = .ok (.dup, 1) := by decide +kernel
theorem dX4_calibrate_84 : decode cX4_calibrate 84 = .ok (.ldc 132, 2) := by decide +kernel
theorem dX4_calibrate_86 : decode cX4_calibrate 86 = .ok (.invokespecial 78, 3) := by decide +kernel
theorem dX4_calibrate_89 : decode cX4_calibrate 89 = .ok (.athrow, 1) := by decide +kernel
theorem dX4_calibrate_90 : decode cX4_calibrate 90 = .ok (.aload_n 0, 1) := by decide +kernel
theorem dX4_calibrate_91 : decode cX4_calibrate 91 = .ok (.getfield 19, 3) := by decide +kernel
theorem dX4_calibrate_94 : decode cX4_calibrate 94 = .ok (.iload_n 1, 1) := by decide +kernel
theorem dX4_calibrate_95 : decode cX4_calibrate 95 = .ok (.iload_n 2, 1) := by decide +kernel
theorem dX4_calibrate_96 : decode cX4_calibrate 96 = .ok (.iload_n 3, 1) := by decide +kernel
theorem dX4_calibrate_97 : decode cX4_calibrate 97 = .ok (.iload 4, 2) := by decide +kernel
theorem dX4_calibrate_99 : decode cX4_calibrate 99 = .ok (.invokevirtual 134, 3) := by decide +kernel
theorem dX4_calibrate_102 : decode cX4_calibrate 102 = .ok (.ireturn, 1) := by decide +kernel
set_option maxRecDepth 20000 in
theorem ggX4_bounds_X4_isWithin : GoodIn wsX4_bounds wsX4_isWithin := goodIn_r _ [8] (by decide +kernel) (by decide +kernel)
set_option maxRecDepth 20000 in
theorem gX4_bounds_X4_isWithin : GoodIn wsX4_bounds (va_wsS RX4 59 yX4_isWithin wsX4_isWithin) := goodIn_app (goodIn_of _ (by decide +kernel)) ggX4_bounds_X4_isWithin
theorem dX4_bounds_0 : decode cX4_bounds 0 = .ok (.iload_n 1, 1) := by decide +kernel
theorem dX4_bounds_1 : decode cX4_bounds 1 = .ok (.iconst 0, 1) := by decide +kernel
theorem dX4_bounds_2 : decode cX4_bounds 2 = .ok (.sipush 499, 3) := by decide +kernel
theorem dX4_bounds_5 : decode cX4_bounds 5 = .ok (.invokestatic 59, 3) := by decide +kernel
theorem dX4_bounds_8 : decode cX4_bounds 8 = .ok (.ifCond .eq 14, 3) := by decide +kernel
theorem dX4_bounds_11 : decode cX4_bounds 11 = .ok (.iload_n 2, 1) := by decide +kernel
theorem dX4_bounds_12 : decode cX4_bounds 12 = .ok (.iconst 1, 1) := by decide +kernel
theorem dX4_bounds_13 : decode cX4_bounds 13 = .ok (.sipush 1000, 3) := by decide +kernel
theorem dX4_bounds_16 : decode cX4_bounds 16 = .ok (.invokestatic 59, 3) := by decide +kernel
theorem dX4_bounds_19 : decode cX4_bounds 19 = .ok (.ifCond .ne 13, 3) := by decide +kernel
theorem dX4_bounds_22 : decode cX4_bounds 22 = .ok (.new 63, 3) := by decide +kernel
theorem dX4_bounds_25 : decode cX4_bounds 25 = .ok (.dup, 1) := by decide +kernel
theorem dX4_bounds_26 : decode cX4_bounds 26 = .ok (.ldc 137, 2) := by decide +kernel
theorem dX4_bounds_28 : decode cX4_bounds 28 = .ok (.invokespecial 67, 3) := by decide +kernel
theorem dX4_bounds_31 : decode cX4_bounds 31 = .ok (.athrow, 1) := by decide +kernel
theorem dX4_bounds_32 : decode cX4_bounds 32 = .ok (.aload_n 0, 1) := by decide +kernel
theorem dX4_bounds_33 : decode cX4_bounds 33 = .ok (.iload_n 1, 1) := by decide +kernel
theorem dX4_bounds_34 : decode cX4_bounds 34 = .ok (.putfield 49, 3) := by decide +kernel
theorem dX4_bounds_37 : decode cX4_bounds 37 = .ok (.aload_n 0, 1) := by decide +kernel
theorem dX4_bounds_38 : decode cX4_bounds 38 = .ok (.iload_n 2, 1) := by decide +kernel
theorem dX4_bounds_39 : decode cX4_bounds 39 = .ok (.putfield 52, 3) := by decide +kernel
theorem dX4_bounds_42 : decode cX4_bounds 42 = .ok (.return_, 1) := by decide +kernel
set_option maxRecDepth 20000 in
theorem ggX4_pass_X4_isWithin : GoodIn wsX4_pass wsX4_isWithin := goodIn_r _ [9] (by decide +kernel) (by decide +kernel)
set_option maxRecDepth 20000 in
theorem gX4_pass_X4_isWithin : GoodIn wsX4_pass (va_wsS RX4 59 yX4_isWithin wsX4_isWithin) := goodIn_app (goodIn_of _ (by decide +kernel)) ggX4_pass_X4_isWithin
set_option maxRecDepth 20000 in
theorem ggX4_pass_X4_passOneDay : GoodIn wsX4_pass wsX4_passOneDay := goodIn_r _ [13, 14, 5, 15, 16, 17, 18, 19, 20, 21, 22, 23, 24, 25, 26, 27, 28, 29, 30, 31, 32, 33, 34, 35, 8, 36, 37, 38, 39, 40, 41, 42, 43, 44, 45, 46, 47, 48, 49, 50, 51, 52, 53, 54, 55, 56, 57, 58, 59, 60, 61, 62, 63, 64, 65, 66, 67, 68, 69, 70, 71, 72, 73, 74, 75, 76, 77, 78, 79, 80, 81, 82, 83, 84, 85, 86, 87, 88, 89, 90, 91, 92, 93, 94, 95, 96, 97, 98, 99, 100, 101, 102, 103, 104, 105, 106, 107, 108, 109, 110, 111, 112, 113, 114, 115, 116, 117, 118, 119, 120, 121, 122, 123, 124, 125, 126, 127, 128, 129, 130, 131, 132, 133, 134, 135, 136, 137, 138, 139, 140, 141, 142, 143, 144, 145, 146, 147, 148, 149, 150, 151, 152, 153, 154, 155, 156, 157, 158, 159, 160, 161, 162, 163, 164] (by decide +kernel) (by decide +kernel)
set_option maxRecDepth 20000 in
theorem gX4_pass_X4_passOneDay : GoodIn wsX4_pass (wsV RX4 143 RX4 yX4_passOneDay wsX4_passOneDay) := goodIn_app (goodIn_of _ (by decide +kernel)) ggX4_pass_X4_passOneDay
theorem dX4_pass_0 : decode cX4_pass 0 = .ok (.iload_n 1, 1) := by decide +kernel
theorem dX4_pass_1 : decode cX4_pass 1 = .ok (.iconst 1, 1) := by decide +kernel
theorem dX4_pass_2 : decode cX4_pass 2 = .ok (.bipush 50, 2) := by decide +kernel
theorem dX4_pass_4 : decode cX4_pass 4 = .ok (.invokestatic 59, 3) := by decide +kernel
theorem dX4_pass_7 : decode cX4_pass 7 = .ok (.ifCond .ne 13, 3) := by decide +kernel
theorem dX4_pass_10 : decode cX4_pass 10 = .ok (.new 63, 3) := by decide +kernel
theorem dX4_pass_13 : decode cX4_pass 13 = .ok (.dup, 1) := by decide +kernel
theorem dX4_pass_14 : decode cX4_pass 14 = .ok (.ldc 139, 2) := by decide +kernel
theorem dX4_pass_16 : decode cX4_pass 16 = .ok (.invokespecial 67, 3) := by decide +kernel
theorem dX4_pass_19 : decode cX4_pass 19 = .ok (.athrow, 1) := by decide +kernel
theorem dX4_pass_20 : decode cX4_pass 20 = .ok (.iload_n 1, 1) := by decide +kernel
theorem dX4_pass_21 : decode cX4_pass 21 = .ok (.sipush 500, 3) := by decide +kernel
theorem dX4_pass_24 : decode cX4_pass 24 = .ok (.aload_n 0, 1) := by decide +kernel
theorem dX4_pass_25 : decode cX4_pass 25 = .ok (.getfield 45, 3) := by decide +kernel
theorem dX4_pass_28 : decode cX4_pass 28 = .ok (.isub, 1) := by decide +kernel
theorem dX4_pass_29 : decode cX4_pass 29 = .ok (.if_icmp .le 13, 3) := by decide +kernel
theorem dX4_pass_32 : decode cX4_pass 32 = .ok (.new 74, 3) := by decide +kernel
theorem dX4_pass_35 : decode cX4_pass 35 = .ok (.dup, 1) := by decide +kernel
theorem dX4_pass_36 : decode cX4_pass 36 = .ok (.ldc 141, 2) := by decide +kernel
theorem dX4_pass_38 : decode cX4_pass 38 = .ok (.invokespecial 78, 3) := by decide +kernel
theorem dX4_pass_41 : decode cX4_pass 41 = .ok (.athrow, 1) := by decide +kernel
theorem dX4_pass_42 : decode cX4_pass 42 = .ok (.iconst 0, 1) := by decide +kernel
theorem dX4_pass_43 : decode cX4_pass 43 = .ok (.istore_n 2, 1) := by decide +kernel
theorem dX4_pass_44 : decode cX4_pass 44 = .ok (.iload_n 2, 1) := by decide +kernel
theorem dX4_pass_45 : decode cX4_pass 45 = .ok (.iload_n 1, 1) := by decide +kernel
theorem dX4_pass_46 : decode cX4_pass 46 = .ok (.if_icmp .ge 13, 3) := by decide +kernel
theorem dX4_pass_49 : decode cX4_pass 49 = .ok (.aload_n 0, 1) := by decide +kernel
theorem dX4_pass_50 : decode cX4_pass 50 = .ok (.invokevirtual 143, 3) := by decide +kernel
theorem dX4_pass_53 : decode cX4_pass 53 = .ok (.iinc 2 1, 3) := by decide +kernel
theorem dX4_pass_56 : decode cX4_pass 56 = .ok (.goto (-12), 3) := by decide +kernel
theorem dX4_pass_59 : decode cX4_pass 59 = .ok (.aload_n 0, 1) := by decide +kernel
theorem dX4_pass_60 : decode cX4_pass 60 = .ok (.getfield 45, 3) := by decide +kernel
theorem dX4_pass_63 : decode cX4_pass 63 = .ok (.ireturn, 1) := by decide +kernel
set_option maxRecDepth 20000 in
theorem ggX4_vote_X4_isWithin : GoodIn wsX4_vote wsX4_isWithin := goodIn_r _ [7] (by decide +kernel) (by decide +kernel)
set_option maxRecDepth 20000 in
theorem gX4_vote_X4_isWithin : GoodIn wsX4_vote (va_wsS RX4 59 yX4_isWithin wsX4_isWithin) := goodIn_app (goodIn_of _ (by decide +kernel)) ggX4_vote_X4_isWithin
set_option maxRecDepth 20000 in
theorem ggX4_vote_X4_housesFor : GoodIn wsX4_vote wsX4_housesFor := goodIn_r _ [11, 3, 12, 13, 14, 15, 16, 17, 18, 19, 20, 21] (by decide +kernel) (by decide +kernel)
set_option maxRecDepth 20000 in
theorem gX4_vote_X4_housesFor : GoodIn wsX4_vote (wsV RX4 148 RX4 yX4_housesFor wsX4_housesFor) := goodIn_app (goodIn_of _ (by decide +kernel)) ggX4_vote_X4_housesFor
theorem dX4_vote_0 : decode cX4_vote 0 = .ok (.iload_n 1, 1) := by decide +kernel
theorem dX4_vote_1 : decode cX4_vote 1 = .ok (.iconst 0, 1) := by decide +kernel
theorem dX4_vote_2 : decode cX4_vote 2 = .ok (.bipush 6, 2) := by decide +kernel
theorem dX4_vote_4 : decode cX4_vote 4 = .ok (.invokestatic 59, 3) := by decide +kernel
theorem dX4_vote_7 : decode cX4_vote 7 = .ok (.ifCond .ne 13, 3) := by decide +kernel
theorem dX4_vote_10 : decode cX4_vote 10 = .ok (.new 87, 3) := by decide +kernel
theorem dX4_vote_13 : decode cX4_vote 13 = .ok (.dup, 1) := by decide +kernel
theorem dX4_vote_14 : decode cX4_vote 14 = .ok (.ldc 146, 2) := by decide +kernel
theorem dX4_vote_16 : decode cX4_vote 16 = .ok (.invokespecial 91, 3) := by decide +kernel
theorem dX4_vote_19 : decode cX4_vote 19 = .ok (.athrow, 1) := by decide +kernel
theorem dX4_vote_20 : decode cX4_vote 20 = .ok (.aload_n 0, 1) := by decide +kernel
theorem dX4_vote_21 : decode cX4_vote 21 = .ok (.getfield 41, 3) := by decide +kernel
theorem dX4_vote_24 : decode cX4_vote 24 = .ok (.iload_n 1, 1) := by decide +kernel
theorem dX4_vote_25 : decode cX4_vote 25 = .ok (.iload_n 2, 1) := by decide +kernel
theorem dX4_vote_26 : decode cX4_vote 26 = .ok (.bastore, 1) := by decide +kernel
theorem dX4_vote_27 : decode cX4_vote 27 = .ok (.aload_n 0, 1) := by decide +kernel
theorem dX4_vote_28 : decode cX4_vote 28 = .ok (.invokevirtual 148, 3) := by decide +kernel
theorem dX4_vote_31 : decode cX4_vote 31 = .ok (.ireturn, 1) := by decide +kernel
set_option maxRecDepth 20000 in
theorem ggX4_adopt_X4_housesFor : GoodIn wsX4_adopt wsX4_housesFor := goodIn_r _ [9, 10, 83, 84, 85, 86, 87, 88, 89, 90, 91, 92] (by decide +kernel) (by decide +kernel)
set_option maxRecDepth 20000 in
theorem gX4_adopt_X4_housesFor : GoodIn wsX4_adopt (wsV RX4 148 RX4 yX4_housesFor wsX4_housesFor) := goodIn_app (goodIn_of _ (by decide +kernel)) ggX4_adopt_X4_housesFor
set_option maxRecDepth 20000 in
theorem ggX4_adopt_X4_openRings : GoodIn wsX4_adopt wsX4_openRings := goodIn_r _ [14, 15, 16, 17, 18, 19, 20, 21, 22, 23, 24, 25, 26, 27, 28, 29, 30, 31, 32, 33, 34, 35, 36, 37, 38, 39, 40, 41, 42, 43, 44, 45, 46, 47, 48, 49, 50, 51, 52, 53, 54, 55, 56, 57, 58, 59, 60, 61, 62, 63, 64, 65, 66, 67, 68, 69, 70, 71, 72, 73, 74, 75, 76, 77, 78, 79, 80, 81, 82, 83, 84, 85, 86, 87, 88, 89, 90, 91, 92, 93, 94, 95, 96, 97, 98, 99, 100, 101, 102, 103, 104, 105, 106, 107, 108, 109, 110, 111, 112, 113] (by decide +kernel) (by decide +kernel)
set_option maxRecDepth 20000 in
theorem gX4_adopt_X4_openRings : GoodIn wsX4_adopt (wsV RX4 153 RX4 yX4_openRings wsX4_openRings) := goodIn_app (goodIn_of _ (by decide +kernel)) ggX4_adopt_X4_openRings
theorem dX4_adopt_0 : decode cX4_adopt 0 = .ok (.aload_n 0, 1) := by decide +kernel
theorem dX4_adopt_1 : decode cX4_adopt 1 = .ok (.getfield 55, 3) := by decide +kernel
theorem dX4_adopt_4 : decode cX4_adopt 4 = .ok (.ifCond .ne 10, 3) := by decide +kernel
theorem dX4_adopt_7 : decode cX4_adopt 7 = .ok (.aload_n 0, 1) := by decide +kernel
theorem dX4_adopt_8 : decode cX4_adopt 8 = .ok (.getfield 45, 3) := by decide +kernel
theorem dX4_adopt_11 : decode cX4_adopt 11 = .ok (.ifCond .ne 13, 3) := by decide +kernel
theorem dX4_adopt_14 : decode cX4_adopt 14 = .ok (.new 74, 3) := by decide +kernel
theorem dX4_adopt_17 : decode cX4_adopt 17 = .ok (.dup, 1) := by decide +kernel
theorem dX4_adopt_18 : decode cX4_adopt 18 = .ok (.ldc 151, 2) := by decide +kernel
theorem dX4_adopt_20 : decode cX4_adopt 20 = .ok (.invokespecial 78, 3) := by decide +kernel
theorem dX4_adopt_23 : decode cX4_adopt 23 = .ok (.athrow, 1) := by decide +kernel
theorem dX4_adopt_24 : decode cX4_adopt 24 = .ok (.aload_n 0, 1) := by decide +kernel
theorem dX4_adopt_25 : decode cX4_adopt 25 = .ok (.aload_n 0, 1) := by decide +kernel
theorem dX4_adopt_26 : decode cX4_adopt 26 = .ok (.invokevirtual 148, 3) := by decide +kernel
theorem dX4_adopt_29 : decode cX4_adopt 29 = .ok (.iconst 5, 1) := by decide +kernel
theorem dX4_adopt_30 : decode cX4_adopt 30 = .ok (.if_icmp .lt 18, 3) := by decide +kernel
theorem dX4_adopt_33 : decode cX4_adopt 33 = .ok (.aload_n 0, 1) := by decide +kernel
theorem dX4_adopt_34 : decode cX4_adopt 34 = .ok (.aload_n 0, 1) := by decide +kernel
theorem dX4_adopt_35 : decode cX4_adopt 35 = .ok (.getfield 45, 3) := by decide +kernel
theorem dX4_adopt_38 : decode cX4_adopt 38 = .ok (.invokevirtual 153, 3) := by decide +kernel
theorem dX4_adopt_41 : decode cX4_adopt 41 = .ok (.ifCond .ne 7, 3) := by decide +kernel
theorem dX4_adopt_44 : decode cX4_adopt 44 = .ok (.iconst 1, 1) := by decide +kernel
theorem dX4_adopt_45 : decode cX4_adopt 45 = .ok (.goto 4, 3) := by decide +kernel
theorem dX4_adopt_48 : decode cX4_adopt 48 = .ok (.iconst 0, 1) := by decide +kernel
theorem dX4_adopt_49 : decode cX4_adopt 49 = .ok (.putfield 55, 3) := by decide +kernel
theorem dX4_adopt_52 : decode cX4_adopt 52 = .ok (.aload_n 0, 1) := by decide +kernel
theorem dX4_adopt_53 : decode cX4_adopt 53 = .ok (.getfield 55, 3) := by decide +kernel
theorem dX4_adopt_56 : decode cX4_adopt 56 = .ok (.ireturn, 1) := by decide +kernel
theorem dX4_day_0 : decode cX4_day 0 = .ok (.aload_n 0, 1) := by decide +kernel
theorem dX4_day_1 : decode cX4_day 1 = .ok (.getfield 45, 3) := by decide +kernel
theorem dX4_day_4 : decode cX4_day 4 = .ok (.ireturn, 1) := by decide +kernel
set_option maxRecDepth 20000 in
theorem ggX4_of_X1_has : GoodIn wsX4_of wsX1_has := goodIn_r _ [10, 11, 37, 38, 39, 40, 41, 42] (by decide +kernel) (by decide +kernel)
set_option maxRecDepth 20000 in
theorem gX4_of_X1_has : GoodIn wsX4_of (wsV RX4 83 RX1 yX1_has wsX1_has) := goodIn_app (goodIn_of _ (by decide +kernel)) ggX4_of_X1_has
set_option maxRecDepth 20000 in
theorem ggX4_of_X1_phaseOf : GoodIn wsX4_of wsX1_phaseOf := goodIn_r _ [15, 16, 37, 38, 39, 40, 41, 42] (by decide +kernel) (by decide +kernel)
set_option maxRecDepth 20000 in
theorem gX4_of_X1_phaseOf : GoodIn wsX4_of (wsV RX4 156 RX1 yX1_phaseOf wsX1_phaseOf) := goodIn_app (goodIn_of _ (by decide +kernel)) ggX4_of_X1_phaseOf
set_option maxRecDepth 20000 in
theorem ggX4_of_X1_rateOf : GoodIn wsX4_of wsX1_rateOf := goodIn_r _ [20, 21, 37, 38, 39, 40, 41, 42] (by decide +kernel) (by decide +kernel)
set_option maxRecDepth 20000 in
theorem gX4_of_X1_rateOf : GoodIn wsX4_of (wsV RX4 159 RX1 yX1_rateOf wsX1_rateOf) := goodIn_app (goodIn_of _ (by decide +kernel)) ggX4_of_X1_rateOf
set_option maxRecDepth 20000 in
theorem ggX4_of_X1_heightOf : GoodIn wsX4_of wsX1_heightOf := goodIn_r _ [25, 26, 37, 38, 39, 40, 41, 42] (by decide +kernel) (by decide +kernel)
set_option maxRecDepth 20000 in
theorem gX4_of_X1_heightOf : GoodIn wsX4_of (wsV RX4 162 RX1 yX1_heightOf wsX1_heightOf) := goodIn_app (goodIn_of _ (by decide +kernel)) ggX4_of_X1_heightOf
theorem dX4_of_0 : decode cX4_of 0 = .ok (.aload_n 0, 1) := by decide +kernel
theorem dX4_of_1 : decode cX4_of 1 = .ok (.getfield 10, 3) := by decide +kernel
theorem dX4_of_4 : decode cX4_of 4 = .ok (.iload_n 1, 1) := by decide +kernel
theorem dX4_of_5 : decode cX4_of 5 = .ok (.invokevirtual 83, 3) := by decide +kernel
theorem dX4_of_8 : decode cX4_of 8 = .ok (.ifCond .ne 13, 3) := by decide +kernel
theorem dX4_of_11 : decode cX4_of 11 = .ok (.new 87, 3) := by decide +kernel
theorem dX4_of_14 : decode cX4_of 14 = .ok (.dup, 1) := by decide +kernel
theorem dX4_of_15 : decode cX4_of 15 = .ok (.ldc 89, 2) := by decide +kernel
theorem dX4_of_17 : decode cX4_of 17 = .ok (.invokespecial 91, 3) := by decide +kernel
theorem dX4_of_20 : decode cX4_of 20 = .ok (.athrow, 1) := by decide +kernel
theorem dX4_of_21 : decode cX4_of 21 = .ok (.iload_n 2, 1) := by decide +kernel
theorem dX4_of_22 : decode cX4_of 22 = .ok (.tableswitch 53 0 2 #[26, 35, 44], 26) := by decide +kernel
theorem dX4_of_48 : decode cX4_of 48 = .ok (.aload_n 0, 1) := by decide +kernel
theorem dX4_of_49 : decode cX4_of 49 = .ok (.getfield 10, 3) := by decide +kernel
theorem dX4_of_52 : decode cX4_of 52 = .ok (.iload_n 1, 1) := by decide +kernel
theorem dX4_of_53 : decode cX4_of 53 = .ok (.invokevirtual 156, 3) := by decide +kernel
theorem dX4_of_56 : decode cX4_of 56 = .ok (.ireturn, 1) := by decide +kernel
theorem dX4_of_57 : decode cX4_of 57 = .ok (.aload_n 0, 1) := by decide +kernel
theorem dX4_of_58 : decode cX4_of 58 = .ok (.getfield 10, 3) := by decide +kernel
theorem dX4_of_61 : decode cX4_of 61 = .ok (.iload_n 1, 1) := by decide +kernel
theorem dX4_of_62 : decode cX4_of 62 = .ok (.invokevirtual 159, 3) := by decide +kernel
theorem dX4_of_65 : decode cX4_of 65 = .ok (.ireturn, 1) := by decide +kernel
theorem dX4_of_66 : decode cX4_of 66 = .ok (.aload_n 0, 1) := by decide +kernel
theorem dX4_of_67 : decode cX4_of 67 = .ok (.getfield 10, 3) := by decide +kernel
theorem dX4_of_70 : decode cX4_of 70 = .ok (.iload_n 1, 1) := by decide +kernel
theorem dX4_of_71 : decode cX4_of 71 = .ok (.invokevirtual 162, 3) := by decide +kernel
theorem dX4_of_74 : decode cX4_of 74 = .ok (.ireturn, 1) := by decide +kernel
theorem dX4_of_75 : decode cX4_of 75 = .ok (.new 63, 3) := by decide +kernel
theorem dX4_of_78 : decode cX4_of 78 = .ok (.dup, 1) := by decide +kernel
theorem dX4_of_79 : decode cX4_of 79 = .ok (.ldc 165, 2) := by decide +kernel
theorem dX4_of_81 : decode cX4_of 81 = .ok (.invokespecial 67, 3) := by decide +kernel
theorem dX4_of_84 : decode cX4_of 84 = .ok (.athrow, 1) := by decide +kernel
set_option maxRecDepth 20000 in
theorem ggX4_measured_X4_hasMeasured : GoodIn wsX4_measured wsX4_hasMeasured := goodIn_r _ [8, 3, 9, 10, 11, 7, 12, 13, 14, 15, 16, 17, 18, 19, 20, 21, 22, 23, 24, 25, 26, 27, 38, 39, 40, 41, 42, 43, 44, 45, 46, 47, 48, 49, 50, 51, 52, 53, 54, 55, 56] (by decide +kernel) (by decide +kernel)
set_option maxRecDepth 20000 in
theorem gX4_measured_X4_hasMeasured : GoodIn wsX4_measured (wsV RX4 167 RX4 yX4_hasMeasured wsX4_hasMeasured) := goodIn_app (goodIn_of _ (by decide +kernel)) ggX4_measured_X4_hasMeasured
set_option maxRecDepth 20000 in
theorem ggX4_measured_X2_correctedOf : GoodIn wsX4_measured wsX2_correctedOf := goodIn_r _ [31, 32, 33, 48, 49, 50, 51, 52, 53, 54, 55, 56] (by decide +kernel) (by decide +kernel)
set_option maxRecDepth 20000 in
theorem gX4_measured_X2_correctedOf : GoodIn wsX4_measured (wsV RX4 172 RX2 yX2_correctedOf wsX2_correctedOf) := goodIn_app (goodIn_of _ (by decide +kernel)) ggX4_measured_X2_correctedOf
set_option maxRecDepth 20000 in
theorem ggX4_measured_X2_rawOf : GoodIn wsX4_measured wsX2_rawOf := goodIn_r _ [37, 32, 48, 49, 50, 51, 52, 53, 54, 55, 56] (by decide +kernel) (by decide +kernel)
set_option maxRecDepth 20000 in
theorem gX4_measured_X2_rawOf : GoodIn wsX4_measured (wsV RX4 175 RX2 yX2_rawOf wsX2_rawOf) := goodIn_app (goodIn_of _ (by decide +kernel)) ggX4_measured_X2_rawOf
