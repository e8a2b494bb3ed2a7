theorem dX0_init_0 : decode cX0_init 0 = .ok (.aload_n 0, 1) := by decide +kernel
theorem dX0_init_1 : decode cX0_init 1 = .ok (.invokespecial 5, 3) := by decide +kernel
theorem dX0_init_4 : decode cX0_init 4 = .ok (.aload_n 0, 1) := by decide +kernel
theorem dX0_init_5 : decode cX0_init 5 = .ok (.bipush 40, 2) := by decide +kernel
theorem dX0_init_7 : decode cX0_init 7 = .ok (.newarray .int, 2) := by decide +kernel
theorem dX0_init_9 : decode cX0_init 9 = .ok (.putfield 11, 3) := by decide +kernel
theorem dX0_init_12 : decode cX0_init 12 = .ok (.aload_n 0, 1) := by decide +kernel
theorem dX0_init_13 : decode cX0_init 13 = .ok (.iconst 0, 1) := by decide +kernel
theorem dX0_init_14 : decode cX0_init 14 = .ok (.putfield 15, 3) := by decide +kernel
theorem dX0_init_17 : decode cX0_init 17 = .ok (.return_, 1) := by decide +kernel
theorem dX0_kindOf_0 : decode cX0_kindOf 0 = .ok (.iload_n 0, 1) := by decide +kernel
theorem dX0_kindOf_1 : decode cX0_kindOf 1 = .ok (.bipush 16, 2) := by decide +kernel
theorem dX0_kindOf_3 : decode cX0_kindOf 3 = .ok (.ishr, 1) := by decide +kernel
theorem dX0_kindOf_4 : decode cX0_kindOf 4 = .ok (.iconst 3, 1) := by decide +kernel
theorem dX0_kindOf_5 : decode cX0_kindOf 5 = .ok (.iand, 1) := by decide +kernel
theorem dX0_kindOf_6 : decode cX0_kindOf 6 = .ok (.ireturn, 1) := by decide +kernel
theorem dX0_numberOf_0 : decode cX0_numberOf 0 = .ok (.iload_n 0, 1) := by decide +kernel
theorem dX0_numberOf_1 : decode cX0_numberOf 1 = .ok (.bipush 13, 2) := by decide +kernel
theorem dX0_numberOf_3 : decode cX0_numberOf 3 = .ok (.ishr, 1) := by decide +kernel
theorem dX0_numberOf_4 : decode cX0_numberOf 4 = .ok (.bipush 7, 2) := by decide +kernel
theorem dX0_numberOf_6 : decode cX0_numberOf 6 = .ok (.iand, 1) := by decide +kernel
theorem dX0_numberOf_7 : decode cX0_numberOf 7 = .ok (.ireturn, 1) := by decide +kernel
theorem dX0_amountOf_0 : decode cX0_amountOf 0 = .ok (.iload_n 0, 1) := by decide +kernel
theorem dX0_amountOf_1 : decode cX0_amountOf 1 = .ok (.sipush 8191, 3) := by decide +kernel
theorem dX0_amountOf_4 : decode cX0_amountOf 4 = .ok (.iand, 1) := by decide +kernel
theorem dX0_amountOf_5 : decode cX0_amountOf 5 = .ok (.sipush 500, 3) := by decide +kernel
theorem dX0_amountOf_8 : decode cX0_amountOf 8 = .ok (.isub, 1) := by decide +kernel
theorem dX0_amountOf_9 : decode cX0_amountOf 9 = .ok (.ireturn, 1) := by decide +kernel
theorem dX0_count_0 : decode cX0_count 0 = .ok (.aload_n 0, 1) := by decide +kernel
theorem dX0_count_1 : decode cX0_count 1 = .ok (.getfield 15, 3) := by decide +kernel
theorem dX0_count_4 : decode cX0_count 4 = .ok (.ireturn, 1) := by decide +kernel
theorem dX0_add_0 : decode cX0_add 0 = .ok (.iload_n 1, 1) := by decide +kernel
theorem dX0_add_1 : decode cX0_add 1 = .ok (.bipush 18, 2) := by decide +kernel
theorem dX0_add_3 : decode cX0_add 3 = .ok (.ishl, 1) := by decide +kernel
theorem dX0_add_4 : decode cX0_add 4 = .ok (.iload_n 2, 1) := by decide +kernel
theorem dX0_add_5 : decode cX0_add 5 = .ok (.bipush 16, 2) := by decide +kernel
theorem dX0_add_7 : decode cX0_add 7 = .ok (.ishl, 1) := by decide +kernel
theorem dX0_add_8 : decode cX0_add 8 = .ok (.ior, 1) := by decide +kernel
theorem dX0_add_9 : decode cX0_add 9 = .ok (.iload_n 3, 1) := by decide +kernel
theorem dX0_add_10 : decode cX0_add 10 = .ok (.bipush 13, 2) := by decide +kernel
theorem dX0_add_12 : decode cX0_add 12 = .ok (.ishl, 1) := by decide +kernel
theorem dX0_add_13 : decode cX0_add 13 = .ok (.ior, 1) := by decide +kernel
theorem dX0_add_14 : decode cX0_add 14 = .ok (.iload 4, 2) := by decide +kernel
theorem dX0_add_16 : decode cX0_add 16 = .ok (.sipush 500, 3) := by decide +kernel
theorem dX0_add_19 : decode cX0_add 19 = .ok (.iadd, 1) := by decide +kernel
theorem dX0_add_20 : decode cX0_add 20 = .ok (.ior, 1) := by decide +kernel
theorem dX0_add_21 : decode cX0_add 21 = .ok (.istore 5, 2) := by decide +kernel
theorem dX0_add_23 : decode cX0_add 23 = .ok (.aload_n 0, 1) := by decide +kernel
theorem dX0_add_24 : decode cX0_add 24 = .ok (.getfield 15, 3) := by decide +kernel
theorem dX0_add_27 : decode cX0_add 27 = .ok (.istore 6, 2) := by decide +kernel
theorem dX0_add_29 : decode cX0_add 29 = .ok (.iload 6, 2) := by decide +kernel
theorem dX0_add_31 : decode cX0_add 31 = .ok (.ifCond .le 39, 3) := by decide +kernel
theorem dX0_add_34 : decode cX0_add 34 = .ok (.aload_n 0, 1) := by decide +kernel
theorem dX0_add_35 : decode cX0_add 35 = .ok (.getfield 11, 3) := by decide +kernel
theorem dX0_add_38 : decode cX0_add 38 = .ok (.iload 6, 2) := by decide +kernel
theorem dX0_add_40 : decode cX0_add 40 = .ok (.iconst 1, 1) := by decide +kernel
theorem dX0_add_41 : decode cX0_add 41 = .ok (.isub, 1) := by decide +kernel
theorem dX0_add_42 : decode cX0_add 42 = .ok (.iaload, 1) := by decide +kernel
theorem dX0_add_43 : decode cX0_add 43 = .ok (.iload 5, 2) := by decide +kernel
theorem dX0_add_45 : decode cX0_add 45 = .ok (.if_icmp .ge 25, 3) := by decide +kernel
theorem dX0_add_48 : decode cX0_add 48 = .ok (.aload_n 0, 1) := by decide +kernel
theorem dX0_add_49 : decode cX0_add 49 = .ok (.getfield 11, 3) := by decide +kernel
theorem dX0_add_52 : decode cX0_add 52 = .ok (.iload 6, 2) := by decide +kernel
theorem dX0_add_54 : decode cX0_add 54 = .ok (.aload_n 0, 1) := by decide +kernel
theorem dX0_add_55 : decode cX0_add 55 = .ok (.getfield 11, 3) := by decide +kernel
theorem dX0_add_58 : decode cX0_add 58 = .ok (.iload 6, 2) := by decide +kernel
theorem dX0_add_60 : decode cX0_add 60 = .ok (.iconst 1, 1) := by decide +kernel
theorem dX0_add_61 : decode cX0_add 61 = .ok (.isub, 1) := by decide +kernel
theorem dX0_add_62 : decode cX0_add 62 = .ok (.iaload, 1) := by decide +kernel
theorem dX0_add_63 : decode cX0_add 63 = .ok (.iastore, 1) := by decide +kernel
theorem dX0_add_64 : decode cX0_add 64 = .ok (.iinc 6 (-1), 3) := by decide +kernel
theorem dX0_add_67 : decode cX0_add 67 = .ok (.goto (-38), 3) := by decide +kernel
theorem dX0_add_70 : decode cX0_add 70 = .ok (.aload_n 0, 1) := by decide +kernel
theorem dX0_add_71 : decode cX0_add 71 = .ok (.getfield 11, 3) := by decide +kernel
theorem dX0_add_74 : decode cX0_add 74 = .ok (.iload 6, 2) := by decide +kernel
theorem dX0_add_76 : decode cX0_add 76 = .ok (.iload 5, 2) := by decide +kernel
theorem dX0_add_78 : decode cX0_add 78 = .ok (.iastore, 1) := by decide +kernel
theorem dX0_add_79 : decode cX0_add 79 = .ok (.aload_n 0, 1) := by decide +kernel
theorem dX0_add_80 : decode cX0_add 80 = .ok (.dup, 1) := by decide +kernel
theorem dX0_add_81 : decode cX0_add 81 = .ok (.getfield 15, 3) := by decide +kernel
theorem dX0_add_84 : decode cX0_add 84 = .ok (.iconst 1, 1) := by decide +kernel
theorem dX0_add_85 : decode cX0_add 85 = .ok (.iadd, 1) := by decide +kernel
theorem dX0_add_86 : decode cX0_add 86 = .ok (.putfield 15, 3) := by decide +kernel
theorem dX0_add_89 : decode cX0_add 89 = .ok (.return_, 1) := by decide +kernel
theorem dX0_isNextDue_0 : decode cX0_isNextDue 0 = .ok (.aload_n 0, 1) := by decide +kernel
theorem dX0_isNextDue_1 : decode cX0_isNextDue 1 = .ok (.getfield 15, 3) := by decide +kernel
theorem dX0_isNextDue_4 : decode cX0_isNextDue 4 = .ok (.ifCond .le 25, 3) := by decide +kernel
theorem dX0_isNextDue_7 : decode cX0_isNextDue 7 = .ok (.aload_n 0, 1) := by decide +kernel
theorem dX0_isNextDue_8 : decode cX0_isNextDue 8 = .ok (.getfield 11, 3) := by decide +kernel
theorem dX0_isNextDue_11 : decode cX0_isNextDue 11 = .ok (.aload_n 0, 1) := by decide +kernel
theorem dX0_isNextDue_12 : decode cX0_isNextDue 12 = .ok (.getfield 15, 3) := by decide +kernel
theorem dX0_isNextDue_15 : decode cX0_isNextDue 15 = .ok (.iconst 1, 1) := by decide +kernel
theorem dX0_isNextDue_16 : decode cX0_isNextDue 16 = .ok (.isub, 1) := by decide +kernel
theorem dX0_isNextDue_17 : decode cX0_isNextDue 17 = .ok (.iaload, 1) := by decide +kernel
theorem dX0_isNextDue_18 : decode cX0_isNextDue 18 = .ok (.bipush 18, 2) := by decide +kernel
theorem dX0_isNextDue_20 : decode cX0_isNextDue 20 = .ok (.ishr, 1) := by decide +kernel
theorem dX0_isNextDue_21 : decode cX0_isNextDue 21 = .ok (.iload_n 1, 1) := by decide +kernel
theorem dX0_isNextDue_22 : decode cX0_isNextDue 22 = .ok (.if_icmp .gt 7, 3) := by decide +kernel
theorem dX0_isNextDue_25 : decode cX0_isNextDue 25 = .ok (.iconst 1, 1) := by decide +kernel
theorem dX0_isNextDue_26 : decode cX0_isNextDue 26 = .ok (.goto 4, 3) := by decide +kernel
theorem dX0_isNextDue_29 : decode cX0_isNextDue 29 = .ok (.iconst 0, 1) := by decide +kernel
theorem dX0_isNextDue_30 : decode cX0_isNextDue 30 = .ok (.ireturn, 1) := by decide +kernel
theorem dX0_takeNext_0 : decode cX0_takeNext 0 = .ok (.aload_n 0, 1) := by decide +kernel
theorem dX0_takeNext_1 : decode cX0_takeNext 1 = .ok (.dup, 1) := by decide +kernel
theorem dX0_takeNext_2 : decode cX0_takeNext 2 = .ok (.getfield 15, 3) := by decide +kernel
theorem dX0_takeNext_5 : decode cX0_takeNext 5 = .ok (.iconst 1, 1) := by decide +kernel
theorem dX0_takeNext_6 : decode cX0_takeNext 6 = .ok (.isub, 1) := by decide +kernel
theorem dX0_takeNext_7 : decode cX0_takeNext 7 = .ok (.putfield 15, 3) := by decide +kernel
theorem dX0_takeNext_10 : decode cX0_takeNext 10 = .ok (.aload_n 0, 1) := by decide +kernel
theorem dX0_takeNext_11 : decode cX0_takeNext 11 = .ok (.getfield 11, 3) := by decide +kernel
theorem dX0_takeNext_14 : decode cX0_takeNext 14 = .ok (.aload_n 0, 1) := by decide +kernel
theorem dX0_takeNext_15 : decode cX0_takeNext 15 = .ok (.getfield 15, 3) := by decide +kernel
theorem dX0_takeNext_18 : decode cX0_takeNext 18 = .ok (.iaload, 1) := by decide +kernel
theorem dX0_takeNext_19 : decode cX0_takeNext 19 = .ok (.ireturn, 1) := by decide +kernel
theorem dX1_init_0 : decode cX1_init 0 = .ok (.aload_n 0, 1) := by decide +kernel
theorem dX1_init_1 : decode cX1_init 1 = .ok (.invokespecial 3, 3) := by decide +kernel
theorem dX1_init_4 : decode cX1_init 4 = .ok (.aload_n 0, 1) := by decide +kernel
theorem dX1_init_5 : decode cX1_init 5 = .ok (.bipush 6, 2) := by decide +kernel
theorem dX1_init_7 : decode cX1_init 7 = .ok (.newarray .int, 2) := by decide +kernel
theorem dX1_init_9 : decode cX1_init 9 = .ok (.putfield 9, 3) := by decide +kernel
theorem dX1_init_12 : decode cX1_init 12 = .ok (.aload_n 0, 1) := by decide +kernel
theorem dX1_init_13 : decode cX1_init 13 = .ok (.bipush 6, 2) := by decide +kernel
theorem dX1_init_15 : decode cX1_init 15 = .ok (.newarray .int, 2) := by decide +kernel
theorem dX1_init_17 : decode cX1_init 17 = .ok (.putfield 15, 3) := by decide +kernel
theorem dX1_init_20 : decode cX1_init 20 = .ok (.aload_n 0, 1) := by decide +kernel
theorem dX1_init_21 : decode cX1_init 21 = .ok (.bipush 6, 2) := by decide +kernel
theorem dX1_init_23 : decode cX1_init 23 = .ok (.newarray .int, 2) := by decide +kernel
theorem dX1_init_25 : decode cX1_init 25 = .ok (.putfield 18, 3) := by decide +kernel
theorem dX1_init_28 : decode cX1_init 28 = .ok (.aload_n 0, 1) := by decide +kernel
theorem dX1_init_29 : decode cX1_init 29 = .ok (.bipush 6, 2) := by decide +kernel
theorem dX1_init_31 : decode cX1_init 31 = .ok (.newarray .int, 2) := by decide +kernel
theorem dX1_init_33 : decode cX1_init 33 = .ok (.putfield 21, 3) := by decide +kernel
theorem dX1_init_36 : decode cX1_init 36 = .ok (.aload_n 0, 1) := by decide +kernel
theorem dX1_init_37 : decode cX1_init 37 = .ok (.bipush 6, 2) := by decide +kernel
theorem dX1_init_39 : decode cX1_init 39 = .ok (.newarray .int, 2) := by decide +kernel
theorem dX1_init_41 : decode cX1_init 41 = .ok (.putfield 24, 3) := by decide +kernel
theorem dX1_init_44 : decode cX1_init 44 = .ok (.aload_n 0, 1) := by decide +kernel
theorem dX1_init_45 : decode cX1_init 45 = .ok (.iconst 0, 1) := by decide +kernel
theorem dX1_init_46 : decode cX1_init 46 = .ok (.putfield 27, 3) := by decide +kernel
theorem dX1_init_49 : decode cX1_init 49 = .ok (.return_, 1) := by decide +kernel
theorem dX1_count_0 : decode cX1_count 0 = .ok (.aload_n 0, 1) := by decide +kernel
theorem dX1_count_1 : decode cX1_count 1 = .ok (.getfield 27, 3) := by decide +kernel
theorem dX1_count_4 : decode cX1_count 4 = .ok (.ireturn, 1) := by decide +kernel
theorem dX1_has_0 : decode cX1_has 0 = .ok (.iload_n 1, 1) := by decide +kernel
theorem dX1_has_1 : decode cX1_has 1 = .ok (.ifCond .lt 15, 3) := by decide +kernel
theorem dX1_has_4 : decode cX1_has 4 = .ok (.iload_n 1, 1) := by decide +kernel
theorem dX1_has_5 : decode cX1_has 5 = .ok (.aload_n 0, 1) := by decide +kernel
theorem dX1_has_6 : decode cX1_has 6 = .ok (.getfield 27, 3) := by decide +kernel
theorem dX1_has_9 : decode cX1_has 9 = .ok (.if_icmp .ge 7, 3) := by decide +kernel
theorem dX1_has_12 : decode cX1_has 12 = .ok (.iconst 1, 1) := by decide +kernel
theorem dX1_has_13 : decode cX1_has 13 = .ok (.goto 4, 3) := by decide +kernel
theorem dX1_has_16 : decode cX1_has 16 = .ok (.iconst 0, 1) := by decide +kernel
theorem dX1_has_17 : decode cX1_has 17 = .ok (.ireturn, 1) := by decide +kernel
theorem dX1_add_0 : decode cX1_add 0 = .ok (.aload_n 0, 1) := by decide +kernel
theorem dX1_add_1 : decode cX1_add 1 = .ok (.getfield 27, 3) := by decide +kernel
theorem dX1_add_4 : decode cX1_add 4 = .ok (.istore_n 3, 1) := by decide +kernel
theorem dX1_add_5 : decode cX1_add 5 = .ok (.aload_n 0, 1) := by decide +kernel
theorem dX1_add_6 : decode cX1_add 6 = .ok (.getfield 9, 3) := by decide +kernel
theorem dX1_add_9 : decode cX1_add 9 = .ok (.iload_n 3, 1) := by decide +kernel
theorem dX1_add_10 : decode cX1_add 10 = .ok (.iload_n 1, 1) := by decide +kernel
theorem dX1_add_11 : decode cX1_add 11 = .ok (.iastore, 1) := by decide +kernel
theorem dX1_add_12 : decode cX1_add 12 = .ok (.aload_n 0, 1) := by decide +kernel
theorem dX1_add_13 : decode cX1_add 13 = .ok (.getfield 21, 3) := by decide +kernel
theorem dX1_add_16 : decode cX1_add 16 = .ok (.iload_n 3, 1) := by decide +kernel
theorem dX1_add_17 : decode cX1_add 17 = .ok (.iload_n 2, 1) := by decide +kernel
theorem dX1_add_18 : decode cX1_add 18 = .ok (.iastore, 1) := by decide +kernel
theorem dX1_add_19 : decode cX1_add 19 = .ok (.aload_n 0, 1) := by decide +kernel
theorem dX1_add_20 : decode cX1_add 20 = .ok (.getfield 18, 3) := by decide +kernel
theorem dX1_add_23 : decode cX1_add 23 = .ok (.iload_n 3, 1) := by decide +kernel
theorem dX1_add_24 : decode cX1_add 24 = .ok (.iconst 1, 1) := by decide +kernel
theorem dX1_add_25 : decode cX1_add 25 = .ok (.iastore, 1) := by decide +kernel
theorem dX1_add_26 : decode cX1_add 26 = .ok (.aload_n 0, 1) := by decide +kernel
theorem dX1_add_27 : decode cX1_add 27 = .ok (.dup, 1) := by decide +kernel
theorem dX1_add_28 : decode cX1_add 28 = .ok (.getfield 27, 3) := by decide +kernel
theorem dX1_add_31 : decode cX1_add 31 = .ok (.iconst 1, 1) := by decide +kernel
theorem dX1_add_32 : decode cX1_add 32 = .ok (.iadd, 1) := by decide +kernel
theorem dX1_add_33 : decode cX1_add 33 = .ok (.putfield 27, 3) := by decide +kernel
theorem dX1_add_36 : decode cX1_add 36 = .ok (.iload_n 3, 1) := by decide +kernel
theorem dX1_add_37 : decode cX1_add 37 = .ok (.ireturn, 1) := by decide +kernel
theorem dX1_phaseOf_0 : decode cX1_phaseOf 0 = .ok (.aload_n 0, 1) := by decide +kernel
theorem dX1_phaseOf_1 : decode cX1_phaseOf 1 = .ok (.getfield 24, 3) := by decide +kernel
theorem dX1_phaseOf_4 : decode cX1_phaseOf 4 = .ok (.iload_n 1, 1) := by decide +kernel
theorem dX1_phaseOf_5 : decode cX1_phaseOf 5 = .ok (.iaload, 1) := by decide +kernel
theorem dX1_phaseOf_6 : decode cX1_phaseOf 6 = .ok (.ireturn, 1) := by decide +kernel
theorem dX1_rateOf_0 : decode cX1_rateOf 0 = .ok (.aload_n 0, 1) := by decide +kernel
theorem dX1_rateOf_1 : decode cX1_rateOf 1 = .ok (.getfield 9, 3) := by decide +kernel
theorem dX1_rateOf_4 : decode cX1_rateOf 4 = .ok (.iload_n 1, 1) := by decide +kernel
theorem dX1_rateOf_5 : decode cX1_rateOf 5 = .ok (.iaload, 1) := by decide +kernel
theorem dX1_rateOf_6 : decode cX1_rateOf 6 = .ok (.ireturn, 1) := by decide +kernel
theorem dX1_heightOf_0 : decode cX1_heightOf 0 = .ok (.aload_n 0, 1) := by decide +kernel
theorem dX1_heightOf_1 : decode cX1_heightOf 1 = .ok (.getfield 21, 3) := by decide +kernel
theorem dX1_heightOf_4 : decode cX1_heightOf 4 = .ok (.iload_n 1, 1) := by decide +kernel
theorem dX1_heightOf_5 : decode cX1_heightOf 5 = .ok (.iaload, 1) := by decide +kernel
theorem dX1_heightOf_6 : decode cX1_heightOf 6 = .ok (.ireturn, 1) := by decide +kernel
theorem dX1_weightOf_0 : decode cX1_weightOf 0 = .ok (.aload_n 0, 1) := by decide +kernel
theorem dX1_weightOf_1 : decode cX1_weightOf 1 = .ok (.getfield 18, 3) := by decide +kernel
theorem dX1_weightOf_4 : decode cX1_weightOf 4 = .ok (.iload_n 1, 1) := by decide +kernel
theorem dX1_weightOf_5 : decode cX1_weightOf 5 = .ok (.iaload, 1) := by decide +kernel
theorem dX1_weightOf_6 : decode cX1_weightOf 6 = .ok (.ireturn, 1) := by decide +kernel
theorem dX1_setDriftAndWeight_0 : decode cX1_setDriftAndWeight 0 = .ok (.aload_n 0, 1) := by decide +kernel
theorem dX1_setDriftAndWeight_1 : decode cX1_setDriftAndWeight 1 = .ok (.getfield 15, 3) := by decide +kernel
theorem dX1_setDriftAndWeight_4 : decode cX1_setDriftAndWeight 4 = .ok (.iload_n 1, 1) := by decide +kernel
theorem dX1_setDriftAndWeight_5 : decode cX1_setDriftAndWeight 5 = .ok (.iload_n 2, 1) := by decide +kernel
theorem dX1_setDriftAndWeight_6 : decode cX1_setDriftAndWeight 6 = .ok (.iastore, 1) := by decide +kernel
theorem dX1_setDriftAndWeight_7 : decode cX1_setDriftAndWeight 7 = .ok (.aload_n 0, 1) := by decide +kernel
theorem dX1_setDriftAndWeight_8 : decode cX1_setDriftAndWeight 8 = .ok (.getfield 18, 3) := by decide +kernel
theorem dX1_setDriftAndWeight_11 : decode cX1_setDriftAndWeight 11 = .ok (.iload_n 1, 1) := by decide +kernel
theorem dX1_setDriftAndWeight_12 : decode cX1_setDriftAndWeight 12 = .ok (.iload_n 3, 1) := by decide +kernel
theorem dX1_setDriftAndWeight_13 : decode cX1_setDriftAndWeight 13 = .ok (.iastore, 1) := by decide +kernel
theorem dX1_setDriftAndWeight_14 : decode cX1_setDriftAndWeight 14 = .ok (.return_, 1) := by decide +kernel
theorem dX1_setHeight_0 : decode cX1_setHeight 0 = .ok (.aload_n 0, 1) := by decide +kernel
theorem dX1_setHeight_1 : decode cX1_setHeight 1 = .ok (.getfield 21, 3) := by decide +kernel
theorem dX1_setHeight_4 : decode cX1_setHeight 4 = .ok (.iload_n 1, 1) := by decide +kernel
theorem dX1_setHeight_5 : decode cX1_setHeight 5 = .ok (.iload_n 2, 1) := by decide +kernel
theorem dX1_setHeight_6 : decode cX1_setHeight 6 = .ok (.iastore, 1) := by decide +kernel
theorem dX1_setHeight_7 : decode cX1_setHeight 7 = .ok (.return_, 1) := by decide +kernel
set_option maxRecDepth 20000 in
theorem ggX1_addToRate_X4_held : GoodIn wsX1_addToRate wsX4_held := goodIn_r _ [4, 5, 6, 7, 8, 9, 10, 11] (by decide +kernel) (by decide +kernel)
set_option maxRecDepth 20000 in
theorem gX1_addToRate_X4_held_n31 : GoodIn wsX1_addToRate (wsX4_held) := ggX1_addToRate_X4_held
theorem dX1_addToRate_0 : decode cX1_addToRate 0 = .ok (.aload_n 0, 1) := by decide +kernel
theorem dX1_addToRate_1 : decode cX1_addToRate 1 = .ok (.getfield 9, 3) := by decide +kernel
theorem dX1_addToRate_4 : decode cX1_addToRate 4 = .ok (.iload_n 1, 1) := by decide +kernel
theorem dX1_addToRate_5 : decode cX1_addToRate 5 = .ok (.aload_n 0, 1) := by decide +kernel
theorem dX1_addToRate_6 : decode cX1_addToRate 6 = .ok (.getfield 9, 3) := by decide +kernel
theorem dX1_addToRate_9 : decode cX1_addToRate 9 = .ok (.iload_n 1, 1) := by decide +kernel
theorem dX1_addToRate_10 : decode cX1_addToRate 10 = .ok (.iaload, 1) := by decide +kernel
theorem dX1_addToRate_11 : decode cX1_addToRate 11 = .ok (.iload_n 2, 1) := by decide +kernel
theorem dX1_addToRate_12 : decode cX1_addToRate 12 = .ok (.iadd, 1) := by decide +kernel
theorem dX1_addToRate_13 : decode cX1_addToRate 13 = .ok (.sipush 5000, 3) := by decide +kernel
theorem dX1_addToRate_16 : decode cX1_addToRate 16 = .ok (.invokestatic 31, 3) := by decide +kernel
theorem dX1_addToRate_19 : decode cX1_addToRate 19 = .ok (.iastore, 1) := by decide +kernel
theorem dX1_addToRate_20 : decode cX1_addToRate 20 = .ok (.return_, 1) := by decide +kernel
set_option maxRecDepth 20000 in
theorem ggX1_run_X1_addToRate : GoodIn wsX1_run wsX1_addToRate := goodIn_r _ [10, 3, 11, 12, 13, 14, 15, 16, 17, 18, 19, 20, 21, 22, 23, 24, 25, 26] (by decide +kernel) (by decide +kernel)
set_option maxRecDepth 20000 in
theorem gX1_run_X1_addToRate : GoodIn wsX1_run (wsV RX1 35 RX1 yX1_addToRate wsX1_addToRate) := goodIn_app (goodIn_of _ (by decide +kernel)) ggX1_run_X1_addToRate
theorem dX1_run_0 : decode cX1_run 0 = .ok (.iconst 0, 1) := by decide +kernel
theorem dX1_run_1 : decode cX1_run 1 = .ok (.istore_n 2, 1) := by decide +kernel
theorem dX1_run_2 : decode cX1_run 2 = .ok (.iload_n 2, 1) := by decide +kernel
theorem dX1_run_3 : decode cX1_run 3 = .ok (.aload_n 0, 1) := by decide +kernel
theorem dX1_run_4 : decode cX1_run 4 = .ok (.getfield 27, 3) := by decide +kernel
theorem dX1_run_7 : decode cX1_run 7 = .ok (.if_icmp .ge 52, 3) := by decide +kernel
theorem dX1_run_10 : decode cX1_run 10 = .ok (.aload_n 0, 1) := by decide +kernel
theorem dX1_run_11 : decode cX1_run 11 = .ok (.getfield 24, 3) := by decide +kernel
theorem dX1_run_14 : decode cX1_run 14 = .ok (.iload_n 2, 1) := by decide +kernel
theorem dX1_run_15 : decode cX1_run 15 = .ok (.dup2, 1) := by decide +kernel
theorem dX1_run_16 : decode cX1_run 16 = .ok (.iaload, 1) := by decide +kernel
theorem dX1_run_17 : decode cX1_run 17 = .ok (.aload_n 0, 1) := by decide +kernel
theorem dX1_run_18 : decode cX1_run 18 = .ok (.getfield 9, 3) := by decide +kernel
theorem dX1_run_21 : decode cX1_run 21 = .ok (.iload_n 2, 1) := by decide +kernel
theorem dX1_run_22 : decode cX1_run 22 = .ok (.iaload, 1) := by decide +kernel
theorem dX1_run_23 : decode cX1_run 23 = .ok (.aload_n 0, 1) := by decide +kernel
theorem dX1_run_24 : decode cX1_run 24 = .ok (.getfield 21, 3) := by decide +kernel
theorem dX1_run_27 : decode cX1_run 27 = .ok (.iload_n 2, 1) := by decide +kernel
theorem dX1_run_28 : decode cX1_run 28 = .ok (.iaload, 1) := by decide +kernel
theorem dX1_run_29 : decode cX1_run 29 = .ok (.bipush 100, 2) := by decide +kernel
theorem dX1_run_31 : decode cX1_run 31 = .ok (.idiv, 1) := by decide +kernel
theorem dX1_run_32 : decode cX1_run 32 = .ok (.iadd, 1) := by decide +kernel
theorem dX1_run_33 : decode cX1_run 33 = .ok (.iadd, 1) := by decide +kernel
theorem dX1_run_34 : decode cX1_run 34 = .ok (.iastore, 1) := by decide +kernel
theorem dX1_run_35 : decode cX1_run 35 = .ok (.iload_n 1, 1) := by decide +kernel
theorem dX1_run_36 : decode cX1_run 36 = .ok (.bipush 10, 2) := by decide +kernel
theorem dX1_run_38 : decode cX1_run 38 = .ok (.irem, 1) := by decide +kernel
theorem dX1_run_39 : decode cX1_run 39 = .ok (.ifCond .ne 14, 3) := by decide +kernel
theorem dX1_run_42 : decode cX1_run 42 = .ok (.aload_n 0, 1) := by decide +kernel
theorem dX1_run_43 : decode cX1_run 43 = .ok (.iload_n 2, 1) := by decide +kernel
theorem dX1_run_44 : decode cX1_run 44 = .ok (.aload_n 0, 1) := by decide +kernel
theorem dX1_run_45 : decode cX1_run 45 = .ok (.getfield 15, 3) := by decide +kernel
theorem dX1_run_48 : decode cX1_run 48 = .ok (.iload_n 2, 1) := by decide +kernel
theorem dX1_run_49 : decode cX1_run 49 = .ok (.iaload, 1) := by decide +kernel
theorem dX1_run_50 : decode cX1_run 50 = .ok (.invokevirtual 35, 3) := by decide +kernel
theorem dX1_run_53 : decode cX1_run 53 = .ok (.iinc 2 1, 3) := by decide +kernel
theorem dX1_run_56 : decode cX1_run 56 = .ok (.goto (-54), 3) := by decide +kernel
theorem dX1_run_59 : decode cX1_run 59 = .ok (.return_, 1) := by decide +kernel
theorem dX2_init_0 : decode cX2_init 0 = .ok (.aload_n 0, 1) := by decide +kernel
theorem dX2_init_1 : decode cX2_init 1 = .ok (.invokespecial 3, 3) := by decide +kernel
theorem dX2_init_4 : decode cX2_init 4 = .ok (.aload_n 0, 1) := by decide +kernel
theorem dX2_init_5 : decode cX2_init 5 = .ok (.bipush 8, 2) := by decide +kernel
theorem dX2_init_7 : decode cX2_init 7 = .ok (.newarray .int, 2) := by decide +kernel
theorem dX2_init_9 : decode cX2_init 9 = .ok (.putfield 9, 3) := by decide +kernel
theorem dX2_init_12 : decode cX2_init 12 = .ok (.aload_n 0, 1) := by decide +kernel
theorem dX2_init_13 : decode cX2_init 13 = .ok (.bipush 8, 2) := by decide +kernel
theorem dX2_init_15 : decode cX2_init 15 = .ok (.newarray .int, 2) := by decide +kernel
theorem dX2_init_17 : decode cX2_init 17 = .ok (.putfield 15, 3) := by decide +kernel
theorem dX2_init_20 : decode cX2_init 20 = .ok (.aload_n 0, 1) := by decide +kernel
theorem dX2_init_21 : decode cX2_init 21 = .ok (.bipush 8, 2) := by decide +kernel
theorem dX2_init_23 : decode cX2_init 23 = .ok (.newarray .int, 2) := by decide +kernel
theorem dX2_init_25 : decode cX2_init 25 = .ok (.putfield 18, 3) := by decide +kernel
theorem dX2_init_28 : decode cX2_init 28 = .ok (.aload_n 0, 1) := by decide +kernel
theorem dX2_init_29 : decode cX2_init 29 = .ok (.bipush 8, 2) := by decide +kernel
theorem dX2_init_31 : decode cX2_init 31 = .ok (.newarray .int, 2) := by decide +kernel
theorem dX2_init_33 : decode cX2_init 33 = .ok (.putfield 21, 3) := by decide +kernel
theorem dX2_init_36 : decode cX2_init 36 = .ok (.aload_n 0, 1) := by decide +kernel
theorem dX2_init_37 : decode cX2_init 37 = .ok (.bipush 8, 2) := by decide +kernel
theorem dX2_init_39 : decode cX2_init 39 = .ok (.newarray .int, 2) := by decide +kernel
theorem dX2_init_41 : decode cX2_init 41 = .ok (.putfield 24, 3) := by decide +kernel
theorem dX2_init_44 : decode cX2_init 44 = .ok (.aload_n 0, 1) := by decide +kernel
theorem dX2_init_45 : decode cX2_init 45 = .ok (.bipush 8, 2) := by decide +kernel
theorem dX2_init_47 : decode cX2_init 47 = .ok (.newarray .int, 2) := by decide +kernel
theorem dX2_init_49 : decode cX2_init 49 = .ok (.putfield 27, 3) := by decide +kernel
theorem dX2_init_52 : decode cX2_init 52 = .ok (.aload_n 0, 1) := by decide +kernel
theorem dX2_init_53 : decode cX2_init 53 = .ok (.bipush 8, 2) := by decide +kernel
theorem dX2_init_55 : decode cX2_init 55 = .ok (.sipush 501, 3) := by decide +kernel
theorem dX2_init_58 : decode cX2_init 58 = .ok (.multianewarray 30 2, 4) := by decide +kernel
theorem dX2_init_62 : decode cX2_init 62 = .ok (.putfield 32, 3) := by decide +kernel
theorem dX2_init_65 : decode cX2_init 65 = .ok (.aload_n 0, 1) := by decide +kernel
theorem dX2_init_66 : decode cX2_init 66 = .ok (.bipush 8, 2) := by decide +kernel
theorem dX2_init_68 : decode cX2_init 68 = .ok (.sipush 501, 3) := by decide +kernel
theorem dX2_init_71 : decode cX2_init 71 = .ok (.multianewarray 30 2, 4) := by decide +kernel
theorem dX2_init_75 : decode cX2_init 75 = .ok (.putfield 35, 3) := by decide +kernel
theorem dX2_init_78 : decode cX2_init 78 = .ok (.aload_n 0, 1) := by decide +kernel
theorem dX2_init_79 : decode cX2_init 79 = .ok (.iconst 0, 1) := by decide +kernel
theorem dX2_init_80 : decode cX2_init 80 = .ok (.putfield 38, 3) := by decide +kernel
theorem dX2_init_83 : decode cX2_init 83 = .ok (.return_, 1) := by decide +kernel
theorem dX2_count_0 : decode cX2_count 0 = .ok (.aload_n 0, 1) := by decide +kernel
theorem dX2_count_1 : decode cX2_count 1 = .ok (.getfield 38, 3) := by decide +kernel
theorem dX2_count_4 : decode cX2_count 4 = .ok (.ireturn, 1) := by decide +kernel
theorem dX2_has_0 : decode cX2_has 0 = .ok (.iload_n 1, 1) := by decide +kernel
theorem dX2_has_1 : decode cX2_has 1 = .ok (.ifCond .lt 15, 3) := by decide +kernel
theorem dX2_has_4 : decode cX2_has 4 = .ok (.iload_n 1, 1) := by decide +kernel
theorem dX2_has_5 : decode cX2_has 5 = .ok (.aload_n 0, 1) := by decide +kernel
theorem dX2_has_6 : decode cX2_has 6 = .ok (.getfield 38, 3) := by decide +kernel
theorem dX2_has_9 : decode cX2_has 9 = .ok (.if_icmp .ge 7, 3) := by decide +kernel
theorem dX2_has_12 : decode cX2_has 12 = .ok (.iconst 1, 1) := by decide +kernel
theorem dX2_has_13 : decode cX2_has 13 = .ok (.goto 4, 3) := by decide +kernel
theorem dX2_has_16 : decode cX2_has 16 = .ok (.iconst 0, 1) := by decide +kernel
theorem dX2_has_17 : decode cX2_has 17 = .ok (.ireturn, 1) := by decide +kernel
theorem dX2_isLaidBefore_0 : decode cX2_isLaidBefore 0 = .ok (.aload_n 0, 1) := by decide +kernel
theorem dX2_isLaidBefore_1 : decode cX2_isLaidBefore 1 = .ok (.getfield 24, 3) := by decide +kernel
theorem dX2_isLaidBefore_4 : decode cX2_isLaidBefore 4 = .ok (.iload_n 1, 1) := by decide +kernel
theorem dX2_isLaidBefore_5 : decode cX2_isLaidBefore 5 = .ok (.iaload, 1) := by decide +kernel
theorem dX2_isLaidBefore_6 : decode cX2_isLaidBefore 6 = .ok (.iload_n 2, 1) := by decide +kernel
theorem dX2_isLaidBefore_7 : decode cX2_isLaidBefore 7 = .ok (.if_icmp .ge 7, 3) := by decide +kernel
theorem dX2_isLaidBefore_10 : decode cX2_isLaidBefore 10 = .ok (.iconst 1, 1) := by decide +kernel
theorem dX2_isLaidBefore_11 : decode cX2_isLaidBefore 11 = .ok (.goto 4, 3) := by decide +kernel
theorem dX2_isLaidBefore_14 : decode cX2_isLaidBefore 14 = .ok (.iconst 0, 1) := by decide +kernel
theorem dX2_isLaidBefore_15 : decode cX2_isLaidBefore 15 = .ok (.ireturn, 1) := by decide +kernel
theorem dX2_add_0 : decode cX2_add 0 = .ok (.aload_n 0, 1) := by decide +kernel
theorem dX2_add_1 : decode cX2_add 1 = .ok (.getfield 38, 3) := by decide +kernel
theorem dX2_add_4 : decode cX2_add 4 = .ok (.istore 5, 2) := by decide +kernel
theorem dX2_add_6 : decode cX2_add 6 = .ok (.aload_n 0, 1) := by decide +kernel
theorem dX2_add_7 : decode cX2_add 7 = .ok (.getfield 9, 3) := by decide +kernel
theorem dX2_add_10 : decode cX2_add 10 = .ok (.iload 5, 2) := by decide +kernel
theorem dX2_add_12 : decode cX2_add 12 = .ok (.iload_n 1, 1) := by decide +kernel
theorem dX2_add_13 : decode cX2_add 13 = .ok (.iastore, 1) := by decide +kernel
theorem dX2_add_14 : decode cX2_add 14 = .ok (.aload_n 0, 1) := by decide +kernel
theorem dX2_add_15 : decode cX2_add 15 = .ok (.getfield 15, 3) := by decide +kernel
theorem dX2_add_18 : decode cX2_add 18 = .ok (.iload 5, 2) := by decide +kernel
theorem dX2_add_20 : decode cX2_add 20 = .ok (.iload_n 2, 1) := by decide +kernel
theorem dX2_add_21 : decode cX2_add 21 = .ok (.iastore, 1) := by decide +kernel
theorem dX2_add_22 : decode cX2_add 22 = .ok (.aload_n 0, 1) := by decide +kernel
theorem dX2_add_23 : decode cX2_add 23 = .ok (.getfield 18, 3) := by decide +kernel
theorem dX2_add_26 : decode cX2_add 26 = .ok (.iload 5, 2) := by decide +kernel
theorem dX2_add_28 : decode cX2_add 28 = .ok (.iload_n 3, 1) := by decide +kernel
theorem dX2_add_29 : decode cX2_add 29 = .ok (.iastore, 1) := by decide +kernel
theorem dX2_add_30 : decode cX2_add 30 = .ok (.aload_n 0, 1) := by decide +kernel
theorem dX2_add_31 : decode cX2_add 31 = .ok (.getfield 24, 3) := by decide +kernel
theorem dX2_add_34 : decode cX2_add 34 = .ok (.iload 5, 2) := by decide +kernel
theorem dX2_add_36 : decode cX2_add 36 = .ok (.iload 4, 2) := by decide +kernel
theorem dX2_add_38 : decode cX2_add 38 = .ok (.iastore, 1) := by decide +kernel
theorem dX2_add_39 : decode cX2_add 39 = .ok (.aload_n 0, 1) := by decide +kernel
theorem dX2_add_40 : decode cX2_add 40 = .ok (.dup, 1) := by decide +kernel
theorem dX2_add_41 : decode cX2_add 41 = .ok (.getfield 38, 3) := by decide +kernel
theorem dX2_add_44 : decode cX2_add 44 = .ok (.iconst 1, 1) := by decide +kernel
theorem dX2_add_45 : decode cX2_add 45 = .ok (.iadd, 1) := by decide +kernel
theorem dX2_add_46 : decode cX2_add 46 = .ok (.putfield 38, 3) := by decide +kernel
theorem dX2_add_49 : decode cX2_add 49 = .ok (.iload 5, 2) := by decide +kernel
theorem dX2_add_51 : decode cX2_add 51 = .ok (.ireturn, 1) := by decide +kernel
theorem dX2_setAsymmetry_0 : decode cX2_setAsymmetry 0 = .ok (.aload_n 0, 1) := by decide +kernel
theorem dX2_setAsymmetry_1 : decode cX2_setAsymmetry 1 = .ok (.getfield 18, 3) := by decide +kernel
theorem dX2_setAsymmetry_4 : decode cX2_setAsymmetry 4 = .ok (.iload_n 1, 1) := by decide +kernel
theorem dX2_setAsymmetry_5 : decode cX2_setAsymmetry 5 = .ok (.iload_n 2, 1) := by decide +kernel
theorem dX2_setAsymmetry_6 : decode cX2_setAsymmetry 6 = .ok (.iastore, 1) := by decide +kernel
theorem dX2_setAsymmetry_7 : decode cX2_setAsymmetry 7 = .ok (.return_, 1) := by decide +kernel
theorem dX2_addCycles_0 : decode cX2_addCycles 0 = .ok (.aload_n 0, 1) := by decide +kernel
theorem dX2_addCycles_1 : decode cX2_addCycles 1 = .ok (.getfield 21, 3) := by decide +kernel
theorem dX2_addCycles_4 : decode cX2_addCycles 4 = .ok (.iload_n 1, 1) := by decide +kernel
theorem dX2_addCycles_5 : decode cX2_addCycles 5 = .ok (.dup2, 1) := by decide +kernel
theorem dX2_addCycles_6 : decode cX2_addCycles 6 = .ok (.iaload, 1) := by decide +kernel
theorem dX2_addCycles_7 : decode cX2_addCycles 7 = .ok (.iload_n 2, 1) := by decide +kernel
theorem dX2_addCycles_8 : decode cX2_addCycles 8 = .ok (.iadd, 1) := by decide +kernel
theorem dX2_addCycles_9 : decode cX2_addCycles 9 = .ok (.iastore, 1) := by decide +kernel
theorem dX2_addCycles_10 : decode cX2_addCycles 10 = .ok (.return_, 1) := by decide +kernel
theorem dX2_calibrationsOf_0 : decode cX2_calibrationsOf 0 = .ok (.aload_n 0, 1) := by decide +kernel
theorem dX2_calibrationsOf_1 : decode cX2_calibrationsOf 1 = .ok (.getfield 27, 3) := by decide +kernel
theorem dX2_calibrationsOf_4 : decode cX2_calibrationsOf 4 = .ok (.iload_n 1, 1) := by decide +kernel
theorem dX2_calibrationsOf_5 : decode cX2_calibrationsOf 5 = .ok (.iaload, 1) := by decide +kernel
theorem dX2_calibrationsOf_6 : decode cX2_calibrationsOf 6 = .ok (.ireturn, 1) := by decide +kernel
theorem dX2_addCalibration_0 : decode cX2_addCalibration 0 = .ok (.iload_n 2, 1) := by decide +kernel
theorem dX2_addCalibration_1 : decode cX2_addCalibration 1 = .ok (.istore 5, 2) := by decide +kernel
theorem dX2_addCalibration_3 : decode cX2_addCalibration 3 = .ok (.iload 5, 2) := by decide +kernel
theorem dX2_addCalibration_5 : decode cX2_addCalibration 5 = .ok (.iload_n 3, 1) := by decide +kernel
theorem dX2_addCalibration_6 : decode cX2_addCalibration 6 = .ok (.if_icmp .gt 23, 3) := by decide +kernel
theorem dX2_addCalibration_9 : decode cX2_addCalibration 9 = .ok (.aload_n 0, 1) := by decide +kernel
theorem dX2_addCalibration_10 : decode cX2_addCalibration 10 = .ok (.getfield 35, 3) := by decide +kernel
theorem dX2_addCalibration_13 : decode cX2_addCalibration 13 = .ok (.iload_n 1, 1) := by decide +kernel
theorem dX2_addCalibration_14 : decode cX2_addCalibration 14 = .ok (.aaload, 1) := by decide +kernel
theorem dX2_addCalibration_15 : decode cX2_addCalibration 15 = .ok (.iload 5, 2) := by decide +kernel
theorem dX2_addCalibration_17 : decode cX2_addCalibration 17 = .ok (.dup2, 1) := by decide +kernel
theorem dX2_addCalibration_18 : decode cX2_addCalibration 18 = .ok (.iaload, 1) := by decide +kernel
theorem dX2_addCalibration_19 : decode cX2_addCalibration 19 = .ok (.iload 4, 2) := by decide +kernel
theorem dX2_addCalibration_21 : decode cX2_addCalibration 21 = .ok (.iadd, 1) := by decide +kernel
theorem dX2_addCalibration_22 : decode cX2_addCalibration 22 = .ok (.iastore, 1) := by decide +kernel
theorem dX2_addCalibration_23 : decode cX2_addCalibration 23 = .ok (.iinc 5 1, 3) := by decide +kernel
theorem dX2_addCalibration_26 : decode cX2_addCalibration 26 = .ok (.goto (-23), 3) := by decide +kernel
theorem dX2_addCalibration_29 : decode cX2_addCalibration 29 = .ok (.aload_n 0, 1) := by decide +kernel
theorem dX2_addCalibration_30 : decode cX2_addCalibration 30 = .ok (.getfield 27, 3) := by decide +kernel
theorem dX2_addCalibration_33 : decode cX2_addCalibration 33 = .ok (.iload_n 1, 1) := by decide +kernel
theorem dX2_addCalibration_34 : decode cX2_addCalibration 34 = .ok (.dup2, 1) := by decide +kernel
theorem dX2_addCalibration_35 : decode cX2_addCalibration 35 = .ok (.iaload, 1) := by decide +kernel
theorem dX2_addCalibration_36 : decode cX2_addCalibration 36 = .ok (.iconst 1, 1) := by decide +kernel
theorem dX2_addCalibration_37 : decode cX2_addCalibration 37 = .ok (.iadd, 1) := by decide +kernel
theorem dX2_addCalibration_38 : decode cX2_addCalibration 38 = .ok (.iastore, 1) := by decide +kernel
theorem dX2_addCalibration_39 : decode cX2_addCalibration 39 = .ok (.aload_n 0, 1) := by decide +kernel
theorem dX2_addCalibration_40 : decode cX2_addCalibration 40 = .ok (.getfield 27, 3) := by decide +kernel
theorem dX2_addCalibration_43 : decode cX2_addCalibration 43 = .ok (.iload_n 1, 1) := by decide +kernel
theorem dX2_addCalibration_44 : decode cX2_addCalibration 44 = .ok (.iaload, 1) := by decide +kernel
theorem dX2_addCalibration_45 : decode cX2_addCalibration 45 = .ok (.ireturn, 1) := by decide +kernel
set_option maxRecDepth 20000 in
theorem ggX2_measureAll_X1_phaseOf : GoodIn wsX2_measureAll wsX1_phaseOf := goodIn_r _ [11, 12, 22, 23, 24, 25, 26, 27] (by decide +kernel) (by decide +kernel)
set_option maxRecDepth 20000 in
theorem gX2_measureAll_X1_phaseOf : GoodIn wsX2_measureAll (wsV RX2 42 RX1 yX1_phaseOf wsX1_phaseOf) := goodIn_app (goodIn_of _ (by decide +kernel)) ggX2_measureAll_X1_phaseOf
theorem dX2_measureAll_0 : decode cX2_measureAll 0 = .ok (.iconst 0, 1) := by decide +kernel
theorem dX2_measureAll_1 : decode cX2_measureAll 1 = .ok (.istore_n 3, 1) := by decide +kernel
theorem dX2_measureAll_2 : decode cX2_measureAll 2 = .ok (.iload_n 3, 1) := by decide +kernel
theorem dX2_measureAll_3 : decode cX2_measureAll 3 = .ok (.aload_n 0, 1) := by decide +kernel
theorem dX2_measureAll_4 : decode cX2_measureAll 4 = .ok (.getfield 38, 3) := by decide +kernel
theorem dX2_measureAll_7 : decode cX2_measureAll 7 = .ok (.if_icmp .ge 60, 3) := by decide +kernel
theorem dX2_measureAll_10 : decode cX2_measureAll 10 = .ok (.aload_n 1, 1) := by decide +kernel
theorem dX2_measureAll_11 : decode cX2_measureAll 11 = .ok (.aload_n 0, 1) := by decide +kernel
theorem dX2_measureAll_12 : decode cX2_measureAll 12 = .ok (.getfield 9, 3) := by decide +kernel
theorem dX2_measureAll_15 : decode cX2_measureAll 15 = .ok (.iload_n 3, 1) := by decide +kernel
theorem dX2_measureAll_16 : decode cX2_measureAll 16 = .ok (.iaload, 1) := by decide +kernel
theorem dX2_measureAll_17 : decode cX2_measureAll 17 = .ok (.invokevirtual 42, 3) := by decide +kernel
theorem dX2_measureAll_20 : decode cX2_measureAll 20 = .ok (.aload_n 1, 1) := by decide +kernel
theorem dX2_measureAll_21 : decode cX2_measureAll 21 = .ok (.aload_n 0, 1) := by decide +kernel
theorem dX2_measureAll_22 : decode cX2_measureAll 22 = .ok (.getfield 15, 3) := by decide +kernel
theorem dX2_measureAll_25 : decode cX2_measureAll 25 = .ok (.iload_n 3, 1) := by decide +kernel
theorem dX2_measureAll_26 : decode cX2_measureAll 26 = .ok (.iaload, 1) := by decide +kernel
theorem dX2_measureAll_27 : decode cX2_measureAll 27 = .ok (.invokevirtual 42, 3) := by decide +kernel
theorem dX2_measureAll_30 : decode cX2_measureAll 30 = .ok (.isub, 1) := by decide +kernel
theorem dX2_measureAll_31 : decode cX2_measureAll 31 = .ok (.istore 4, 2) := by decide +kernel
theorem dX2_measureAll_33 : decode cX2_measureAll 33 = .ok (.aload_n 0, 1) := by decide +kernel
theorem dX2_measureAll_34 : decode cX2_measureAll 34 = .ok (.getfield 32, 3) := by decide +kernel
theorem dX2_measureAll_37 : decode cX2_measureAll 37 = .ok (.iload_n 3, 1) := by decide +kernel
theorem dX2_measureAll_38 : decode cX2_measureAll 38 = .ok (.aaload, 1) := by decide +kernel
theorem dX2_measureAll_39 : decode cX2_measureAll 39 = .ok (.iload_n 2, 1) := by decide +kernel
theorem dX2_measureAll_40 : decode cX2_measureAll 40 = .ok (.iload 4, 2) := by decide +kernel
theorem dX2_measureAll_42 : decode cX2_measureAll 42 = .ok (.aload_n 0, 1) := by decide +kernel
theorem dX2_measureAll_43 : decode cX2_measureAll 43 = .ok (.getfield 18, 3) := by decide +kernel
theorem dX2_measureAll_46 : decode cX2_measureAll 46 = .ok (.iload_n 3, 1) := by decide +kernel
theorem dX2_measureAll_47 : decode cX2_measureAll 47 = .ok (.iaload, 1) := by decide +kernel
theorem dX2_measureAll_48 : decode cX2_measureAll 48 = .ok (.iadd, 1) := by decide +kernel
theorem dX2_measureAll_49 : decode cX2_measureAll 49 = .ok (.sipush 1000, 3) := by decide +kernel
theorem dX2_measureAll_52 : decode cX2_measureAll 52 = .ok (.aload_n 0, 1) := by decide +kernel
theorem dX2_measureAll_53 : decode cX2_measureAll 53 = .ok (.getfield 21, 3) := by decide +kernel
theorem dX2_measureAll_56 : decode cX2_measureAll 56 = .ok (.iload_n 3, 1) := by decide +kernel
theorem dX2_measureAll_57 : decode cX2_measureAll 57 = .ok (.iaload, 1) := by decide +kernel
theorem dX2_measureAll_58 : decode cX2_measureAll 58 = .ok (.imul, 1) := by decide +kernel
theorem dX2_measureAll_59 : decode cX2_measureAll 59 = .ok (.iadd, 1) := by decide +kernel
theorem dX2_measureAll_60 : decode cX2_measureAll 60 = .ok (.iastore, 1) := by decide +kernel
theorem dX2_measureAll_61 : decode cX2_measureAll 61 = .ok (.iinc 3 1, 3) := by decide +kernel
theorem dX2_measureAll_64 : decode cX2_measureAll 64 = .ok (.goto (-62), 3) := by decide +kernel
theorem dX2_measureAll_67 : decode cX2_measureAll 67 = .ok (.return_, 1) := by decide +kernel
theorem dX2_rawOf_0 : decode cX2_rawOf 0 = .ok (.aload_n 0, 1) := by decide +kernel
theorem dX2_rawOf_1 : decode cX2_rawOf 1 = .ok (.getfield 32, 3) := by decide +kernel
theorem dX2_rawOf_4 : decode cX2_rawOf 4 = .ok (.iload_n 1, 1) := by decide +kernel
theorem dX2_rawOf_5 : decode cX2_rawOf 5 = .ok (.aaload, 1) := by decide +kernel
theorem dX2_rawOf_6 : decode cX2_rawOf 6 = .ok (.iload_n 2, 1) := by decide +kernel
theorem dX2_rawOf_7 : decode cX2_rawOf 7 = .ok (.iaload, 1) := by decide +kernel
theorem dX2_rawOf_8 : decode cX2_rawOf 8 = .ok (.ireturn, 1) := by decide +kernel
theorem dX2_correctedOf_0 : decode cX2_correctedOf 0 = .ok (.aload_n 0, 1) := by decide +kernel
theorem dX2_correctedOf_1 : decode cX2_correctedOf 1 = .ok (.getfield 32, 3) := by decide +kernel
theorem dX2_correctedOf_4 : decode cX2_correctedOf 4 = .ok (.iload_n 1, 1) := by decide +kernel
theorem dX2_correctedOf_5 : decode cX2_correctedOf 5 = .ok (.aaload, 1) := by decide +kernel
theorem dX2_correctedOf_6 : decode cX2_correctedOf 6 = .ok (.iload_n 2, 1) := by decide +kernel
theorem dX2_correctedOf_7 : decode cX2_correctedOf 7 = .ok (.iaload, 1) := by decide +kernel
theorem dX2_correctedOf_8 : decode cX2_correctedOf 8 = .ok (.aload_n 0, 1) := by decide +kernel
theorem dX2_correctedOf_9 : decode cX2_correctedOf 9 = .ok (.getfield 35, 3) := by decide +kernel
theorem dX2_correctedOf_12 : decode cX2_correctedOf 12 = .ok (.iload_n 1, 1) := by decide +kernel
theorem dX2_correctedOf_13 : decode cX2_correctedOf 13 = .ok (.aaload, 1) := by decide +kernel
theorem dX2_correctedOf_14 : decode cX2_correctedOf 14 = .ok (.iload_n 2, 1) := by decide +kernel
theorem dX2_correctedOf_15 : decode cX2_correctedOf 15 = .ok (.iaload, 1) := by decide +kernel
theorem dX2_correctedOf_16 : decode cX2_correctedOf 16 = .ok (.isub, 1) := by decide +kernel
theorem dX2_correctedOf_17 : decode cX2_correctedOf 17 = .ok (.ireturn, 1) := by decide +kernel
theorem dX2_otherThanZero_0 : decode cX2_otherThanZero 0 = .ok (.aload_n 0, 1) := by decide +kernel
theorem dX2_otherThanZero_1 : decode cX2_otherThanZero 1 = .ok (.getfield 9, 3) := by decide +kernel
theorem dX2_otherThanZero_4 : decode cX2_otherThanZero 4 = .ok (.iload_n 1, 1) := by decide +kernel
theorem dX2_otherThanZero_5 : decode cX2_otherThanZero 5 = .ok (.iaload, 1) := by decide +kernel
theorem dX2_otherThanZero_6 : decode cX2_otherThanZero 6 = .ok (.ifCond .ne 10, 3) := by decide +kernel
theorem dX2_otherThanZero_9 : decode cX2_otherThanZero 9 = .ok (.aload_n 0, 1) := by decide +kernel
theorem dX2_otherThanZero_10 : decode cX2_otherThanZero 10 = .ok (.getfield 15, 3) := by decide +kernel
theorem dX2_otherThanZero_13 : decode cX2_otherThanZero 13 = .ok (.iload_n 1, 1) := by decide +kernel
theorem dX2_otherThanZero_14 : decode cX2_otherThanZero 14 = .ok (.iaload, 1) := by decide +kernel
theorem dX2_otherThanZero_15 : decode cX2_otherThanZero 15 = .ok (.ireturn, 1) := by decide +kernel
theorem dX2_otherThanZero_16 : decode cX2_otherThanZero 16 = .ok (.aload_n 0, 1) := by decide +kernel
theorem dX2_otherThanZero_17 : decode cX2_otherThanZero 17 = .ok (.getfield 15, 3) := by decide +kernel
theorem dX2_otherThanZero_20 : decode cX2_otherThanZero 20 = .ok (.iload_n 1, 1) := by decide +kernel
theorem dX2_otherThanZero_21 : decode cX2_otherThanZero 21 = .ok (.iaload, 1) := by decide +kernel
theorem dX2_otherThanZero_22 : decode cX2_otherThanZero 22 = .ok (.ifCond .ne 12, 3) := by decide +kernel
theorem dX2_otherThanZero_25 : decode cX2_otherThanZero 25 = .ok (.aload_n 0, 1) := by decide +kernel
theorem dX2_otherThanZero_26 : decode cX2_otherThanZero 26 = .ok (.getfield 9, 3) := by decide +kernel
theorem dX2_otherThanZero_29 : decode cX2_otherThanZero 29 = .ok (.iload_n 1, 1) := by decide +kernel
theorem dX2_otherThanZero_30 : decode cX2_otherThanZero 30 = .ok (.iaload, 1) := by decide +kernel
theorem dX2_otherThanZero_31 : decode cX2_otherThanZero 31 = .ok (.goto 4, 3) := by decide +kernel
theorem dX2_otherThanZero_34 : decode cX2_otherThanZero 34 = .ok (.iconst (-1), 1) := by decide +kernel
theorem dX2_otherThanZero_35 : decode cX2_otherThanZero 35 = .ok (.ireturn, 1) := by decide +kernel
set_option maxRecDepth 20000 in
theorem ggX2_aheadOfZero_X2_correctedOf : GoodIn wsX2_aheadOfZero wsX2_correctedOf := goodIn_r _ [6, 7, 8, 9, 10, 11, 12, 13, 14, 15, 16, 17] (by decide +kernel) (by decide +kernel)
set_option maxRecDepth 20000 in
theorem gX2_aheadOfZero_X2_correctedOf : GoodIn wsX2_aheadOfZero (wsV RX2 48 RX2 yX2_correctedOf wsX2_correctedOf) := goodIn_app (goodIn_of _ (by decide +kernel)) ggX2_aheadOfZero_X2_correctedOf
theorem dX2_aheadOfZero_0 : decode cX2_aheadOfZero 0 = .ok (.aload_n 0, 1) := by decide +kernel
theorem dX2_aheadOfZero_1 : decode cX2_aheadOfZero 1 = .ok (.iload_n 1, 1) := by decide +kernel
theorem dX2_aheadOfZero_2 : decode cX2_aheadOfZero 2 = .ok (.iload_n 2, 1) := by decide +kernel
theorem dX2_aheadOfZero_3 : decode cX2_aheadOfZero 3 = .ok (.invokevirtual 48, 3) := by decide +kernel
theorem dX2_aheadOfZero_6 : decode cX2_aheadOfZero 6 = .ok (.istore_n 3, 1) := by decide +kernel
theorem dX2_aheadOfZero_7 : decode cX2_aheadOfZero 7 = .ok (.aload_n 0, 1) := by decide +kernel
theorem dX2_aheadOfZero_8 : decode cX2_aheadOfZero 8 = .ok (.getfield 9, 3) := by decide +kernel
theorem dX2_aheadOfZero_11 : decode cX2_aheadOfZero 11 = .ok (.iload_n 1, 1) := by decide +kernel
theorem dX2_aheadOfZero_12 : decode cX2_aheadOfZero 12 = .ok (.iaload, 1) := by decide +kernel
theorem dX2_aheadOfZero_13 : decode cX2_aheadOfZero 13 = .ok (.ifCond .ne 8, 3) := by decide +kernel
theorem dX2_aheadOfZero_16 : decode cX2_aheadOfZero 16 = .ok (.iload_n 3, 1) := by decide +kernel
theorem dX2_aheadOfZero_17 : decode cX2_aheadOfZero 17 = .ok (.ineg, 1) := by decide +kernel
theorem dX2_aheadOfZero_18 : decode cX2_aheadOfZero 18 = .ok (.goto 4, 3) := by decide +kernel
theorem dX2_aheadOfZero_21 : decode cX2_aheadOfZero 21 = .ok (.iload_n 3, 1) := by decide +kernel
theorem dX2_aheadOfZero_22 : decode cX2_aheadOfZero 22 = .ok (.ireturn, 1) := by decide +kernel
set_option maxRecDepth 20000 in
theorem ggX2_areRing_X2_bothBits : GoodIn wsX2_areRing wsX2_bothBits := goodIn_r _ [5, 6, 7, 8, 9, 10, 11, 12, 13, 14, 15, 16] (by decide +kernel) (by decide +kernel)
set_option maxRecDepth 20000 in
theorem gX2_areRing_X2_bothBits : GoodIn wsX2_areRing (wsV RX2 52 RX2 yX2_bothBits wsX2_bothBits) := goodIn_app (goodIn_of _ (by decide +kernel)) ggX2_areRing_X2_bothBits
theorem dX2_areRing_0 : decode cX2_areRing 0 = .ok (.aload_n 0, 1) := by decide +kernel
theorem dX2_areRing_1 : decode cX2_areRing 1 = .ok (.iload_n 1, 1) := by decide +kernel
theorem dX2_areRing_2 : decode cX2_areRing 2 = .ok (.invokevirtual 52, 3) := by decide +kernel
theorem dX2_areRing_5 : decode cX2_areRing 5 = .ok (.aload_n 0, 1) := by decide +kernel
theorem dX2_areRing_6 : decode cX2_areRing 6 = .ok (.iload_n 2, 1) := by decide +kernel
theorem dX2_areRing_7 : decode cX2_areRing 7 = .ok (.invokevirtual 52, 3) := by decide +kernel
theorem dX2_areRing_10 : decode cX2_areRing 10 = .ok (.ixor, 1) := by decide +kernel
theorem dX2_areRing_11 : decode cX2_areRing 11 = .ok (.aload_n 0, 1) := by decide +kernel
theorem dX2_areRing_12 : decode cX2_areRing 12 = .ok (.iload_n 3, 1) := by decide +kernel
theorem dX2_areRing_13 : decode cX2_areRing 13 = .ok (.invokevirtual 52, 3) := by decide +kernel
theorem dX2_areRing_16 : decode cX2_areRing 16 = .ok (.ixor, 1) := by decide +kernel
theorem dX2_areRing_17 : decode cX2_areRing 17 = .ok (.ifCond .ne 7, 3) := by decide +kernel
theorem dX2_areRing_20 : decode cX2_areRing 20 = .ok (.iconst 1, 1) := by decide +kernel
theorem dX2_areRing_21 : decode cX2_areRing 21 = .ok (.goto 4, 3) := by decide +kernel
theorem dX2_areRing_24 : decode cX2_areRing 24 = .ok (.iconst 0, 1) := by decide +kernel
theorem dX2_areRing_25 : decode cX2_areRing 25 = .ok (.ireturn, 1) := by decide +kernel
theorem dX2_bothBits_0 : decode cX2_bothBits 0 = .ok (.iconst 1, 1) := by decide +kernel
theorem dX2_bothBits_1 : decode cX2_bothBits 1 = .ok (.aload_n 0, 1) := by decide +kernel
theorem dX2_bothBits_2 : decode cX2_bothBits 2 = .ok (.getfield 9, 3) := by decide +kernel
theorem dX2_bothBits_5 : decode cX2_bothBits 5 = .ok (.iload_n 1, 1) := by decide +kernel
theorem dX2_bothBits_6 : decode cX2_bothBits 6 = .ok (.iaload, 1) := by decide +kernel
theorem dX2_bothBits_7 : decode cX2_bothBits 7 = .ok (.ishl, 1) := by decide +kernel
theorem dX2_bothBits_8 : decode cX2_bothBits 8 = .ok (.iconst 1, 1) := by decide +kernel
theorem dX2_bothBits_9 : decode cX2_bothBits 9 = .ok (.aload_n 0, 1) := by decide +kernel
theorem dX2_bothBits_10 : decode cX2_bothBits 10 = .ok (.getfield 15, 3) := by decide +kernel
theorem dX2_bothBits_13 : decode cX2_bothBits 13 = .ok (.iload_n 1, 1) := by decide +kernel
theorem dX2_bothBits_14 : decode cX2_bothBits 14 = .ok (.iaload, 1) := by decide +kernel
theorem dX2_bothBits_15 : decode cX2_bothBits 15 = .ok (.ishl, 1) := by decide +kernel
theorem dX2_bothBits_16 : decode cX2_bothBits 16 = .ok (.ior, 1) := by decide +kernel
theorem dX2_bothBits_17 : decode cX2_bothBits 17 = .ok (.ireturn, 1) := by decide +kernel
theorem dX2_signBehind_0 : decode cX2_signBehind 0 = .ok (.aload_n 0, 1) := by decide +kernel
theorem dX2_signBehind_1 : decode cX2_signBehind 1 = .ok (.getfield 9, 3) := by decide +kernel
theorem dX2_signBehind_4 : decode cX2_signBehind 4 = .ok (.iload_n 2, 1) := by decide +kernel
theorem dX2_signBehind_5 : decode cX2_signBehind 5 = .ok (.iaload, 1) := by decide +kernel
theorem dX2_signBehind_6 : decode cX2_signBehind 6 = .ok (.aload_n 0, 1) := by decide +kernel
theorem dX2_signBehind_7 : decode cX2_signBehind 7 = .ok (.getfield 15, 3) := by decide +kernel
theorem dX2_signBehind_10 : decode cX2_signBehind 10 = .ok (.iload_n 1, 1) := by decide +kernel
theorem dX2_signBehind_11 : decode cX2_signBehind 11 = .ok (.iaload, 1) := by decide +kernel
theorem dX2_signBehind_12 : decode cX2_signBehind 12 = .ok (.if_icmp .eq 18, 3) := by decide +kernel
theorem dX2_signBehind_15 : decode cX2_signBehind 15 = .ok (.aload_n 0, 1) := by decide +kernel
theorem dX2_signBehind_16 : decode cX2_signBehind 16 = .ok (.getfield 15, 3) := by decide +kernel
theorem dX2_signBehind_19 : decode cX2_signBehind 19 = .ok (.iload_n 2, 1) := by decide +kernel
theorem dX2_signBehind_20 : decode cX2_signBehind 20 = .ok (.iaload, 1) := by decide +kernel
theorem dX2_signBehind_21 : decode cX2_signBehind 21 = .ok (.aload_n 0, 1) := by decide +kernel
theorem dX2_signBehind_22 : decode cX2_signBehind 22 = .ok (.getfield 9, 3) := by decide +kernel
theorem dX2_signBehind_25 : decode cX2_signBehind 25 = .ok (.iload_n 1, 1) := by decide +kernel
theorem dX2_signBehind_26 : decode cX2_signBehind 26 = .ok (.iaload, 1) := by decide +kernel
theorem dX2_signBehind_27 : decode cX2_signBehind 27 = .ok (.if_icmp .ne 7, 3) := by decide +kernel
theorem dX2_signBehind_30 : decode cX2_signBehind 30 = .ok (.iconst 1, 1) := by decide +kernel
theorem dX2_signBehind_31 : decode cX2_signBehind 31 = .ok (.goto 4, 3) := by decide +kernel
theorem dX2_signBehind_34 : decode cX2_signBehind 34 = .ok (.iconst (-1), 1) := by decide +kernel
theorem dX2_signBehind_35 : decode cX2_signBehind 35 = .ok (.ireturn, 1) := by decide +kernel
set_option maxRecDepth 20000 in
theorem ggX2_around_X2_correctedOf : GoodIn wsX2_around wsX2_correctedOf := goodIn_r _ [5, 6, 7, 14, 15, 16, 17, 18, 19, 20, 21, 22] (by decide +kernel) (by decide +kernel)
set_option maxRecDepth 20000 in
theorem gX2_around_X2_correctedOf : GoodIn wsX2_around (wsV RX2 48 RX2 yX2_correctedOf wsX2_correctedOf) := goodIn_app (goodIn_of _ (by decide +kernel)) ggX2_around_X2_correctedOf
set_option maxRecDepth 20000 in
theorem ggX2_around_X2_signBehind : GoodIn wsX2_around wsX2_signBehind := goodIn_r _ [11, 12, 13, 14, 15, 16, 17, 18, 19, 20, 21, 22] (by decide +kernel) (by decide +kernel)
set_option maxRecDepth 20000 in
theorem gX2_around_X2_signBehind : GoodIn wsX2_around (wsV RX2 55 RX2 yX2_signBehind wsX2_signBehind) := goodIn_app (goodIn_of _ (by decide +kernel)) ggX2_around_X2_signBehind
theorem dX2_around_0 : decode cX2_around 0 = .ok (.aload_n 0, 1) := by decide +kernel
theorem dX2_around_1 : decode cX2_around 1 = .ok (.iload_n 1, 1) := by decide +kernel
theorem dX2_around_2 : decode cX2_around 2 = .ok (.iload 4, 2) := by decide +kernel
theorem dX2_around_4 : decode cX2_around 4 = .ok (.invokevirtual 48, 3) := by decide +kernel
theorem dX2_around_7 : decode cX2_around 7 = .ok (.aload_n 0, 1) := by decide +kernel
theorem dX2_around_8 : decode cX2_around 8 = .ok (.iload_n 1, 1) := by decide +kernel
theorem dX2_around_9 : decode cX2_around 9 = .ok (.iload_n 2, 1) := by decide +kernel
theorem dX2_around_10 : decode cX2_around 10 = .ok (.invokevirtual 55, 3) := by decide +kernel
theorem dX2_around_13 : decode cX2_around 13 = .ok (.aload_n 0, 1) := by decide +kernel
theorem dX2_around_14 : decode cX2_around 14 = .ok (.iload_n 2, 1) := by decide +kernel
theorem dX2_around_15 : decode cX2_around 15 = .ok (.iload 4, 2) := by decide +kernel
theorem dX2_around_17 : decode cX2_around 17 = .ok (.invokevirtual 48, 3) := by decide +kernel
theorem dX2_around_20 : decode cX2_around 20 = .ok (.imul, 1) := by decide +kernel
theorem dX2_around_21 : decode cX2_around 21 = .ok (.iadd, 1) := by decide +kernel
theorem dX2_around_22 : decode cX2_around 22 = .ok (.aload_n 0, 1) := by decide +kernel
theorem dX2_around_23 : decode cX2_around 23 = .ok (.iload_n 1, 1) := by decide +kernel
theorem dX2_around_24 : decode cX2_around 24 = .ok (.iload_n 3, 1) := by decide +kernel
theorem dX2_around_25 : decode cX2_around 25 = .ok (.invokevirtual 55, 3) := by decide +kernel
theorem dX2_around_28 : decode cX2_around 28 = .ok (.aload_n 0, 1) := by decide +kernel
theorem dX2_around_29 : decode cX2_around 29 = .ok (.iload_n 3, 1) := by decide +kernel
theorem dX2_around_30 : decode cX2_around 30 = .ok (.iload 4, 2) := by decide +kernel
theorem dX2_around_32 : decode cX2_around 32 = .ok (.invokevirtual 48, 3) := by decide +kernel
theorem dX2_around_35 : decode cX2_around 35 = .ok (.imul, 1) := by decide +kernel
theorem dX2_around_36 : decode cX2_around 36 = .ok (.iadd, 1) := by decide +kernel
theorem dX2_around_37 : decode cX2_around 37 = .ok (.ireturn, 1) := by decide +kernel
theorem dX3_init_0 : decode cX3_init 0 = .ok (.aload_n 0, 1) := by decide +kernel
theorem dX3_init_1 : decode cX3_init 1 = .ok (.invokespecial 3, 3) := by decide +kernel
theorem dX3_init_4 : decode cX3_init 4 = .ok (.aload_n 0, 1) := by decide +kernel
theorem dX3_init_5 : decode cX3_init 5 = .ok (.bipush 56, 2) := by decide +kernel
theorem dX3_init_7 : decode cX3_init 7 = .ok (.newarray .int, 2) := by decide +kernel
theorem dX3_init_9 : decode cX3_init 9 = .ok (.putfield 9, 3) := by decide +kernel
theorem dX3_init_12 : decode cX3_init 12 = .ok (.aload_n 0, 1) := by decide +kernel
theorem dX3_init_13 : decode cX3_init 13 = .ok (.bipush 56, 2) := by decide +kernel
theorem dX3_init_15 : decode cX3_init 15 = .ok (.newarray .int, 2) := by decide +kernel
theorem dX3_init_17 : decode cX3_init 17 = .ok (.putfield 15, 3) := by decide +kernel
theorem dX3_init_20 : decode cX3_init 20 = .ok (.aload_n 0, 1) := by decide +kernel
theorem dX3_init_21 : decode cX3_init 21 = .ok (.bipush 56, 2) := by decide +kernel
theorem dX3_init_23 : decode cX3_init 23 = .ok (.newarray .int, 2) := by decide +kernel
theorem dX3_init_25 : decode cX3_init 25 = .ok (.putfield 18, 3) := by decide +kernel
theorem dX3_init_28 : decode cX3_init 28 = .ok (.aload_n 0, 1) := by decide +kernel
theorem dX3_init_29 : decode cX3_init 29 = .ok (.bipush 56, 2) := by decide +kernel
theorem dX3_init_31 : decode cX3_init 31 = .ok (.newarray .int, 2) := by decide +kernel
theorem dX3_init_33 : decode cX3_init 33 = .ok (.putfield 21, 3) := by decide +kernel
theorem dX3_init_36 : decode cX3_init 36 = .ok (.aload_n 0, 1) := by decide +kernel
theorem dX3_init_37 : decode cX3_init 37 = .ok (.bipush 56, 2) := by decide +kernel
theorem dX3_init_39 : decode cX3_init 39 = .ok (.newarray .int, 2) := by decide +kernel
theorem dX3_init_41 : decode cX3_init 41 = .ok (.putfield 24, 3) := by decide +kernel
theorem dX3_init_44 : decode cX3_init 44 = .ok (.aload_n 0, 1) := by decide +kernel
theorem dX3_init_45 : decode cX3_init 45 = .ok (.bipush 56, 2) := by decide +kernel
theorem dX3_init_47 : decode cX3_init 47 = .ok (.newarray .int, 2) := by decide +kernel
theorem dX3_init_49 : decode cX3_init 49 = .ok (.putfield 27, 3) := by decide +kernel
theorem dX3_init_52 : decode cX3_init 52 = .ok (.aload_n 0, 1) := by decide +kernel
theorem dX3_init_53 : decode cX3_init 53 = .ok (.iconst 0, 1) := by decide +kernel
theorem dX3_init_54 : decode cX3_init 54 = .ok (.putfield 30, 3) := by decide +kernel
theorem dX3_init_57 : decode cX3_init 57 = .ok (.aload_n 0, 1) := by decide +kernel
theorem dX3_init_58 : decode cX3_init 58 = .ok (.bipush 8, 2) := by decide +kernel
theorem dX3_init_60 : decode cX3_init 60 = .ok (.newarray .boolean, 2) := by decide +kernel
theorem dX3_init_62 : decode cX3_init 62 = .ok (.putfield 34, 3) := by decide +kernel
theorem dX3_init_65 : decode cX3_init 65 = .ok (.aload_n 0, 1) := by decide +kernel
theorem dX3_init_66 : decode cX3_init 66 = .ok (.bipush 8, 2) := by decide +kernel
theorem dX3_init_68 : decode cX3_init 68 = .ok (.newarray .int, 2) := by decide +kernel
theorem dX3_init_70 : decode cX3_init 70 = .ok (.putfield 38, 3) := by decide +kernel
theorem dX3_init_73 : decode cX3_init 73 = .ok (.aload_n 0, 1) := by decide +kernel
theorem dX3_init_74 : decode cX3_init 74 = .ok (.iconst 0, 1) := by decide +kernel
theorem dX3_init_75 : decode cX3_init 75 = .ok (.putfield 41, 3) := by decide +kernel
theorem dX3_init_78 : decode cX3_init 78 = .ok (.aload_n 0, 1) := by decide +kernel
theorem dX3_init_79 : decode cX3_init 79 = .ok (.iconst 0, 1) := by decide +kernel
theorem dX3_init_80 : decode cX3_init 80 = .ok (.putfield 44, 3) := by decide +kernel
theorem dX3_init_83 : decode cX3_init 83 = .ok (.aload_n 0, 1) := by decide +kernel
theorem dX3_init_84 : decode cX3_init 84 = .ok (.iconst (-1), 1) := by decide +kernel
theorem dX3_init_85 : decode cX3_init 85 = .ok (.putfield 47, 3) := by decide +kernel
theorem dX3_init_88 : decode cX3_init 88 = .ok (.return_, 1) := by decide +kernel
set_option maxRecDepth 20000 in
theorem ggX3_gather_X2_count : GoodIn wsX3_gather wsX2_count := goodIn_r _ [7, 8, 66, 67, 68, 69, 70, 71, 72, 73, 74] (by decide +kernel) (by decide +kernel)
set_option maxRecDepth 20000 in
theorem gX3_gather_X2_count : GoodIn wsX3_gather (wsV RX3 50 RX2 yX2_count wsX2_count) := goodIn_app (goodIn_of _ (by decide +kernel)) ggX3_gather_X2_count
set_option maxRecDepth 20000 in
theorem ggX3_gather_X2_isLaidBefore : GoodIn wsX3_gather wsX2_isLaidBefore := goodIn_r _ [12, 13, 66, 67, 68, 69, 70, 71, 72, 73, 74] (by decide +kernel) (by decide +kernel)
set_option maxRecDepth 20000 in
theorem gX3_gather_X2_isLaidBefore : GoodIn wsX3_gather (wsV RX3 55 RX2 yX2_isLaidBefore wsX2_isLaidBefore) := goodIn_app (goodIn_of _ (by decide +kernel)) ggX3_gather_X2_isLaidBefore
set_option maxRecDepth 20000 in
theorem ggX3_gather_X3_gatherFrom : GoodIn wsX3_gather wsX3_gatherFrom := goodIn_r _ [18, 3, 4, 5, 6, 7, 8, 19, 20, 21, 22, 23, 24, 25, 26, 27, 28, 9, 10, 11, 12, 13, 29, 30, 31, 17, 32, 1, 33, 34, 35, 36, 37, 38, 2, 39, 40, 41, 42, 43, 44, 45, 46, 47, 48, 49, 50, 51, 52, 53, 66, 67, 68, 69, 70, 71, 72, 73, 74, 54, 55, 56, 57, 58, 59, 60, 61, 62, 63, 64, 65] (by decide +kernel) (by decide +kernel)
set_option maxRecDepth 20000 in
theorem gX3_gather_X3_gatherFrom : GoodIn wsX3_gather (wsV RX3 59 RX3 yX3_gatherFrom wsX3_gatherFrom) := goodIn_app (goodIn_of _ (by decide +kernel)) ggX3_gather_X3_gatherFrom
theorem dX3_gather_0 : decode cX3_gather 0 = .ok (.aload_n 0, 1) := by decide +kernel
theorem dX3_gather_1 : decode cX3_gather 1 = .ok (.iconst 0, 1) := by decide +kernel
theorem dX3_gather_2 : decode cX3_gather 2 = .ok (.putfield 30, 3) := by decide +kernel
theorem dX3_gather_5 : decode cX3_gather 5 = .ok (.iconst 0, 1) := by decide +kernel
theorem dX3_gather_6 : decode cX3_gather 6 = .ok (.istore_n 3, 1) := by decide +kernel
theorem dX3_gather_7 : decode cX3_gather 7 = .ok (.iload_n 3, 1) := by decide +kernel
theorem dX3_gather_8 : decode cX3_gather 8 = .ok (.bipush 8, 2) := by decide +kernel
theorem dX3_gather_10 : decode cX3_gather 10 = .ok (.if_icmp .ge 16, 3) := by decide +kernel
theorem dX3_gather_13 : decode cX3_gather 13 = .ok (.aload_n 0, 1) := by decide +kernel
theorem dX3_gather_14 : decode cX3_gather 14 = .ok (.getfield 34, 3) := by decide +kernel
theorem dX3_gather_17 : decode cX3_gather 17 = .ok (.iload_n 3, 1) := by decide +kernel
theorem dX3_gather_18 : decode cX3_gather 18 = .ok (.iconst 0, 1) := by decide +kernel
theorem dX3_gather_19 : decode cX3_gather 19 = .ok (.bastore, 1) := by decide +kernel
theorem dX3_gather_20 : decode cX3_gather 20 = .ok (.iinc 3 1, 3) := by decide +kernel
theorem dX3_gather_23 : decode cX3_gather 23 = .ok (.goto (-16), 3) := by decide +kernel
theorem dX3_gather_26 : decode cX3_gather 26 = .ok (.iconst 0, 1) := by decide +kernel
theorem dX3_gather_27 : decode cX3_gather 27 = .ok (.istore_n 3, 1) := by decide +kernel
theorem dX3_gather_28 : decode cX3_gather 28 = .ok (.iload_n 3, 1) := by decide +kernel
theorem dX3_gather_29 : decode cX3_gather 29 = .ok (.aload_n 1, 1) := by decide +kernel
theorem dX3_gather_30 : decode cX3_gather 30 = .ok (.invokevirtual 50, 3) := by decide +kernel
theorem dX3_gather_33 : decode cX3_gather 33 = .ok (.if_icmp .ge 25, 3) := by decide +kernel
theorem dX3_gather_36 : decode cX3_gather 36 = .ok (.aload_n 1, 1) := by decide +kernel
theorem dX3_gather_37 : decode cX3_gather 37 = .ok (.iload_n 3, 1) := by decide +kernel
theorem dX3_gather_38 : decode cX3_gather 38 = .ok (.iload_n 2, 1) := by decide +kernel
theorem dX3_gather_39 : decode cX3_gather 39 = .ok (.invokevirtual 55, 3) := by decide +kernel
theorem dX3_gather_42 : decode cX3_gather 42 = .ok (.ifCond .eq 10, 3) := by decide +kernel
theorem dX3_gather_45 : decode cX3_gather 45 = .ok (.aload_n 0, 1) := by decide +kernel
theorem dX3_gather_46 : decode cX3_gather 46 = .ok (.iload_n 3, 1) := by decide +kernel
theorem dX3_gather_47 : decode cX3_gather 47 = .ok (.aload_n 1, 1) := by decide +kernel
theorem dX3_gather_48 : decode cX3_gather 48 = .ok (.iload_n 2, 1) := by decide +kernel
theorem dX3_gather_49 : decode cX3_gather 49 = .ok (.invokevirtual 59, 3) := by decide +kernel
theorem dX3_gather_52 : decode cX3_gather 52 = .ok (.iinc 3 1, 3) := by decide +kernel
theorem dX3_gather_55 : decode cX3_gather 55 = .ok (.goto (-27), 3) := by decide +kernel
theorem dX3_gather_58 : decode cX3_gather 58 = .ok (.return_, 1) := by decide +kernel
set_option maxRecDepth 20000 in
theorem ggX3_gatherFrom_X2_count : GoodIn wsX3_gatherFrom wsX2_count := goodIn_r _ [5, 6, 50, 51, 52, 53, 54, 55, 56, 57, 58] (by decide +kernel) (by decide +kernel)
set_option maxRecDepth 20000 in
theorem gX3_gatherFrom_X2_count : GoodIn wsX3_gatherFrom (wsV RX3 50 RX2 yX2_count wsX2_count) := goodIn_app (goodIn_of _ (by decide +kernel)) ggX3_gatherFrom_X2_count
set_option maxRecDepth 20000 in
theorem ggX3_gatherFrom_X2_areRing : GoodIn wsX3_gatherFrom wsX2_areRing := goodIn_r _ [10, 11, 12, 13, 4, 14, 15, 16, 50, 51, 52, 53, 54, 55, 56, 57, 58] (by decide +kernel) (by decide +kernel)
set_option maxRecDepth 20000 in
theorem gX3_gatherFrom_X2_areRing : GoodIn wsX3_gatherFrom (wsV RX3 63 RX2 yX2_areRing wsX2_areRing) := goodIn_app (goodIn_of _ (by decide +kernel)) ggX3_gatherFrom_X2_areRing
set_option maxRecDepth 20000 in
theorem ggX3_gatherFrom_X2_isLaidBefore : GoodIn wsX3_gatherFrom wsX2_isLaidBefore := goodIn_r _ [20, 21, 50, 51, 52, 53, 54, 55, 56, 57, 58] (by decide +kernel) (by decide +kernel)
set_option maxRecDepth 20000 in
theorem gX3_gatherFrom_X2_isLaidBefore : GoodIn wsX3_gatherFrom (wsV RX3 55 RX2 yX2_isLaidBefore wsX2_isLaidBefore) := goodIn_app (goodIn_of _ (by decide +kernel)) ggX3_gatherFrom_X2_isLaidBefore
set_option maxRecDepth 20000 in
theorem ggX3_gatherFrom_X3_add : GoodIn wsX3_gatherFrom wsX3_add := goodIn_r _ [26, 27, 28, 29, 30, 31, 32, 33, 34, 35, 36, 37, 4, 38, 15, 16, 39, 40, 41, 42, 43, 44, 45, 46, 47, 48, 49, 59, 60, 61, 62, 63, 64, 65, 66, 67, 68, 69, 70, 50, 51, 52, 53, 54, 55, 56, 57, 58] (by decide +kernel) (by decide +kernel)
set_option maxRecDepth 20000 in
theorem gX3_gatherFrom_X3_add : GoodIn wsX3_gatherFrom (wsV RX3 67 RX3 yX3_add wsX3_add) := goodIn_app (goodIn_of _ (by decide +kernel)) ggX3_gatherFrom_X3_add
theorem dX3_gatherFrom_0 : decode cX3_gatherFrom 0 = .ok (.iload_n 1, 1) := by decide +kernel
theorem dX3_gatherFrom_1 : decode cX3_gatherFrom 1 = .ok (.iconst 1, 1) := by decide +kernel
theorem dX3_gatherFrom_2 : decode cX3_gatherFrom 2 = .ok (.iadd, 1) := by decide +kernel
theorem dX3_gatherFrom_3 : decode cX3_gatherFrom 3 = .ok (.istore 4, 2) := by decide +kernel
theorem dX3_gatherFrom_5 : decode cX3_gatherFrom 5 = .ok (.iload 4, 2) := by decide +kernel
theorem dX3_gatherFrom_7 : decode cX3_gatherFrom 7 = .ok (.aload_n 2, 1) := by decide +kernel
theorem dX3_gatherFrom_8 : decode cX3_gatherFrom 8 = .ok (.invokevirtual 50, 3) := by decide +kernel
theorem dX3_gatherFrom_11 : decode cX3_gatherFrom 11 = .ok (.if_icmp .ge 73, 3) := by decide +kernel
theorem dX3_gatherFrom_14 : decode cX3_gatherFrom 14 = .ok (.iload 4, 2) := by decide +kernel
theorem dX3_gatherFrom_16 : decode cX3_gatherFrom 16 = .ok (.iconst 1, 1) := by decide +kernel
theorem dX3_gatherFrom_17 : decode cX3_gatherFrom 17 = .ok (.iadd, 1) := by decide +kernel
theorem dX3_gatherFrom_18 : decode cX3_gatherFrom 18 = .ok (.istore 5, 2) := by decide +kernel
theorem dX3_gatherFrom_20 : decode cX3_gatherFrom 20 = .ok (.iload 5, 2) := by decide +kernel
theorem dX3_gatherFrom_22 : decode cX3_gatherFrom 22 = .ok (.aload_n 2, 1) := by decide +kernel
theorem dX3_gatherFrom_23 : decode cX3_gatherFrom 23 = .ok (.invokevirtual 50, 3) := by decide +kernel
theorem dX3_gatherFrom_26 : decode cX3_gatherFrom 26 = .ok (.if_icmp .ge 52, 3) := by decide +kernel
theorem dX3_gatherFrom_29 : decode cX3_gatherFrom 29 = .ok (.aload_n 2, 1) := by decide +kernel
theorem dX3_gatherFrom_30 : decode cX3_gatherFrom 30 = .ok (.iload_n 1, 1) := by decide +kernel
theorem dX3_gatherFrom_31 : decode cX3_gatherFrom 31 = .ok (.iload 4, 2) := by decide +kernel
theorem dX3_gatherFrom_33 : decode cX3_gatherFrom 33 = .ok (.iload 5, 2) := by decide +kernel
theorem dX3_gatherFrom_35 : decode cX3_gatherFrom 35 = .ok (.invokevirtual 63, 3) := by decide +kernel
theorem dX3_gatherFrom_38 : decode cX3_gatherFrom 38 = .ok (.ifCond .eq 34, 3) := by decide +kernel
theorem dX3_gatherFrom_41 : decode cX3_gatherFrom 41 = .ok (.aload_n 2, 1) := by decide +kernel
theorem dX3_gatherFrom_42 : decode cX3_gatherFrom 42 = .ok (.iload 4, 2) := by decide +kernel
theorem dX3_gatherFrom_44 : decode cX3_gatherFrom 44 = .ok (.iload_n 3, 1) := by decide +kernel
theorem dX3_gatherFrom_45 : decode cX3_gatherFrom 45 = .ok (.invokevirtual 55, 3) := by decide +kernel
theorem dX3_gatherFrom_48 : decode cX3_gatherFrom 48 = .ok (.ifCond .eq 24, 3) := by decide +kernel
theorem dX3_gatherFrom_51 : decode cX3_gatherFrom 51 = .ok (.aload_n 2, 1) := by decide +kernel
theorem dX3_gatherFrom_52 : decode cX3_gatherFrom 52 = .ok (.iload 5, 2) := by decide +kernel
theorem dX3_gatherFrom_54 : decode cX3_gatherFrom 54 = .ok (.iload_n 3, 1) := by decide +kernel
theorem dX3_gatherFrom_55 : decode cX3_gatherFrom 55 = .ok (.invokevirtual 55, 3) := by decide +kernel
theorem dX3_gatherFrom_58 : decode cX3_gatherFrom 58 = .ok (.ifCond .eq 14, 3) := by decide +kernel
theorem dX3_gatherFrom_61 : decode cX3_gatherFrom 61 = .ok (.aload_n 0, 1) := by decide +kernel
theorem dX3_gatherFrom_62 : decode cX3_gatherFrom 62 = .ok (.iload_n 1, 1) := by decide +kernel
theorem dX3_gatherFrom_63 : decode cX3_gatherFrom 63 = .ok (.iload 4, 2) := by decide +kernel
theorem dX3_gatherFrom_65 : decode cX3_gatherFrom 65 = .ok (.iload 5, 2) := by decide +kernel
theorem dX3_gatherFrom_67 : decode cX3_gatherFrom 67 = .ok (.aload_n 2, 1) := by decide +kernel
theorem dX3_gatherFrom_68 : decode cX3_gatherFrom 68 = .ok (.iload_n 3, 1) := by decide +kernel
theorem dX3_gatherFrom_69 : decode cX3_gatherFrom 69 = .ok (.invokevirtual 67, 3) := by decide +kernel
theorem dX3_gatherFrom_72 : decode cX3_gatherFrom 72 = .ok (.iinc 5 1, 3) := by decide +kernel
theorem dX3_gatherFrom_75 : decode cX3_gatherFrom 75 = .ok (.goto (-55), 3) := by decide +kernel
theorem dX3_gatherFrom_78 : decode cX3_gatherFrom 78 = .ok (.iinc 4 1, 3) := by decide +kernel
theorem dX3_gatherFrom_81 : decode cX3_gatherFrom 81 = .ok (.goto (-76), 3) := by decide +kernel
theorem dX3_gatherFrom_84 : decode cX3_gatherFrom 84 = .ok (.return_, 1) := by decide +kernel
set_option maxRecDepth 20000 in
theorem ggX3_add_X2_signBehind : GoodIn wsX3_add wsX2_signBehind := goodIn_r _ [13, 14, 15, 39, 40, 41, 42, 43, 44, 45, 46, 47] (by decide +kernel) (by decide +kernel)
set_option maxRecDepth 20000 in
theorem gX3_add_X2_signBehind : GoodIn wsX3_add (wsV RX3 71 RX2 yX2_signBehind wsX2_signBehind) := goodIn_app (goodIn_of _ (by decide +kernel)) ggX3_add_X2_signBehind
set_option maxRecDepth 20000 in
theorem ggX3_add_X2_around : GoodIn wsX3_add wsX2_around := goodIn_r _ [19, 20, 21, 22, 12, 23, 24, 25, 26, 10, 11, 13, 14, 15, 39, 40, 41, 42, 43, 44, 45, 46, 47] (by decide +kernel) (by decide +kernel)
set_option maxRecDepth 20000 in
theorem gX3_add_X2_around : GoodIn wsX3_add (wsV RX3 75 RX2 yX2_around wsX2_around) := goodIn_app (goodIn_of _ (by decide +kernel)) ggX3_add_X2_around
theorem dX3_add_0 : decode cX3_add 0 = .ok (.aload_n 0, 1) := by decide +kernel
theorem dX3_add_1 : decode cX3_add 1 = .ok (.getfield 30, 3) := by decide +kernel
theorem dX3_add_4 : decode cX3_add 4 = .ok (.bipush 56, 2) := by decide +kernel
theorem dX3_add_6 : decode cX3_add 6 = .ok (.if_icmp .lt 4, 3) := by decide +kernel
theorem dX3_add_9 : decode cX3_add 9 = .ok (.return_, 1) := by decide +kernel
theorem dX3_add_10 : decode cX3_add 10 = .ok (.aload_n 0, 1) := by decide +kernel
theorem dX3_add_11 : decode cX3_add 11 = .ok (.getfield 9, 3) := by decide +kernel
theorem dX3_add_14 : decode cX3_add 14 = .ok (.aload_n 0, 1) := by decide +kernel
theorem dX3_add_15 : decode cX3_add 15 = .ok (.getfield 30, 3) := by decide +kernel
theorem dX3_add_18 : decode cX3_add 18 = .ok (.iload_n 1, 1) := by decide +kernel
theorem dX3_add_19 : decode cX3_add 19 = .ok (.iastore, 1) := by decide +kernel
theorem dX3_add_20 : decode cX3_add 20 = .ok (.aload_n 0, 1) := by decide +kernel
theorem dX3_add_21 : decode cX3_add 21 = .ok (.getfield 15, 3) := by decide +kernel
theorem dX3_add_24 : decode cX3_add 24 = .ok (.aload_n 0, 1) := by decide +kernel
theorem dX3_add_25 : decode cX3_add 25 = .ok (.getfield 30, 3) := by decide +kernel
theorem dX3_add_28 : decode cX3_add 28 = .ok (.iload_n 2, 1) := by decide +kernel
theorem dX3_add_29 : decode cX3_add 29 = .ok (.iastore, 1) := by decide +kernel
theorem dX3_add_30 : decode cX3_add 30 = .ok (.aload_n 0, 1) := by decide +kernel
theorem dX3_add_31 : decode cX3_add 31 = .ok (.getfield 18, 3) := by decide +kernel
theorem dX3_add_34 : decode cX3_add 34 = .ok (.aload_n 0, 1) := by decide +kernel
theorem dX3_add_35 : decode cX3_add 35 = .ok (.getfield 30, 3) := by decide +kernel
theorem dX3_add_38 : decode cX3_add 38 = .ok (.iload_n 3, 1) := by decide +kernel
theorem dX3_add_39 : decode cX3_add 39 = .ok (.iastore, 1) := by decide +kernel
theorem dX3_add_40 : decode cX3_add 40 = .ok (.aload_n 0, 1) := by decide +kernel
theorem dX3_add_41 : decode cX3_add 41 = .ok (.getfield 21, 3) := by decide +kernel
theorem dX3_add_44 : decode cX3_add 44 = .ok (.aload_n 0, 1) := by decide +kernel
theorem dX3_add_45 : decode cX3_add 45 = .ok (.getfield 30, 3) := by decide +kernel
theorem dX3_add_48 : decode cX3_add 48 = .ok (.aload 4, 2) := by decide +kernel
theorem dX3_add_50 : decode cX3_add 50 = .ok (.iload_n 1, 1) := by decide +kernel
theorem dX3_add_51 : decode cX3_add 51 = .ok (.iload_n 2, 1) := by decide +kernel
theorem dX3_add_52 : decode cX3_add 52 = .ok (.invokevirtual 71, 3) := by decide +kernel
theorem dX3_add_55 : decode cX3_add 55 = .ok (.iastore, 1) := by decide +kernel
theorem dX3_add_56 : decode cX3_add 56 = .ok (.aload_n 0, 1) := by decide +kernel
theorem dX3_add_57 : decode cX3_add 57 = .ok (.getfield 24, 3) := by decide +kernel
theorem dX3_add_60 : decode cX3_add 60 = .ok (.aload_n 0, 1) := by decide +kernel
theorem dX3_add_61 : decode cX3_add 61 = .ok (.getfield 30, 3) := by decide +kernel
theorem dX3_add_64 : decode cX3_add 64 = .ok (.aload 4, 2) := by decide +kernel
theorem dX3_add_66 : decode cX3_add 66 = .ok (.iload_n 1, 1) := by decide +kernel
theorem dX3_add_67 : decode cX3_add 67 = .ok (.iload_n 3, 1) := by decide +kernel
theorem dX3_add_68 : decode cX3_add 68 = .ok (.invokevirtual 71, 3) := by decide +kernel
theorem dX3_add_71 : decode cX3_add 71 = .ok (.iastore, 1) := by decide +kernel
theorem dX3_add_72 : decode cX3_add 72 = .ok (.aload_n 0, 1) := by decide +kernel
theorem dX3_add_73 : decode cX3_add 73 = .ok (.getfield 27, 3) := by decide +kernel
theorem dX3_add_76 : decode cX3_add 76 = .ok (.aload_n 0, 1) := by decide +kernel
theorem dX3_add_77 : decode cX3_add 77 = .ok (.getfield 30, 3) := by decide +kernel
theorem dX3_add_80 : decode cX3_add 80 = .ok (.aload 4, 2) := by decide +kernel
theorem dX3_add_82 : decode cX3_add 82 = .ok (.iload_n 1, 1) := by decide +kernel
theorem dX3_add_83 : decode cX3_add 83 = .ok (.iload_n 2, 1) := by decide +kernel
theorem dX3_add_84 : decode cX3_add 84 = .ok (.iload_n 3, 1) := by decide +kernel
theorem dX3_add_85 : decode cX3_add 85 = .ok (.iload 5, 2) := by decide +kernel
theorem dX3_add_87 : decode cX3_add 87 = .ok (.invokevirtual 75, 3) := by decide +kernel
theorem dX3_add_90 : decode cX3_add 90 = .ok (.iastore, 1) := by decide +kernel
theorem dX3_add_91 : decode cX3_add 91 = .ok (.aload_n 0, 1) := by decide +kernel
theorem dX3_add_92 : decode cX3_add 92 = .ok (.getfield 34, 3) := by decide +kernel
theorem dX3_add_95 : decode cX3_add 95 = .ok (.iload_n 1, 1) := by decide +kernel
theorem dX3_add_96 : decode cX3_add 96 = .ok (.iconst 1, 1) := by decide +kernel
theorem dX3_add_97 : decode cX3_add 97 = .ok (.bastore, 1) := by decide +kernel
theorem dX3_add_98 : decode cX3_add 98 = .ok (.aload_n 0, 1) := by decide +kernel
theorem dX3_add_99 : decode cX3_add 99 = .ok (.getfield 34, 3) := by decide +kernel
theorem dX3_add_102 : decode cX3_add 102 = .ok (.iload_n 2, 1) := by decide +kernel
theorem dX3_add_103 : decode cX3_add 103 = .ok (.iconst 1, 1) := by decide +kernel
theorem dX3_add_104 : decode cX3_add 104 = .ok (.bastore, 1) := by decide +kernel
theorem dX3_add_105 : decode cX3_add 105 = .ok (.aload_n 0, 1) := by decide +kernel
theorem dX3_add_106 : decode cX3_add 106 = .ok (.getfield 34, 3) := by decide +kernel
theorem dX3_add_109 : decode cX3_add 109 = .ok (.iload_n 3, 1) := by decide +kernel
theorem dX3_add_110 : decode cX3_add 110 = .ok (.iconst 1, 1) := by decide +kernel
theorem dX3_add_111 : decode cX3_add 111 = .ok (.bastore, 1) := by decide +kernel
theorem dX3_add_112 : decode cX3_add 112 = .ok (.aload_n 0, 1) := by decide +kernel
theorem dX3_add_113 : decode cX3_add 113 = .ok (.dup, 1) := by decide +kernel
theorem dX3_add_114 : decode cX3_add 114 = .ok (.getfield 30, 3) := by decide +kernel
theorem dX3_add_117 : decode cX3_add 117 = .ok (.iconst 1, 1) := by decide +kernel
theorem dX3_add_118 : decode cX3_add 118 = .ok (.iadd, 1) := by decide +kernel
theorem dX3_add_119 : decode cX3_add 119 = .ok (.putfield 30, 3) := by decide +kernel
theorem dX3_add_122 : decode cX3_add 122 = .ok (.return_, 1) := by decide +kernel
