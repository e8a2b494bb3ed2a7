theorem dX4_clock_0 : decode cX4_clock 0 = .ok (.iload_n 1, 1) := by decide +kernel
theorem dX4_clock_1 : decode cX4_clock 1 = .ok (.sipush (-500), 3) := by decide +kernel
theorem dX4_clock_4 : decode cX4_clock 4 = .ok (.sipush 500, 3) := by decide +kernel
theorem dX4_clock_7 : decode cX4_clock 7 = .ok (.invokestatic 59, 3) := by decide +kernel
theorem dX4_clock_10 : decode cX4_clock 10 = .ok (.ifCond .eq 14, 3) := by decide +kernel
theorem dX4_clock_13 : decode cX4_clock 13 = .ok (.iload_n 2, 1) := by decide +kernel
theorem dX4_clock_14 : decode cX4_clock 14 = .ok (.iconst 0, 1) := by decide +kernel
theorem dX4_clock_15 : decode cX4_clock 15 = .ok (.sipush 5000, 3) := by decide +kernel
theorem dX4_clock_18 : decode cX4_clock 18 = .ok (.invokestatic 59, 3) := by decide +kernel
theorem dX4_clock_21 : decode cX4_clock 21 = .ok (.ifCond .ne 13, 3) := by decide +kernel
theorem dX4_clock_24 : decode cX4_clock 24 = .ok (.new 63, 3) := by decide +kernel
theorem dX4_clock_27 : decode cX4_clock 27 = .ok (.dup, 1) := by decide +kernel
theorem dX4_clock_28 : decode cX4_clock 28 = .ok (.ldc 65, 2) := by decide +kernel
theorem dX4_clock_30 : decode cX4_clock 30 = .ok (.invokespecial 67, 3) := by decide +kernel
theorem dX4_clock_33 : decode cX4_clock 33 = .ok (.athrow, 1) := by decide +kernel
theorem dX4_clock_34 : decode cX4_clock 34 = .ok (.aload_n 0, 1) := by decide +kernel
theorem dX4_clock_35 : decode cX4_clock 35 = .ok (.getfield 10, 3) := by decide +kernel
theorem dX4_clock_38 : decode cX4_clock 38 = .ok (.invokevirtual 70, 3) := by decide +kernel
theorem dX4_clock_41 : decode cX4_clock 41 = .ok (.bipush 6, 2) := by decide +kernel
theorem dX4_clock_43 : decode cX4_clock 43 = .ok (.if_icmp .lt 13, 3) := by decide +kernel
theorem dX4_clock_46 : decode cX4_clock 46 = .ok (.new 74, 3) := by decide +kernel
theorem dX4_clock_49 : decode cX4_clock 49 = .ok (.dup, 1) := by decide +kernel
theorem dX4_clock_50 : decode cX4_clock 50 = .ok (.ldc 76, 2) := by decide +kernel
theorem dX4_clock_52 : decode cX4_clock 52 = .ok (.invokespecial 78, 3) := by decide +kernel
theorem dX4_clock_55 : decode cX4_clock 55 = .ok (.athrow, 1) := by decide +kernel
theorem dX4_clock_56 : decode cX4_clock 56 = .ok (.aload_n 0, 1) := by decide +kernel
theorem dX4_clock_57 : decode cX4_clock 57 = .ok (.getfield 10, 3) := by decide +kernel
theorem dX4_clock_60 : decode cX4_clock 60 = .ok (.iload_n 1, 1) := by decide +kernel
theorem dX4_clock_61 : decode cX4_clock 61 = .ok (.iload_n 2, 1) := by decide +kernel
theorem dX4_clock_62 : decode cX4_clock 62 = .ok (.invokevirtual 79, 3) := by decide +kernel
theorem dX4_clock_65 : decode cX4_clock 65 = .ok (.ireturn, 1) := by decide +kernel
set_option maxRecDepth 20000 in
theorem ggX4_tell_X1_has : GoodIn wsX4_tell wsX1_has := goodIn_r _ [10, 11, 36, 37, 38, 39, 40, 41] (by decide +kernel) (by decide +kernel)
set_option maxRecDepth 20000 in
theorem gX4_tell_X1_has : GoodIn wsX4_tell (wsV RX4 83 RX1 yX1_has wsX1_has) := goodIn_app (goodIn_of _ (by decide +kernel)) ggX4_tell_X1_has
set_option maxRecDepth 20000 in
theorem ggX4_tell_X4_isWithin : GoodIn wsX4_tell wsX4_isWithin := goodIn_r _ [15] (by decide +kernel) (by decide +kernel)
set_option maxRecDepth 20000 in
theorem gX4_tell_X4_isWithin : GoodIn wsX4_tell (va_wsS RX4 59 yX4_isWithin wsX4_isWithin) := goodIn_app (goodIn_of _ (by decide +kernel)) ggX4_tell_X4_isWithin
set_option maxRecDepth 20000 in
theorem ggX4_tell_X1_weightOf : GoodIn wsX4_tell wsX1_weightOf := goodIn_r _ [19, 20, 36, 37, 38, 39, 40, 41] (by decide +kernel) (by decide +kernel)
set_option maxRecDepth 20000 in
theorem gX4_tell_X1_weightOf : GoodIn wsX4_tell (wsV RX4 94 RX1 yX1_weightOf wsX1_weightOf) := goodIn_app (goodIn_of _ (by decide +kernel)) ggX4_tell_X1_weightOf
set_option maxRecDepth 20000 in
theorem ggX4_tell_X1_setDriftAndWeight : GoodIn wsX4_tell wsX1_setDriftAndWeight := goodIn_r _ [24, 25, 20, 36, 37, 38, 39, 40, 41] (by decide +kernel) (by decide +kernel)
set_option maxRecDepth 20000 in
theorem gX4_tell_X1_setDriftAndWeight : GoodIn wsX4_tell (wsV RX4 98 RX1 yX1_setDriftAndWeight wsX1_setDriftAndWeight) := goodIn_app (goodIn_of _ (by decide +kernel)) ggX4_tell_X1_setDriftAndWeight
theorem dX4_tell_0 : decode cX4_tell 0 = .ok (.aload_n 0, 1) := by decide +kernel
theorem dX4_tell_1 : decode cX4_tell 1 = .ok (.getfield 10, 3) := by decide +kernel
theorem dX4_tell_4 : decode cX4_tell 4 = .ok (.iload_n 1, 1) := by decide +kernel
theorem dX4_tell_5 : decode cX4_tell 5 = .ok (.invokevirtual 83, 3) := by decide +kernel
theorem dX4_tell_8 : decode cX4_tell 8 = .ok (.ifCond .ne 13, 3) := by decide +kernel
theorem dX4_tell_11 : decode cX4_tell 11 = .ok (.new 87, 3) := by decide +kernel
theorem dX4_tell_14 : decode cX4_tell 14 = .ok (.dup, 1) := by decide +kernel
theorem dX4_tell_15 : decode cX4_tell 15 = .ok (.ldc 89, 2) := by decide +kernel
theorem dX4_tell_17 : decode cX4_tell 17 = .ok (.invokespecial 91, 3) := by decide +kernel
theorem dX4_tell_20 : decode cX4_tell 20 = .ok (.athrow, 1) := by decide +kernel
theorem dX4_tell_21 : decode cX4_tell 21 = .ok (.iload_n 2, 1) := by decide +kernel
theorem dX4_tell_22 : decode cX4_tell 22 = .ok (.bipush (-20), 2) := by decide +kernel
theorem dX4_tell_24 : decode cX4_tell 24 = .ok (.bipush 20, 2) := by decide +kernel
theorem dX4_tell_26 : decode cX4_tell 26 = .ok (.invokestatic 59, 3) := by decide +kernel
theorem dX4_tell_29 : decode cX4_tell 29 = .ok (.ifCond .eq 13, 3) := by decide +kernel
theorem dX4_tell_32 : decode cX4_tell 32 = .ok (.iload_n 3, 1) := by decide +kernel
theorem dX4_tell_33 : decode cX4_tell 33 = .ok (.iconst 0, 1) := by decide +kernel
theorem dX4_tell_34 : decode cX4_tell 34 = .ok (.bipush 100, 2) := by decide +kernel
theorem dX4_tell_36 : decode cX4_tell 36 = .ok (.invokestatic 59, 3) := by decide +kernel
theorem dX4_tell_39 : decode cX4_tell 39 = .ok (.ifCond .ne 13, 3) := by decide +kernel
theorem dX4_tell_42 : decode cX4_tell 42 = .ok (.new 63, 3) := by decide +kernel
theorem dX4_tell_45 : decode cX4_tell 45 = .ok (.dup, 1) := by decide +kernel
theorem dX4_tell_46 : decode cX4_tell 46 = .ok (.ldc 92, 2) := by decide +kernel
theorem dX4_tell_48 : decode cX4_tell 48 = .ok (.invokespecial 67, 3) := by decide +kernel
theorem dX4_tell_51 : decode cX4_tell 51 = .ok (.athrow, 1) := by decide +kernel
theorem dX4_tell_52 : decode cX4_tell 52 = .ok (.aload_n 0, 1) := by decide +kernel
theorem dX4_tell_53 : decode cX4_tell 53 = .ok (.getfield 10, 3) := by decide +kernel
theorem dX4_tell_56 : decode cX4_tell 56 = .ok (.iload_n 1, 1) := by decide +kernel
theorem dX4_tell_57 : decode cX4_tell 57 = .ok (.invokevirtual 94, 3) := by decide +kernel
theorem dX4_tell_60 : decode cX4_tell 60 = .ok (.istore 4, 2) := by decide +kernel
theorem dX4_tell_62 : decode cX4_tell 62 = .ok (.aload_n 0, 1) := by decide +kernel
theorem dX4_tell_63 : decode cX4_tell 63 = .ok (.getfield 10, 3) := by decide +kernel
theorem dX4_tell_66 : decode cX4_tell 66 = .ok (.iload_n 1, 1) := by decide +kernel
theorem dX4_tell_67 : decode cX4_tell 67 = .ok (.iload_n 2, 1) := by decide +kernel
theorem dX4_tell_68 : decode cX4_tell 68 = .ok (.iload_n 3, 1) := by decide +kernel
theorem dX4_tell_69 : decode cX4_tell 69 = .ok (.invokevirtual 98, 3) := by decide +kernel
theorem dX4_tell_72 : decode cX4_tell 72 = .ok (.iload 4, 2) := by decide +kernel
theorem dX4_tell_74 : decode cX4_tell 74 = .ok (.ireturn, 1) := by decide +kernel
set_option maxRecDepth 20000 in
theorem ggX4_link_X1_has : GoodIn wsX4_link wsX1_has := goodIn_r _ [14, 15, 44, 45, 46, 47, 48, 49] (by decide +kernel) (by decide +kernel)
set_option maxRecDepth 20000 in
theorem gX4_link_X1_has : GoodIn wsX4_link (wsV RX4 83 RX1 yX1_has wsX1_has) := goodIn_app (goodIn_of _ (by decide +kernel)) ggX4_link_X1_has
set_option maxRecDepth 20000 in
theorem ggX4_link_X4_isWithin : GoodIn wsX4_link wsX4_isWithin := goodIn_r _ [19] (by decide +kernel) (by decide +kernel)
set_option maxRecDepth 20000 in
theorem gX4_link_X4_isWithin : GoodIn wsX4_link (va_wsS RX4 59 yX4_isWithin wsX4_isWithin) := goodIn_app (goodIn_of _ (by decide +kernel)) ggX4_link_X4_isWithin
set_option maxRecDepth 20000 in
theorem ggX4_link_X2_count : GoodIn wsX4_link wsX2_count := goodIn_r _ [24, 25, 50, 51, 52, 53, 54, 55, 56, 57, 58] (by decide +kernel) (by decide +kernel)
set_option maxRecDepth 20000 in
theorem gX4_link_X2_count : GoodIn wsX4_link (wsV RX4 104 RX2 yX2_count wsX2_count) := goodIn_app (goodIn_of _ (by decide +kernel)) ggX4_link_X2_count
set_option maxRecDepth 20000 in
theorem ggX4_link_X2_add : GoodIn wsX4_link wsX2_add := goodIn_r _ [29, 25, 30, 31, 32, 33, 50, 51, 52, 53, 54, 55, 56, 57, 58] (by decide +kernel) (by decide +kernel)
set_option maxRecDepth 20000 in
theorem gX4_link_X2_add : GoodIn wsX4_link (wsV RX4 107 RX2 yX2_add wsX2_add) := goodIn_app (goodIn_of _ (by decide +kernel)) ggX4_link_X2_add
theorem dX4_link_0 : decode cX4_link 0 = .ok (.aload_n 0, 1) := by decide +kernel
theorem dX4_link_1 : decode cX4_link 1 = .ok (.getfield 10, 3) := by decide +kernel
theorem dX4_link_4 : decode cX4_link 4 = .ok (.iload_n 1, 1) := by decide +kernel
theorem dX4_link_5 : decode cX4_link 5 = .ok (.invokevirtual 83, 3) := by decide +kernel
theorem dX4_link_8 : decode cX4_link 8 = .ok (.ifCond .eq 14, 3) := by decide +kernel
theorem dX4_link_11 : decode cX4_link 11 = .ok (.aload_n 0, 1) := by decide +kernel
theorem dX4_link_12 : decode cX4_link 12 = .ok (.getfield 10, 3) := by decide +kernel
theorem dX4_link_15 : decode cX4_link 15 = .ok (.iload_n 2, 1) := by decide +kernel
theorem dX4_link_16 : decode cX4_link 16 = .ok (.invokevirtual 83, 3) := by decide +kernel
theorem dX4_link_19 : decode cX4_link 19 = .ok (.ifCond .ne 13, 3) := by decide +kernel
theorem dX4_link_22 : decode cX4_link 22 = .ok (.new 87, 3) := by decide +kernel
theorem dX4_link_25 : decode cX4_link 25 = .ok (.dup, 1) := by decide +kernel
theorem dX4_link_26 : decode cX4_link 26 = .ok (.ldc 89, 2) := by decide +kernel
theorem dX4_link_28 : decode cX4_link 28 = .ok (.invokespecial 91, 3) := by decide +kernel
theorem dX4_link_31 : decode cX4_link 31 = .ok (.athrow, 1) := by decide +kernel
theorem dX4_link_32 : decode cX4_link 32 = .ok (.iload_n 1, 1) := by decide +kernel
theorem dX4_link_33 : decode cX4_link 33 = .ok (.iload_n 2, 1) := by decide +kernel
theorem dX4_link_34 : decode cX4_link 34 = .ok (.if_icmp .eq 14, 3) := by decide +kernel
theorem dX4_link_37 : decode cX4_link 37 = .ok (.iload_n 3, 1) := by decide +kernel
theorem dX4_link_38 : decode cX4_link 38 = .ok (.bipush (-50), 2) := by decide +kernel
theorem dX4_link_40 : decode cX4_link 40 = .ok (.bipush 50, 2) := by decide +kernel
theorem dX4_link_42 : decode cX4_link 42 = .ok (.invokestatic 59, 3) := by decide +kernel
theorem dX4_link_45 : decode cX4_link 45 = .ok (.ifCond .ne 13, 3) := by decide +kernel
theorem dX4_link_48 : decode cX4_link 48 = .ok (.new 63, 3) := by decide +kernel
theorem dX4_link_51 : decode cX4_link 51 = .ok (.dup, 1) := by decide +kernel
theorem dX4_link_52 : decode cX4_link 52 = .ok (.ldc 102, 2) := by decide +kernel
theorem dX4_link_54 : decode cX4_link 54 = .ok (.invokespecial 67, 3) := by decide +kernel
theorem dX4_link_57 : decode cX4_link 57 = .ok (.athrow, 1) := by decide +kernel
theorem dX4_link_58 : decode cX4_link 58 = .ok (.aload_n 0, 1) := by decide +kernel
theorem dX4_link_59 : decode cX4_link 59 = .ok (.getfield 19, 3) := by decide +kernel
theorem dX4_link_62 : decode cX4_link 62 = .ok (.invokevirtual 104, 3) := by decide +kernel
theorem dX4_link_65 : decode cX4_link 65 = .ok (.bipush 8, 2) := by decide +kernel
theorem dX4_link_67 : decode cX4_link 67 = .ok (.if_icmp .lt 13, 3) := by decide +kernel
theorem dX4_link_70 : decode cX4_link 70 = .ok (.new 74, 3) := by decide +kernel
theorem dX4_link_73 : decode cX4_link 73 = .ok (.dup, 1) := by decide +kernel
theorem dX4_link_74 : decode cX4_link 74 = .ok (.ldc 105, 2) := by decide +kernel
theorem dX4_link_76 : decode cX4_link 76 = .ok (.invokespecial 78, 3) := by decide +kernel
theorem dX4_link_79 : decode cX4_link 79 = .ok (.athrow, 1) := by decide +kernel
theorem dX4_link_80 : decode cX4_link 80 = .ok (.aload_n 0, 1) := by decide +kernel
theorem dX4_link_81 : decode cX4_link 81 = .ok (.getfield 19, 3) := by decide +kernel
theorem dX4_link_84 : decode cX4_link 84 = .ok (.iload_n 1, 1) := by decide +kernel
theorem dX4_link_85 : decode cX4_link 85 = .ok (.iload_n 2, 1) := by decide +kernel
theorem dX4_link_86 : decode cX4_link 86 = .ok (.iload_n 3, 1) := by decide +kernel
theorem dX4_link_87 : decode cX4_link 87 = .ok (.aload_n 0, 1) := by decide +kernel
theorem dX4_link_88 : decode cX4_link 88 = .ok (.getfield 45, 3) := by decide +kernel
theorem dX4_link_91 : decode cX4_link 91 = .ok (.invokevirtual 107, 3) := by decide +kernel
theorem dX4_link_94 : decode cX4_link 94 = .ok (.ireturn, 1) := by decide +kernel
set_option maxRecDepth 20000 in
theorem ggX4_event_X4_isWithin : GoodIn wsX4_event wsX4_isWithin := goodIn_r _ [14] (by decide +kernel) (by decide +kernel)
set_option maxRecDepth 20000 in
theorem gX4_event_X4_isWithin : GoodIn wsX4_event (va_wsS RX4 59 yX4_isWithin wsX4_isWithin) := goodIn_app (goodIn_of _ (by decide +kernel)) ggX4_event_X4_isWithin
set_option maxRecDepth 20000 in
theorem ggX4_event_X1_has : GoodIn wsX4_event wsX1_has := goodIn_r _ [19, 20, 51, 52, 53, 54, 55, 56] (by decide +kernel) (by decide +kernel)
set_option maxRecDepth 20000 in
theorem gX4_event_X1_has : GoodIn wsX4_event (wsV RX4 83 RX1 yX1_has wsX1_has) := goodIn_app (goodIn_of _ (by decide +kernel)) ggX4_event_X1_has
set_option maxRecDepth 20000 in
theorem ggX4_event_X2_has : GoodIn wsX4_event wsX2_has := goodIn_r _ [25, 26, 57, 58, 59, 60, 61, 62, 63, 64, 65] (by decide +kernel) (by decide +kernel)
set_option maxRecDepth 20000 in
theorem gX4_event_X2_has : GoodIn wsX4_event (wsV RX4 112 RX2 yX2_has wsX2_has) := goodIn_app (goodIn_of _ (by decide +kernel)) ggX4_event_X2_has
set_option maxRecDepth 20000 in
theorem ggX4_event_X4_isAmountOf : GoodIn wsX4_event wsX4_isAmountOf := goodIn_r _ [29, 11, 12, 13, 14] (by decide +kernel) (by decide +kernel)
set_option maxRecDepth 20000 in
theorem gX4_event_X4_isAmountOf : GoodIn wsX4_event (va_wsS RX4 115 yX4_isAmountOf wsX4_isAmountOf) := goodIn_app (goodIn_of _ (by decide +kernel)) ggX4_event_X4_isAmountOf
set_option maxRecDepth 20000 in
theorem ggX4_event_X0_count : GoodIn wsX4_event wsX0_count := goodIn_r _ [34, 35, 66, 67] (by decide +kernel) (by decide +kernel)
set_option maxRecDepth 20000 in
theorem gX4_event_X0_count : GoodIn wsX4_event (wsV RX4 119 RX0 yX0_count wsX0_count) := goodIn_app (goodIn_of _ (by decide +kernel)) ggX4_event_X0_count
set_option maxRecDepth 20000 in
theorem ggX4_event_X0_add : GoodIn wsX4_event wsX0_add := goodIn_r _ [39, 35, 40, 66, 67] (by decide +kernel) (by decide +kernel)
set_option maxRecDepth 20000 in
theorem gX4_event_X0_add : GoodIn wsX4_event (wsV RX4 122 RX0 yX0_add wsX0_add) := goodIn_app (goodIn_of _ (by decide +kernel)) ggX4_event_X0_add
theorem dX4_event_0 : decode cX4_event 0 = .ok (.iload_n 1, 1) := by decide +kernel
theorem dX4_event_1 : decode cX4_event 1 = .ok (.aload_n 0, 1) := by decide +kernel
theorem dX4_event_2 : decode cX4_event 2 = .ok (.getfield 45, 3) := by decide +kernel
theorem dX4_event_5 : decode cX4_event 5 = .ok (.if_icmp .le 19, 3) := by decide +kernel
theorem dX4_event_8 : decode cX4_event 8 = .ok (.iload_n 1, 1) := by decide +kernel
theorem dX4_event_9 : decode cX4_event 9 = .ok (.sipush 500, 3) := by decide +kernel
theorem dX4_event_12 : decode cX4_event 12 = .ok (.if_icmp .gt 12, 3) := by decide +kernel
theorem dX4_event_15 : decode cX4_event 15 = .ok (.iload_n 2, 1) := by decide +kernel
theorem dX4_event_16 : decode cX4_event 16 = .ok (.iconst 0, 1) := by decide +kernel
theorem dX4_event_17 : decode cX4_event 17 = .ok (.iconst 3, 1) := by decide +kernel
theorem dX4_event_18 : decode cX4_event 18 = .ok (.invokestatic 59, 3) := by decide +kernel
theorem dX4_event_21 : decode cX4_event 21 = .ok (.ifCond .ne 13, 3) := by decide +kernel
theorem dX4_event_24 : decode cX4_event 24 = .ok (.new 63, 3) := by decide +kernel
theorem dX4_event_27 : decode cX4_event 27 = .ok (.dup, 1) := by decide +kernel
theorem dX4_event_28 : decode cX4_event 28 = .ok (.ldc 110, 2) := by decide +kernel
theorem dX4_event_30 : decode cX4_event 30 = .ok (.invokespecial 67, 3) := by decide +kernel
theorem dX4_event_33 : decode cX4_event 33 = .ok (.athrow, 1) := by decide +kernel
theorem dX4_event_34 : decode cX4_event 34 = .ok (.iload_n 2, 1) := by decide +kernel
theorem dX4_event_35 : decode cX4_event 35 = .ok (.ifCond .eq 8, 3) := by decide +kernel
theorem dX4_event_38 : decode cX4_event 38 = .ok (.iload_n 2, 1) := by decide +kernel
theorem dX4_event_39 : decode cX4_event 39 = .ok (.iconst 1, 1) := by decide +kernel
theorem dX4_event_40 : decode cX4_event 40 = .ok (.if_icmp .ne 7, 3) := by decide +kernel
theorem dX4_event_43 : decode cX4_event 43 = .ok (.iconst 1, 1) := by decide +kernel
theorem dX4_event_44 : decode cX4_event 44 = .ok (.goto 4, 3) := by decide +kernel
theorem dX4_event_47 : decode cX4_event 47 = .ok (.iconst 0, 1) := by decide +kernel
theorem dX4_event_48 : decode cX4_event 48 = .ok (.istore 5, 2) := by decide +kernel
theorem dX4_event_50 : decode cX4_event 50 = .ok (.iload 5, 2) := by decide +kernel
theorem dX4_event_52 : decode cX4_event 52 = .ok (.ifCond .eq 17, 3) := by decide +kernel
theorem dX4_event_55 : decode cX4_event 55 = .ok (.aload_n 0, 1) := by decide +kernel
theorem dX4_event_56 : decode cX4_event 56 = .ok (.getfield 10, 3) := by decide +kernel
theorem dX4_event_59 : decode cX4_event 59 = .ok (.iload_n 3, 1) := by decide +kernel
theorem dX4_event_60 : decode cX4_event 60 = .ok (.invokevirtual 83, 3) := by decide +kernel
theorem dX4_event_63 : decode cX4_event 63 = .ok (.ifCond .ne 27, 3) := by decide +kernel
theorem dX4_event_66 : decode cX4_event 66 = .ok (.goto 14, 3) := by decide +kernel
theorem dX4_event_69 : decode cX4_event 69 = .ok (.aload_n 0, 1) := by decide +kernel
theorem dX4_event_70 : decode cX4_event 70 = .ok (.getfield 19, 3) := by decide +kernel
theorem dX4_event_73 : decode cX4_event 73 = .ok (.iload_n 3, 1) := by decide +kernel
theorem dX4_event_74 : decode cX4_event 74 = .ok (.invokevirtual 112, 3) := by decide +kernel
theorem dX4_event_77 : decode cX4_event 77 = .ok (.ifCond .ne 13, 3) := by decide +kernel
theorem dX4_event_80 : decode cX4_event 80 = .ok (.new 87, 3) := by decide +kernel
theorem dX4_event_83 : decode cX4_event 83 = .ok (.dup, 1) := by decide +kernel
theorem dX4_event_84 : decode cX4_event 84 = .ok (.ldc 113, 2) := by decide +kernel
theorem dX4_event_86 : decode cX4_event 86 = .ok (.invokespecial 91, 3) := by decide +kernel
theorem dX4_event_89 : decode cX4_event 89 = .ok (.athrow, 1) := by decide +kernel
theorem dX4_event_90 : decode cX4_event 90 = .ok (.iload_n 2, 1) := by decide +kernel
theorem dX4_event_91 : decode cX4_event 91 = .ok (.iload 4, 2) := by decide +kernel
theorem dX4_event_93 : decode cX4_event 93 = .ok (.invokestatic 115, 3) := by decide +kernel
theorem dX4_event_96 : decode cX4_event 96 = .ok (.ifCond .eq 15, 3) := by decide +kernel
theorem dX4_event_99 : decode cX4_event 99 = .ok (.aload_n 0, 1) := by decide +kernel
theorem dX4_event_100 : decode cX4_event 100 = .ok (.getfield 26, 3) := by decide +kernel
theorem dX4_event_103 : decode cX4_event 103 = .ok (.invokevirtual 119, 3) := by decide +kernel
theorem dX4_event_106 : decode cX4_event 106 = .ok (.bipush 40, 2) := by decide +kernel
theorem dX4_event_108 : decode cX4_event 108 = .ok (.if_icmp .lt 13, 3) := by decide +kernel
theorem dX4_event_111 : decode cX4_event 111 = .ok (.new 74, 3) := by decide +kernel
theorem dX4_event_114 : decode cX4_event 114 = .ok (.dup, 1) := by decide +kernel
theorem dX4_event_115 : decode cX4_event 115 = .ok (.ldc 120, 2) := by decide +kernel
theorem dX4_event_117 : decode cX4_event 117 = .ok (.invokespecial 78, 3) := by decide +kernel
theorem dX4_event_120 : decode cX4_event 120 = .ok (.athrow, 1) := by decide +kernel
theorem dX4_event_121 : decode cX4_event 121 = .ok (.aload_n 0, 1) := by decide +kernel
theorem dX4_event_122 : decode cX4_event 122 = .ok (.getfield 26, 3) := by decide +kernel
theorem dX4_event_125 : decode cX4_event 125 = .ok (.iload_n 1, 1) := by decide +kernel
theorem dX4_event_126 : decode cX4_event 126 = .ok (.iload_n 2, 1) := by decide +kernel
theorem dX4_event_127 : decode cX4_event 127 = .ok (.iload_n 3, 1) := by decide +kernel
theorem dX4_event_128 : decode cX4_event 128 = .ok (.iload 4, 2) := by decide +kernel
theorem dX4_event_130 : decode cX4_event 130 = .ok (.invokevirtual 122, 3) := by decide +kernel
theorem dX4_event_133 : decode cX4_event 133 = .ok (.aload_n 0, 1) := by decide +kernel
theorem dX4_event_134 : decode cX4_event 134 = .ok (.getfield 26, 3) := by decide +kernel
theorem dX4_event_137 : decode cX4_event 137 = .ok (.invokevirtual 119, 3) := by decide +kernel
theorem dX4_event_140 : decode cX4_event 140 = .ok (.ireturn, 1) := by decide +kernel
set_option maxRecDepth 20000 in
theorem ggX4_calibrate_X2_has : GoodIn wsX4_calibrate wsX2_has := goodIn_r _ [12, 13, 38, 39, 40, 41, 42, 43, 44, 45, 46] (by decide +kernel) (by decide +kernel)
set_option maxRecDepth 20000 in
theorem gX4_calibrate_X2_has : GoodIn wsX4_calibrate (wsV RX4 112 RX2 yX2_has wsX2_has) := goodIn_app (goodIn_of _ (by decide +kernel)) ggX4_calibrate_X2_has
set_option maxRecDepth 20000 in
theorem ggX4_calibrate_X4_isWithin : GoodIn wsX4_calibrate wsX4_isWithin := goodIn_r _ [17] (by decide +kernel) (by decide +kernel)
set_option maxRecDepth 20000 in
theorem gX4_calibrate_X4_isWithin : GoodIn wsX4_calibrate (va_wsS RX4 59 yX4_isWithin wsX4_isWithin) := goodIn_app (goodIn_of _ (by decide +kernel)) ggX4_calibrate_X4_isWithin
set_option maxRecDepth 20000 in
theorem ggX4_calibrate_X2_calibrationsOf : GoodIn wsX4_calibrate wsX2_calibrationsOf := goodIn_r _ [21, 22, 38, 39, 40, 41, 42, 43, 44, 45, 46] (by decide +kernel) (by decide +kernel)
set_option maxRecDepth 20000 in
theorem gX4_calibrate_X2_calibrationsOf : GoodIn wsX4_calibrate (wsV RX4 129 RX2 yX2_calibrationsOf wsX2_calibrationsOf) := goodIn_app (goodIn_of _ (by decide +kernel)) ggX4_calibrate_X2_calibrationsOf
set_option maxRecDepth 20000 in
theorem ggX4_calibrate_X2_addCalibration : GoodIn wsX4_calibrate wsX2_addCalibration := goodIn_r _ [26, 27, 22, 38, 39, 40, 41, 42, 43, 44, 45, 46] (by decide +kernel) (by decide +kernel)
set_option maxRecDepth 20000 in
theorem gX4_calibrate_X2_addCalibration : GoodIn wsX4_calibrate (wsV RX4 134 RX2 yX2_addCalibration wsX2_addCalibration) := goodIn_app (goodIn_of _ (by decide +kernel)) ggX4_calibrate_X2_addCalibration
theorem dX4_calibrate_0 : decode cX4_calibrate 0 = .ok (.aload_n 0, 1) := by decide +kernel
theorem dX4_calibrate_1 : decode cX4_calibrate 1 = .ok (.getfield 19, 3) := by decide +kernel
theorem dX4_calibrate_4 : decode cX4_calibrate 4 = .ok (.iload_n 1, 1) := by decide +kernel
theorem dX4_calibrate_5 : decode cX4_calibrate 5 = .ok (.invokevirtual 112, 3) := by decide +kernel
theorem dX4_calibrate_8 : decode cX4_calibrate 8 = .ok (.ifCond .ne 13, 3) := by decide +kernel
theorem dX4_calibrate_11 : decode cX4_calibrate 11 = .ok (.new 87, 3) := by decide +kernel
theorem dX4_calibrate_14 : decode cX4_calibrate 14 = .ok (.dup, 1) := by decide +kernel
theorem dX4_calibrate_15 : decode cX4_calibrate 15 = .ok (.ldc 125, 2) := by decide +kernel
theorem dX4_calibrate_17 : decode cX4_calibrate 17 = .ok (.invokespecial 91, 3) := by decide +kernel
theorem dX4_calibrate_20 : decode cX4_calibrate 20 = .ok (.athrow, 1) := by decide +kernel
theorem dX4_calibrate_21 : decode cX4_calibrate 21 = .ok (.iload_n 2, 1) := by decide +kernel
theorem dX4_calibrate_22 : decode cX4_calibrate 22 = .ok (.iconst 0, 1) := by decide +kernel
theorem dX4_calibrate_23 : decode cX4_calibrate 23 = .ok (.sipush 500, 3) := by decide +kernel
theorem dX4_calibrate_26 : decode cX4_calibrate 26 = .ok (.invokestatic 59, 3) := by decide +kernel
theorem dX4_calibrate_29 : decode cX4_calibrate 29 = .ok (.ifCond .eq 28, 3) := by decide +kernel
theorem dX4_calibrate_32 : decode cX4_calibrate 32 = .ok (.iload_n 3, 1) := by decide +kernel
theorem dX4_calibrate_33 : decode cX4_calibrate 33 = .ok (.iload_n 2, 1) := by decide +kernel
theorem dX4_calibrate_34 : decode cX4_calibrate 34 = .ok (.sipush 500, 3) := by decide +kernel
theorem dX4_calibrate_37 : decode cX4_calibrate 37 = .ok (.invokestatic 59, 3) := by decide +kernel
theorem dX4_calibrate_40 : decode cX4_calibrate 40 = .ok (.ifCond .eq 17, 3) := by decide +kernel
theorem dX4_calibrate_43 : decode cX4_calibrate 43 = .ok (.iload 4, 2) := by decide +kernel
theorem dX4_calibrate_45 : decode cX4_calibrate 45 = .ok (.sipush (-10000), 3) := by decide +kernel
theorem dX4_calibrate_48 : decode cX4_calibrate 48 = .ok (.sipush 10000, 3) := by decide +kernel
theorem dX4_calibrate_51 : decode cX4_calibrate 51 = .ok (.invokestatic 59, 3) := by decide +kernel
theorem dX4_calibrate_54 : decode cX4_calibrate 54 = .ok (.ifCond .ne 13, 3) := by decide +kernel
theorem dX4_calibrate_57 : decode cX4_calibrate 57 = .ok (.new 63, 3) := by decide +kernel
theorem dX4_calibrate_60 : decode cX4_calibrate 60 = .ok (.dup, 1) := by decide +kernel
theorem dX4_calibrate_61 : decode cX4_calibrate 61 = .ok (.ldc 127, 2) := by decide +kernel
theorem dX4_calibrate_63 : decode cX4_calibrate 63 = .ok (.invokespecial 67, 3) := by decide +kernel
theorem dX4_calibrate_66 : decode cX4_calibrate 66 = .ok (.athrow, 1) := by decide +kernel
theorem dX4_calibrate_67 : decode cX4_calibrate 67 = .ok (.aload_n 0, 1) := by decide +kernel
theorem dX4_calibrate_68 : decode cX4_calibrate 68 = .ok (.getfield 19, 3) := by decide +kernel
theorem dX4_calibrate_71 : decode cX4_calibrate 71 = .ok (.iload_n 1, 1) := by decide +kernel
theorem dX4_calibrate_72 : decode cX4_calibrate 72 = .ok (.invokevirtual 129, 3) := by decide +kernel
theorem dX4_calibrate_75 : decode cX4_calibrate 75 = .ok (.bipush 10, 2) := by decide +kernel
theorem dX4_calibrate_77 : decode cX4_calibrate 77 = .ok (.if_icmp .lt 13, 3) := by decide +kernel
theorem dX4_calibrate_80 : decode cX4_calibrate 80 = .ok (.new 74, 3) := by decide +kernel
theorem dX4_calibrate_83 : decode cX4_calibrate 83 = .ok (.dup, 1) := by decide +kernel
theorem dX4_calibrate_84 : decode cX4_calibrate 84 = .ok (.ldc 132, 2) := by decide +kernel
theorem dX4_calibrate_86 : decode cX4_calibrate 86 = .ok (.invokespecial 78, 3) := by decide +kernel
theorem dX4_calibrate_89 : decode cX4_calibrate 89 = .ok (.athrow, 1) := by decide +kernel
theorem dX4_calibrate_90 : decode cX4_calibrate 90 = .ok (.aload_n 0, 1) := by decide +kernel
theorem dX4_calibrate_91 : decode cX4_calibrate 91 = .ok (.getfield 19, 3) := by decide +kernel
theorem dX4_calibrate_94 : decode cX4_calibrate 94 = .ok (.iload_n 1, 1) := by decide +kernel
theorem dX4_calibrate_95 : decode cX4_calibrate 95 = .ok (.iload_n 2, 1) := by decide +kernel
theorem dX4_calibrate_96 : decode cX4_calibrate 96 = .ok (.iload_n 3, 1) := by decide +kernel
theorem dX4_calibrate_97 : decode cX4_calibrate 97 = .ok (.iload 4, 2) := by decide +kernel
theorem dX4_calibrate_99 : decode cX4_calibrate 99 = .ok (.invokevirtual 134, 3) := by decide +kernel
theorem dX4_calibrate_102 : decode cX4_calibrate 102 = .ok (.ireturn, 1) := by decide +kernel
set_option maxRecDepth 20000 in
theorem ggX4_bounds_X4_isWithin : GoodIn wsX4_bounds wsX4_isWithin := goodIn_r _ [8] (by decide +kernel) (by decide +kernel)
set_option maxRecDepth 20000 in
theorem gX4_bounds_X4_isWithin : GoodIn wsX4_bounds (va_wsS RX4 59 yX4_isWithin wsX4_isWithin) := goodIn_app (goodIn_of _ (by decide +kernel)) ggX4_bounds_X4_isWithin
theorem dX4_bounds_0 : decode cX4_bounds 0 = .ok (.iload_n 1, 1) := by decide +kernel
theorem dX4_bounds_1 : decode cX4_bounds 1 = .ok (.iconst 0, 1) := by decide +kernel
theorem dX4_bounds_2 : decode cX4_bounds 2 = .ok (.sipush 499, 3) := by decide +kernel
theorem dX4_bounds_5 : decode cX4_bounds 5 = .ok (.invokestatic 59, 3) := by decide +kernel
theorem dX4_bounds_8 : decode cX4_bounds 8 = .ok (.ifCond .eq 14, 3) := by decide +kernel
theorem dX4_bounds_11 : decode cX4_bounds 11 = .ok (.iload_n 2, 1) := by decide +kernel
theorem dX4_bounds_12 : decode cX4_bounds 12 = .ok (.iconst 1, 1) := by decide +kernel
theorem dX4_bounds_13 : decode cX4_bounds 13 = .ok (.sipush 1000, 3) := by decide +kernel
theorem dX4_bounds_16 : decode cX4_bounds 16 = .ok (.invokestatic 59, 3) := by decide +kernel
theorem dX4_bounds_19 : decode cX4_bounds 19 = .ok (.ifCond .ne 13, 3) := by decide +kernel
theorem dX4_bounds_22 : decode cX4_bounds 22 = .ok (.new 63, 3) := by decide +kernel
theorem dX4_bounds_25 : decode cX4_bounds 25 = .ok (.dup, 1) := by decide +kernel
theorem dX4_bounds_26 : decode cX4_bounds 26 = .ok (.ldc 137, 2) := by decide +kernel
theorem dX4_bounds_28 : decode cX4_bounds 28 = .ok (.invokespecial 67, 3) := by decide +kernel
theorem dX4_bounds_31 : decode cX4_bounds 31 = .ok (.athrow, 1) := by decide +kernel
theorem dX4_bounds_32 : decode cX4_bounds 32 = .ok (.aload_n 0, 1) := by decide +kernel
theorem dX4_bounds_33 : decode cX4_bounds 33 = .ok (.iload_n 1, 1) := by decide +kernel
theorem dX4_bounds_34 : decode cX4_bounds 34 = .ok (.putfield 49, 3) := by decide +kernel
theorem dX4_bounds_37 : decode cX4_bounds 37 = .ok (.aload_n 0, 1) := by decide +kernel
theorem dX4_bounds_38 : decode cX4_bounds 38 = .ok (.iload_n 2, 1) := by decide +kernel
theorem dX4_bounds_39 : decode cX4_bounds 39 = .ok (.putfield 52, 3) := by decide +kernel
theorem dX4_bounds_42 : decode cX4_bounds 42 = .ok (.return_, 1) := by decide +kernel
set_option maxRecDepth 20000 in
theorem ggX4_pass_X4_isWithin : GoodIn wsX4_pass wsX4_isWithin := goodIn_r _ [9] (by decide +kernel) (by decide +kernel)
set_option maxRecDepth 20000 in
theorem gX4_pass_X4_isWithin : GoodIn wsX4_pass (va_wsS RX4 59 yX4_isWithin wsX4_isWithin) := goodIn_app (goodIn_of _ (by decide +kernel)) ggX4_pass_X4_isWithin
set_option maxRecDepth 20000 in
theorem ggX4_pass_X4_passOneDay : GoodIn wsX4_pass wsX4_passOneDay := goodIn_r _ [13, 14, 5, 15, 16, 17, 18, 19, 20, 21, 22, 23, 24, 25, 26, 27, 28, 29, 30, 31, 32, 33, 34, 35, 8, 36, 37, 38, 39, 40, 41, 42, 43, 44, 45, 46, 47, 48, 49, 50, 51, 52, 53, 54, 55, 56, 57, 58, 59, 60, 61, 62, 63, 64, 65, 66, 67, 68, 69, 70, 71, 72, 73, 74, 75, 76, 77, 78, 79, 80, 81, 82, 83, 84, 85, 86, 87, 88, 89, 90, 91, 92, 93, 94, 95, 96, 97, 98, 99, 100, 101, 102, 103, 104, 105, 106, 107, 108, 109, 110, 111, 112, 113, 114, 115, 116, 117, 118, 119, 120, 121, 122, 123, 124, 125, 126, 127, 128, 129, 130, 131, 132, 133, 134, 135, 136, 137, 138, 139, 140, 141, 142, 143, 144, 145, 146, 147, 148, 149, 150, 151, 152, 153, 154, 155, 156, 157, 158, 159, 160, 161, 162, 163, 164] (by decide +kernel) (by decide +kernel)
set_option maxRecDepth 20000 in
theorem gX4_pass_X4_passOneDay : GoodIn wsX4_pass (wsV RX4 143 RX4 yX4_passOneDay wsX4_passOneDay) := goodIn_app (goodIn_of _ (by decide +kernel)) ggX4_pass_X4_passOneDay
theorem dX4_pass_0 : decode cX4_pass 0 = .ok (.iload_n 1, 1) := by decide +kernel
theorem dX4_pass_1 : decode cX4_pass 1 = .ok (.iconst 1, 1) := by decide +kernel
theorem dX4_pass_2 : decode cX4_pass 2 = .ok (.bipush 50, 2) := by decide +kernel
theorem dX4_pass_4 : decode cX4_pass 4 = .ok (.invokestatic 59, 3) := by decide +kernel
theorem dX4_pass_7 : decode cX4_pass 7 = .ok (.ifCond .ne 13, 3) := by decide +kernel
theorem dX4_pass_10 : decode cX4_pass 10 = .ok (.new 63, 3) := by decide +kernel
theorem dX4_pass_13 : decode cX4_pass 13 = .ok (.dup, 1) := by decide +kernel
theorem dX4_pass_14 : decode cX4_pass 14 = .ok (.ldc 139, 2) := by decide +kernel
theorem dX4_pass_16 : decode cX4_pass 16 = .ok (.invokespecial 67, 3) := by decide +kernel
theorem dX4_pass_19 : decode cX4_pass 19 = .ok (.athrow, 1) := by decide +kernel
theorem dX4_pass_20 : decode cX4_pass 20 = .ok (.iload_n 1, 1) := by decide +kernel
theorem dX4_pass_21 : decode cX4_pass 21 = .ok (.sipush 500, 3) := by decide +kernel
theorem dX4_pass_24 : decode cX4_pass 24 = .ok (.aload_n 0, 1) := by decide +kernel
theorem dX4_pass_25 : decode cX4_pass 25 = .ok (.getfield 45, 3) := by decide +kernel
theorem dX4_pass_28 : decode cX4_pass 28 = .ok (.isub, 1) := by decide +kernel
theorem dX4_pass_29 : decode cX4_pass 29 = .ok (.if_icmp .le 13, 3) := by decide +kernel
theorem dX4_pass_32 : decode cX4_pass 32 = .ok (.new 74, 3) := by decide +kernel
theorem dX4_pass_35 : decode cX4_pass 35 = .ok (.dup, 1) := by decide +kernel
theorem dX4_pass_36 : decode cX4_pass 36 = .ok (.ldc 141, 2) := by decide +kernel
theorem dX4_pass_38 : decode cX4_pass 38 = .ok (.invokespecial 78, 3) := by decide +kernel
theorem dX4_pass_41 : decode cX4_pass 41 = .ok (.athrow, 1) := by decide +kernel
theorem dX4_pass_42 : decode cX4_pass 42 = .ok (.iconst 0, 1) := by decide +kernel
theorem dX4_pass_43 : decode cX4_pass 43 = .ok (.istore_n 2, 1) := by decide +kernel
theorem dX4_pass_44 : decode cX4_pass 44 = .ok (.iload_n 2, 1) := by decide +kernel
theorem dX4_pass_45 : decode cX4_pass 45 = .ok (.iload_n 1, 1) := by decide +kernel
theorem dX4_pass_46 : decode cX4_pass 46 = .ok (.if_icmp .ge 13, 3) := by decide +kernel
theorem dX4_pass_49 : decode cX4_pass 49 = .ok (.aload_n 0, 1) := by decide +kernel
theorem dX4_pass_50 : decode cX4_pass 50 = .ok (.invokevirtual 143, 3) := by decide +kernel
theorem dX4_pass_53 : decode cX4_pass 53 = .ok (.iinc 2 1, 3) := by decide +kernel
theorem dX4_pass_56 : decode cX4_pass 56 = .ok (.goto (-12), 3) := by decide +kernel
theorem dX4_pass_59 : decode cX4_pass 59 = .ok (.aload_n 0, 1) := by decide +kernel
theorem dX4_pass_60 : decode cX4_pass 60 = .ok (.getfield 45, 3) := by decide +kernel
theorem dX4_pass_63 : decode cX4_pass 63 = .ok (.ireturn, 1) := by decide +kernel
set_option maxRecDepth 20000 in
theorem ggX4_vote_X4_isWithin : GoodIn wsX4_vote wsX4_isWithin := goodIn_r _ [7] (by decide +kernel) (by decide +kernel)
set_option maxRecDepth 20000 in
theorem gX4_vote_X4_isWithin : GoodIn wsX4_vote (va_wsS RX4 59 yX4_isWithin wsX4_isWithin) := goodIn_app (goodIn_of _ (by decide +kernel)) ggX4_vote_X4_isWithin
set_option maxRecDepth 20000 in
theorem ggX4_vote_X4_housesFor : GoodIn wsX4_vote wsX4_housesFor := goodIn_r _ [11, 3, 12, 13, 14, 15, 16, 17, 18, 19, 20, 21] (by decide +kernel) (by decide +kernel)
set_option maxRecDepth 20000 in
theorem gX4_vote_X4_housesFor : GoodIn wsX4_vote (wsV RX4 148 RX4 yX4_housesFor wsX4_housesFor) := goodIn_app (goodIn_of _ (by decide +kernel)) ggX4_vote_X4_housesFor
theorem dX4_vote_0 : decode cX4_vote 0 = .ok (.iload_n 1, 1) := by decide +kernel
theorem dX4_vote_1 : decode cX4_vote 1 = .ok (.iconst 0, 1) := by decide +kernel
theorem dX4_vote_2 : decode cX4_vote 2 = .ok (.bipush 6, 2) := by decide +kernel
theorem dX4_vote_4 : decode cX4_vote 4 = .ok (.invokestatic 59, 3) := by decide +kernel
theorem dX4_vote_7 : decode cX4_vote 7 = .ok (.ifCond .ne 13, 3) := by decide +kernel
theorem dX4_vote_10 : decode cX4_vote 10 = .ok (.new 87, 3) := by decide +kernel
theorem dX4_vote_13 : decode cX4_vote 13 = .ok (.dup, 1) := by decide +kernel
theorem dX4_vote_14 : decode cX4_vote 14 = .ok (.ldc 146, 2) := by decide +kernel
theorem dX4_vote_16 : decode cX4_vote 16 = .ok (.invokespecial 91, 3) := by decide +kernel
theorem dX4_vote_19 : decode cX4_vote 19 = .ok (.athrow, 1) := by decide +kernel
theorem dX4_vote_20 : decode cX4_vote 20 = .ok (.aload_n 0, 1) := by decide +kernel
theorem dX4_vote_21 : decode cX4_vote 21 = .ok (.getfield 41, 3) := by decide +kernel
theorem dX4_vote_24 : decode cX4_vote 24 = .ok (.iload_n 1, 1) := by decide +kernel
theorem dX4_vote_25 : decode cX4_vote 25 = .ok (.iload_n 2, 1) := by decide +kernel
theorem dX4_vote_26 : decode cX4_vote 26 = .ok (.bastore, 1) := by decide +kernel
theorem dX4_vote_27 : decode cX4_vote 27 = .ok (.aload_n 0, 1) := by decide +kernel
theorem dX4_vote_28 : decode cX4_vote 28 = .ok (.invokevirtual 148, 3) := by decide +kernel
theorem dX4_vote_31 : decode cX4_vote 31 = .ok (.ireturn, 1) := by decide +kernel
set_option maxRecDepth 20000 in
theorem ggX4_adopt_X4_housesFor : GoodIn wsX4_adopt wsX4_housesFor := goodIn_r _ [9, 10, 83, 84, 85, 86, 87, 88, 89, 90, 91, 92] (by decide +kernel) (by decide +kernel)
set_option maxRecDepth 20000 in
theorem gX4_adopt_X4_housesFor : GoodIn wsX4_adopt (wsV RX4 148 RX4 yX4_housesFor wsX4_housesFor) := goodIn_app (goodIn_of _ (by decide +kernel)) ggX4_adopt_X4_housesFor
set_option maxRecDepth 20000 in
theorem ggX4_adopt_X4_openRings : GoodIn wsX4_adopt wsX4_openRings := goodIn_r _ [14, 15, 16, 17, 18, 19, 20, 21, 22, 23, 24, 25, 26, 27, 28, 29, 30, 31, 32, 33, 34, 35, 36, 37, 38, 39, 40, 41, 42, 43, 44, 45, 46, 47, 48, 49, 50, 51, 52, 53, 54, 55, 56, 57, 58, 59, 60, 61, 62, 63, 64, 65, 66, 67, 68, 69, 70, 71, 72, 73, 74, 75, 76, 77, 78, 79, 80, 81, 82, 83, 84, 85, 86, 87, 88, 89, 90, 91, 92, 93, 94, 95, 96, 97, 98, 99, 100, 101, 102, 103, 104, 105, 106, 107, 108, 109, 110, 111, 112, 113] (by decide +kernel) (by decide +kernel)
set_option maxRecDepth 20000 in
theorem gX4_adopt_X4_openRings : GoodIn wsX4_adopt (wsV RX4 153 RX4 yX4_openRings wsX4_openRings) := goodIn_app (goodIn_of _ (by decide +kernel)) ggX4_adopt_X4_openRings
theorem dX4_adopt_0 : decode cX4_adopt 0 = .ok (.aload_n 0, 1) := by decide +kernel
theorem dX4_adopt_1 : decode cX4_adopt 1 = .ok (.getfield 55, 3) := by decide +kernel
theorem dX4_adopt_4 : decode cX4_adopt 4 = .ok (.ifCond .ne 10, 3) := by decide +kernel
theorem dX4_adopt_7 : decode cX4_adopt 7 = .ok (.aload_n 0, 1) := by decide +kernel
theorem dX4_adopt_8 : decode cX4_adopt 8 = .ok (.getfield 45, 3) := by decide +kernel
theorem dX4_adopt_11 : decode cX4_adopt 11 = .ok (.ifCond .ne 13, 3) := by decide +kernel
theorem dX4_adopt_14 : decode cX4_adopt 14 = .ok (.new 74, 3) := by decide +kernel
theorem dX4_adopt_17 : decode cX4_adopt 17 = .ok (.dup, 1) := by decide +kernel
theorem dX4_adopt_18 : decode cX4_adopt 18 = .ok (.ldc 151, 2) := by decide +kernel
theorem dX4_adopt_20 : decode cX4_adopt 20 = .ok (.invokespecial 78, 3) := by decide +kernel
theorem dX4_adopt_23 : decode cX4_adopt 23 = .ok (.athrow, 1) := by decide +kernel
theorem dX4_adopt_24 : decode cX4_adopt 24 = .ok (.aload_n 0, 1) := by decide +kernel
theorem dX4_adopt_25 : decode cX4_adopt 25 = .ok (.aload_n 0, 1) := by decide +kernel
theorem dX4_adopt_26 : decode cX4_adopt 26 = .ok (.invokevirtual 148, 3) := by decide +kernel
theorem dX4_adopt_29 : decode cX4_adopt 29 = .ok (.iconst 5, 1) := by decide +kernel
theorem dX4_adopt_30 : decode cX4_adopt 30 = .ok (.if_icmp .lt 18, 3) := by decide +kernel
theorem dX4_adopt_33 : decode cX4_adopt 33 = .ok (.aload_n 0, 1) := by decide +kernel
theorem dX4_adopt_34 : decode cX4_adopt 34 = .ok (.aload_n 0, 1) := by decide +kernel
theorem dX4_adopt_35 : decode cX4_adopt 35 = .ok (.getfield 45, 3) := by decide +kernel
theorem dX4_adopt_38 : decode cX4_adopt 38 = .ok (.invokevirtual 153, 3) := by decide +kernel
theorem dX4_adopt_41 : decode cX4_adopt 41 = .ok (.ifCond .ne 7, 3) := by decide +kernel
theorem dX4_adopt_44 : decode cX4_adopt 44 = .ok (.iconst 1, 1) := by decide +kernel
theorem dX4_adopt_45 : decode cX4_adopt 45 = .ok (.goto 4, 3) := by decide +kernel
theorem dX4_adopt_48 : decode cX4_adopt 48 = .ok (.iconst 0, 1) := by decide +kernel
theorem dX4_adopt_49 : decode cX4_adopt 49 = .ok (.putfield 55, 3) := by decide +kernel
theorem dX4_adopt_52 : decode cX4_adopt 52 = .ok (.aload_n 0, 1) := by decide +kernel
theorem dX4_adopt_53 : decode cX4_adopt 53 = .ok (.getfield 55, 3) := by decide +kernel
theorem dX4_adopt_56 : decode cX4_adopt 56 = .ok (.ireturn, 1) := by decide +kernel
theorem dX4_day_0 : decode cX4_day 0 = .ok (.aload_n 0, 1) := by decide +kernel
theorem dX4_day_1 : decode cX4_day 1 = .ok (.getfield 45, 3) := by decide +kernel
theorem dX4_day_4 : decode cX4_day 4 = .ok (.ireturn, 1) := by decide +kernel
set_option maxRecDepth 20000 in
theorem ggX4_of_X1_has : GoodIn wsX4_of wsX1_has := goodIn_r _ [10, 11, 37, 38, 39, 40, 41, 42] (by decide +kernel) (by decide +kernel)
set_option maxRecDepth 20000 in
theorem gX4_of_X1_has : GoodIn wsX4_of (wsV RX4 83 RX1 yX1_has wsX1_has) := goodIn_app (goodIn_of _ (by decide +kernel)) ggX4_of_X1_has
set_option maxRecDepth 20000 in
theorem ggX4_of_X1_phaseOf : GoodIn wsX4_of wsX1_phaseOf := goodIn_r _ [15, 16, 37, 38, 39, 40, 41, 42] (by decide +kernel) (by decide +kernel)
set_option maxRecDepth 20000 in
theorem gX4_of_X1_phaseOf : GoodIn wsX4_of (wsV RX4 156 RX1 yX1_phaseOf wsX1_phaseOf) := goodIn_app (goodIn_of _ (by decide +kernel)) ggX4_of_X1_phaseOf
set_option maxRecDepth 20000 in
theorem ggX4_of_X1_rateOf : GoodIn wsX4_of wsX1_rateOf := goodIn_r _ [20, 21, 37, 38, 39, 40, 41, 42] (by decide +kernel) (by decide +kernel)
set_option maxRecDepth 20000 in
theorem gX4_of_X1_rateOf : GoodIn wsX4_of (wsV RX4 159 RX1 yX1_rateOf wsX1_rateOf) := goodIn_app (goodIn_of _ (by decide +kernel)) ggX4_of_X1_rateOf
set_option maxRecDepth 20000 in
theorem ggX4_of_X1_heightOf : GoodIn wsX4_of wsX1_heightOf := goodIn_r _ [25, 26, 37, 38, 39, 40, 41, 42] (by decide +kernel) (by decide +kernel)
set_option maxRecDepth 20000 in
theorem gX4_of_X1_heightOf : GoodIn wsX4_of (wsV RX4 162 RX1 yX1_heightOf wsX1_heightOf) := goodIn_app (goodIn_of _ (by decide +kernel)) ggX4_of_X1_heightOf
theorem dX4_of_0 : decode cX4_of 0 = .ok (.aload_n 0, 1) := by decide +kernel
theorem dX4_of_1 : decode cX4_of 1 = .ok (.getfield 10, 3) := by decide +kernel
theorem dX4_of_4 : decode cX4_of 4 = .ok (.iload_n 1, 1) := by decide +kernel
theorem dX4_of_5 : decode cX4_of 5 = .ok (.invokevirtual 83, 3) := by decide +kernel
theorem dX4_of_8 : decode cX4_of 8 = .ok (.ifCond .ne 13, 3) := by decide +kernel
theorem dX4_of_11 : decode cX4_of 11 = .ok (.new 87, 3) := by decide +kernel
theorem dX4_of_14 : decode cX4_of 14 = .ok (.dup, 1) := by decide +kernel
theorem dX4_of_15 : decode cX4_of 15 = .ok (.ldc 89, 2) := by decide +kernel
theorem dX4_of_17 : decode cX4_of 17 = .ok (.invokespecial 91, 3) := by decide +kernel
theorem dX4_of_20 : decode cX4_of 20 = .ok (.athrow, 1) := by decide +kernel
theorem dX4_of_21 : decode cX4_of 21 = .ok (.iload_n 2, 1) := by decide +kernel
theorem dX4_of_22 : decode cX4_of 22 = .ok (.tableswitch 53 0 2 #[26, 35, 44], 26) := by decide +kernel
theorem dX4_of_48 : decode cX4_of 48 = .ok (.aload_n 0, 1) := by decide +kernel
theorem dX4_of_49 : decode cX4_of 49 = .ok (.getfield 10, 3) := by decide +kernel
theorem dX4_of_52 : decode cX4_of 52 = .ok (.iload_n 1, 1) := by decide +kernel
theorem dX4_of_53 : decode cX4_of 53 = .ok (.invokevirtual 156, 3) := by decide +kernel
theorem dX4_of_56 : decode cX4_of 56 = .ok (.ireturn, 1) := by decide +kernel
theorem dX4_of_57 : decode cX4_of 57 = .ok (.aload_n 0, 1) := by decide +kernel
theorem dX4_of_58 : decode cX4_of 58 = .ok (.getfield 10, 3) := by decide +kernel
theorem dX4_of_61 : decode cX4_of 61 = .ok (.iload_n 1, 1) := by decide +kernel
theorem dX4_of_62 : decode cX4_of 62 = .ok (.invokevirtual 159, 3) := by decide +kernel
theorem dX4_of_65 : decode cX4_of 65 = .ok (.ireturn, 1) := by decide +kernel
theorem dX4_of_66 : decode cX4_of 66 = .ok (.aload_n 0, 1) := by decide +kernel
theorem dX4_of_67 : decode cX4_of 67 = .ok (.getfield 10, 3) := by decide +kernel
theorem dX4_of_70 : decode cX4_of 70 = .ok (.iload_n 1, 1) := by decide +kernel
theorem dX4_of_71 : decode cX4_of 71 = .ok (.invokevirtual 162, 3) := by decide +kernel
theorem dX4_of_74 : decode cX4_of 74 = .ok (.ireturn, 1) := by decide +kernel
theorem dX4_of_75 : decode cX4_of 75 = .ok (.new 63, 3) := by decide +kernel
theorem dX4_of_78 : decode cX4_of 78 = .ok (.dup, 1) := by decide +kernel
theorem dX4_of_79 : decode cX4_of 79 = .ok (.ldc 165, 2) := by decide +kernel
theorem dX4_of_81 : decode cX4_of 81 = .ok (.invokespecial 67, 3) := by decide +kernel
theorem dX4_of_84 : decode cX4_of 84 = .ok (.athrow, 1) := by decide +kernel
set_option maxRecDepth 20000 in
theorem ggX4_measured_X4_hasMeasured : GoodIn wsX4_measured wsX4_hasMeasured := goodIn_r _ [8, 3, 9, 10, 11, 7, 12, 13, 14, 15, 16, 17, 18, 19, 20, 21, 22, 23, 24, 25, 26, 27, 38, 39, 40, 41, 42, 43, 44, 45, 46, 47, 48, 49, 50, 51, 52, 53, 54, 55, 56] (by decide +kernel) (by decide +kernel)
set_option maxRecDepth 20000 in
theorem gX4_measured_X4_hasMeasured : GoodIn wsX4_measured (wsV RX4 167 RX4 yX4_hasMeasured wsX4_hasMeasured) := goodIn_app (goodIn_of _ (by decide +kernel)) ggX4_measured_X4_hasMeasured
set_option maxRecDepth 20000 in
theorem ggX4_measured_X2_correctedOf : GoodIn wsX4_measured wsX2_correctedOf := goodIn_r _ [31, 32, 33, 48, 49, 50, 51, 52, 53, 54, 55, 56] (by decide +kernel) (by decide +kernel)
set_option maxRecDepth 20000 in
theorem gX4_measured_X2_correctedOf : GoodIn wsX4_measured (wsV RX4 172 RX2 yX2_correctedOf wsX2_correctedOf) := goodIn_app (goodIn_of _ (by decide +kernel)) ggX4_measured_X2_correctedOf
set_option maxRecDepth 20000 in
theorem ggX4_measured_X2_rawOf : GoodIn wsX4_measured wsX2_rawOf := goodIn_r _ [37, 32, 48, 49, 50, 51, 52, 53, 54, 55, 56] (by decide +kernel) (by decide +kernel)
set_option maxRecDepth 20000 in
theorem gX4_measured_X2_rawOf : GoodIn wsX4_measured (wsV RX4 175 RX2 yX2_rawOf wsX2_rawOf) := goodIn_app (goodIn_of _ (by decide +kernel)) ggX4_measured_X2_rawOf
theorem dX4_measured_0 : decode cX4_measured 0 = .ok (.aload_n 0, 1) := by decide +kernel
theorem dX4_measured_1 : decode cX4_measured 1 = .ok (.iload_n 1, 1) := by decide +kernel
theorem dX4_measured_2 : decode cX4_measured 2 = .ok (.iload_n 2, 1) := by decide +kernel
theorem dX4_measured_3 : decode cX4_measured 3 = .ok (.invokevirtual 167, 3) := by decide +kernel
theorem dX4_measured_6 : decode cX4_measured 6 = .ok (.ifCond .ne 13, 3) := by decide +kernel
theorem dX4_measured_9 : decode cX4_measured 9 = .ok (.new 87, 3) := by decide +kernel
theorem dX4_measured_12 : decode cX4_measured 12 = .ok (.dup, 1) := by decide +kernel
theorem dX4_measured_13 : decode cX4_measured 13 = .ok (.ldc 170, 2) := by decide +kernel
theorem dX4_measured_15 : decode cX4_measured 15 = .ok (.invokespecial 91, 3) := by decide +kernel
theorem dX4_measured_18 : decode cX4_measured 18 = .ok (.athrow, 1) := by decide +kernel
theorem dX4_measured_19 : decode cX4_measured 19 = .ok (.iload_n 3, 1) := by decide +kernel
theorem dX4_measured_20 : decode cX4_measured 20 = .ok (.ifCond .eq 15, 3) := by decide +kernel
theorem dX4_measured_23 : decode cX4_measured 23 = .ok (.aload_n 0, 1) := by decide +kernel
theorem dX4_measured_24 : decode cX4_measured 24 = .ok (.getfield 19, 3) := by decide +kernel
theorem dX4_measured_27 : decode cX4_measured 27 = .ok (.iload_n 1, 1) := by decide +kernel
theorem dX4_measured_28 : decode cX4_measured 28 = .ok (.iload_n 2, 1) := by decide +kernel
theorem dX4_measured_29 : decode cX4_measured 29 = .ok (.invokevirtual 172, 3) := by decide +kernel
theorem dX4_measured_32 : decode cX4_measured 32 = .ok (.goto 12, 3) := by decide +kernel
theorem dX4_measured_35 : decode cX4_measured 35 = .ok (.aload_n 0, 1) := by decide +kernel
theorem dX4_measured_36 : decode cX4_measured 36 = .ok (.getfield 19, 3) := by decide +kernel
theorem dX4_measured_39 : decode cX4_measured 39 = .ok (.iload_n 1, 1) := by decide +kernel
theorem dX4_measured_40 : decode cX4_measured 40 = .ok (.iload_n 2, 1) := by decide +kernel
theorem dX4_measured_41 : decode cX4_measured 41 = .ok (.invokevirtual 175, 3) := by decide +kernel
theorem dX4_measured_44 : decode cX4_measured 44 = .ok (.ireturn, 1) := by decide +kernel
set_option maxRecDepth 20000 in
theorem ggX4_closes_X4_hasMeasured : GoodIn wsX4_closes wsX4_hasMeasured := goodIn_r _ [17, 5, 18, 19, 20, 16, 21, 22, 23, 24, 25, 26, 27, 28, 29, 30, 31, 32, 33, 34, 35, 36, 61, 62, 63, 64, 65, 66, 67, 68, 69, 70, 71, 72, 73, 74, 75, 76, 77, 78, 79] (by decide +kernel) (by decide +kernel)
set_option maxRecDepth 20000 in
theorem gX4_closes_X4_hasMeasured : GoodIn wsX4_closes (wsV RX4 167 RX4 yX4_hasMeasured wsX4_hasMeasured) := goodIn_app (goodIn_of _ (by decide +kernel)) ggX4_closes_X4_hasMeasured
set_option maxRecDepth 20000 in
theorem ggX4_closes_X2_areRing : GoodIn wsX4_closes wsX2_areRing := goodIn_r _ [40, 41, 42, 43, 29, 44, 45, 46, 71, 72, 73, 74, 75, 76, 77, 78, 79] (by decide +kernel) (by decide +kernel)
set_option maxRecDepth 20000 in
theorem gX4_closes_X2_areRing : GoodIn wsX4_closes (wsV RX4 180 RX2 yX2_areRing wsX2_areRing) := goodIn_app (goodIn_of _ (by decide +kernel)) ggX4_closes_X2_areRing
set_option maxRecDepth 20000 in
theorem ggX4_closes_X2_around : GoodIn wsX4_closes wsX2_around := goodIn_r _ [50, 51, 52, 53, 29, 54, 55, 56, 57, 58, 59, 60, 45, 46, 71, 72, 73, 74, 75, 76, 77, 78, 79] (by decide +kernel) (by decide +kernel)
set_option maxRecDepth 20000 in
theorem gX4_closes_X2_around : GoodIn wsX4_closes (wsV RX4 193 RX2 yX2_around wsX2_around) := goodIn_app (goodIn_of _ (by decide +kernel)) ggX4_closes_X2_around
theorem dX4_closes_0 : decode cX4_closes 0 = .ok (.aload_n 0, 1) := by decide +kernel
theorem dX4_closes_1 : decode cX4_closes 1 = .ok (.iload_n 1, 1) := by decide +kernel
theorem dX4_closes_2 : decode cX4_closes 2 = .ok (.iload 4, 2) := by decide +kernel
theorem dX4_closes_4 : decode cX4_closes 4 = .ok (.invokevirtual 167, 3) := by decide +kernel
theorem dX4_closes_7 : decode cX4_closes 7 = .ok (.ifCond .eq 23, 3) := by decide +kernel
theorem dX4_closes_10 : decode cX4_closes 10 = .ok (.aload_n 0, 1) := by decide +kernel
theorem dX4_closes_11 : decode cX4_closes 11 = .ok (.iload_n 2, 1) := by decide +kernel
theorem dX4_closes_12 : decode cX4_closes 12 = .ok (.iload 4, 2) := by decide +kernel
theorem dX4_closes_14 : decode cX4_closes 14 = .ok (.invokevirtual 167, 3) := by decide +kernel
theorem dX4_closes_17 : decode cX4_closes 17 = .ok (.ifCond .eq 13, 3) := by decide +kernel
theorem dX4_closes_20 : decode cX4_closes 20 = .ok (.aload_n 0, 1) := by decide +kernel
theorem dX4_closes_21 : decode cX4_closes 21 = .ok (.iload_n 3, 1) := by decide +kernel
theorem dX4_closes_22 : decode cX4_closes 22 = .ok (.iload 4, 2) := by decide +kernel
theorem dX4_closes_24 : decode cX4_closes 24 = .ok (.invokevirtual 167, 3) := by decide +kernel
theorem dX4_closes_27 : decode cX4_closes 27 = .ok (.ifCond .ne 13, 3) := by decide +kernel
theorem dX4_closes_30 : decode cX4_closes 30 = .ok (.new 87, 3) := by decide +kernel
theorem dX4_closes_33 : decode cX4_closes 33 = .ok (.dup, 1) := by decide +kernel
theorem dX4_closes_34 : decode cX4_closes 34 = .ok (.ldc 178, 2) := by decide +kernel
theorem dX4_closes_36 : decode cX4_closes 36 = .ok (.invokespecial 91, 3) := by decide +kernel
theorem dX4_closes_39 : decode cX4_closes 39 = .ok (.athrow, 1) := by decide +kernel
theorem dX4_closes_40 : decode cX4_closes 40 = .ok (.aload_n 0, 1) := by decide +kernel
theorem dX4_closes_41 : decode cX4_closes 41 = .ok (.getfield 19, 3) := by decide +kernel
theorem dX4_closes_44 : decode cX4_closes 44 = .ok (.iload_n 1, 1) := by decide +kernel
theorem dX4_closes_45 : decode cX4_closes 45 = .ok (.iload_n 2, 1) := by decide +kernel
theorem dX4_closes_46 : decode cX4_closes 46 = .ok (.iload_n 3, 1) := by decide +kernel
theorem dX4_closes_47 : decode cX4_closes 47 = .ok (.invokevirtual 180, 3) := by decide +kernel
theorem dX4_closes_50 : decode cX4_closes 50 = .ok (.ifCond .ne 13, 3) := by decide +kernel
theorem dX4_closes_53 : decode cX4_closes 53 = .ok (.new 63, 3) := by decide +kernel
theorem dX4_closes_56 : decode cX4_closes 56 = .ok (.dup, 1) := by decide +kernel
theorem dX4_closes_57 : decode cX4_closes 57 = .ok (.ldc 183, 2) := by decide +kernel
theorem dX4_closes_59 : decode cX4_closes 59 = .ok (.invokespecial 67, 3) := by decide +kernel
theorem dX4_closes_62 : decode cX4_closes 62 = .ok (.athrow, 1) := by decide +kernel
theorem dX4_closes_63 : decode cX4_closes 63 = .ok (.iload_n 1, 1) := by decide +kernel
theorem dX4_closes_64 : decode cX4_closes 64 = .ok (.iload_n 2, 1) := by decide +kernel
theorem dX4_closes_65 : decode cX4_closes 65 = .ok (.iload_n 3, 1) := by decide +kernel
theorem dX4_closes_66 : decode cX4_closes 66 = .ok (.invokestatic 185, 3) := by decide +kernel
theorem dX4_closes_69 : decode cX4_closes 69 = .ok (.invokestatic 185, 3) := by decide +kernel
theorem dX4_closes_72 : decode cX4_closes 72 = .ok (.istore 5, 2) := by decide +kernel
theorem dX4_closes_74 : decode cX4_closes 74 = .ok (.iload_n 1, 1) := by decide +kernel
theorem dX4_closes_75 : decode cX4_closes 75 = .ok (.iload_n 2, 1) := by decide +kernel
theorem dX4_closes_76 : decode cX4_closes 76 = .ok (.iload_n 3, 1) := by decide +kernel
theorem dX4_closes_77 : decode cX4_closes 77 = .ok (.invokestatic 190, 3) := by decide +kernel
theorem dX4_closes_80 : decode cX4_closes 80 = .ok (.invokestatic 190, 3) := by decide +kernel
theorem dX4_closes_83 : decode cX4_closes 83 = .ok (.istore 6, 2) := by decide +kernel
theorem dX4_closes_85 : decode cX4_closes 85 = .ok (.iload_n 1, 1) := by decide +kernel
theorem dX4_closes_86 : decode cX4_closes 86 = .ok (.iload_n 2, 1) := by decide +kernel
theorem dX4_closes_87 : decode cX4_closes 87 = .ok (.iadd, 1) := by decide +kernel
theorem dX4_closes_88 : decode cX4_closes 88 = .ok (.iload_n 3, 1) := by decide +kernel
theorem dX4_closes_89 : decode cX4_closes 89 = .ok (.iadd, 1) := by decide +kernel
theorem dX4_closes_90 : decode cX4_closes 90 = .ok (.iload 5, 2) := by decide +kernel
theorem dX4_closes_92 : decode cX4_closes 92 = .ok (.isub, 1) := by decide +kernel
theorem dX4_closes_93 : decode cX4_closes 93 = .ok (.iload 6, 2) := by decide +kernel
theorem dX4_closes_95 : decode cX4_closes 95 = .ok (.isub, 1) := by decide +kernel
theorem dX4_closes_96 : decode cX4_closes 96 = .ok (.istore 7, 2) := by decide +kernel
theorem dX4_closes_98 : decode cX4_closes 98 = .ok (.aload_n 0, 1) := by decide +kernel
theorem dX4_closes_99 : decode cX4_closes 99 = .ok (.getfield 19, 3) := by decide +kernel
theorem dX4_closes_102 : decode cX4_closes 102 = .ok (.iload 5, 2) := by decide +kernel
theorem dX4_closes_104 : decode cX4_closes 104 = .ok (.iload 7, 2) := by decide +kernel
theorem dX4_closes_106 : decode cX4_closes 106 = .ok (.iload 6, 2) := by decide +kernel
theorem dX4_closes_108 : decode cX4_closes 108 = .ok (.iload 4, 2) := by decide +kernel
theorem dX4_closes_110 : decode cX4_closes 110 = .ok (.invokevirtual 193, 3) := by decide +kernel
theorem dX4_closes_113 : decode cX4_closes 113 = .ok (.ireturn, 1) := by decide +kernel
set_option maxRecDepth 20000 in
theorem ggX4_open_X4_hasPassed : GoodIn wsX4_open wsX4_hasPassed := goodIn_r _ [7, 8, 9, 10, 6, 11, 84, 85, 86, 87, 88, 89, 90, 91, 92, 93] (by decide +kernel) (by decide +kernel)
set_option maxRecDepth 20000 in
theorem gX4_open_X4_hasPassed : GoodIn wsX4_open (wsV RX4 196 RX4 yX4_hasPassed wsX4_hasPassed) := goodIn_app (goodIn_of _ (by decide +kernel)) ggX4_open_X4_hasPassed
set_option maxRecDepth 20000 in
theorem ggX4_open_X4_openRings : GoodIn wsX4_open wsX4_openRings := goodIn_r _ [15, 16, 17, 18, 19, 20, 21, 22, 23, 24, 25, 26, 27, 28, 29, 30, 31, 32, 33, 34, 35, 36, 37, 38, 39, 40, 41, 42, 43, 44, 45, 46, 47, 48, 49, 50, 51, 52, 53, 54, 55, 56, 57, 58, 59, 60, 61, 62, 63, 64, 65, 66, 67, 68, 69, 70, 71, 72, 73, 74, 75, 76, 77, 78, 79, 80, 81, 82, 83, 84, 85, 86, 87, 88, 89, 90, 91, 92, 93, 94, 95, 96, 97, 98, 99, 100, 101, 102, 103, 104, 105, 106, 107, 108, 109, 110, 111, 112, 113, 114] (by decide +kernel) (by decide +kernel)
set_option maxRecDepth 20000 in
theorem gX4_open_X4_openRings : GoodIn wsX4_open (wsV RX4 153 RX4 yX4_openRings wsX4_openRings) := goodIn_app (goodIn_of _ (by decide +kernel)) ggX4_open_X4_openRings
theorem dX4_open_0 : decode cX4_open 0 = .ok (.aload_n 0, 1) := by decide +kernel
theorem dX4_open_1 : decode cX4_open 1 = .ok (.iload_n 1, 1) := by decide +kernel
theorem dX4_open_2 : decode cX4_open 2 = .ok (.invokevirtual 196, 3) := by decide +kernel
theorem dX4_open_5 : decode cX4_open 5 = .ok (.ifCond .ne 13, 3) := by decide +kernel
theorem dX4_open_8 : decode cX4_open 8 = .ok (.new 87, 3) := by decide +kernel
theorem dX4_open_11 : decode cX4_open 11 = .ok (.dup, 1) := by decide +kernel
theorem dX4_open_12 : decode cX4_open 12 = .ok (.ldc 199, 2) := by decide +kernel
theorem dX4_open_14 : decode cX4_open 14 = .ok (.invokespecial 91, 3) := by decide +kernel
theorem dX4_open_17 : decode cX4_open 17 = .ok (.athrow, 1) := by decide +kernel
theorem dX4_open_18 : decode cX4_open 18 = .ok (.aload_n 0, 1) := by decide +kernel
theorem dX4_open_19 : decode cX4_open 19 = .ok (.iload_n 1, 1) := by decide +kernel
theorem dX4_open_20 : decode cX4_open 20 = .ok (.invokevirtual 153, 3) := by decide +kernel
theorem dX4_open_23 : decode cX4_open 23 = .ok (.ireturn, 1) := by decide +kernel
set_option maxRecDepth 20000 in
theorem ggX4_slips_X4_hasPassed : GoodIn wsX4_slips wsX4_hasPassed := goodIn_r _ [10, 11, 12, 13, 9, 14, 96, 97, 98, 99, 100, 101, 102, 103, 104, 105] (by decide +kernel) (by decide +kernel)
set_option maxRecDepth 20000 in
theorem gX4_slips_X4_hasPassed : GoodIn wsX4_slips (wsV RX4 196 RX4 yX4_hasPassed wsX4_hasPassed) := goodIn_app (goodIn_of _ (by decide +kernel)) ggX4_slips_X4_hasPassed
set_option maxRecDepth 20000 in
theorem ggX4_slips_X3_gather : GoodIn wsX4_slips wsX3_gather := goodIn_r _ [19, 20, 21, 22, 23, 24, 25, 26, 27, 28, 29, 30, 31, 32, 33, 34, 35, 18, 36, 37, 38, 39, 40, 41, 42, 43, 44, 45, 46, 47, 48, 49, 50, 51, 52, 53, 54, 55, 56, 57, 58, 59, 60, 61, 62, 63, 64, 65, 66, 67, 68, 69, 70, 71, 106, 107, 108, 109, 110, 111, 112, 113, 114, 115, 116, 117, 118, 119, 120, 121, 122, 123, 124, 125, 126] (by decide +kernel) (by decide +kernel)
set_option maxRecDepth 20000 in
theorem gX4_slips_X3_gather : GoodIn wsX4_slips (wsV RX4 201 RX3 yX3_gather wsX3_gather) := goodIn_app (goodIn_of _ (by decide +kernel)) ggX4_slips_X3_gather
set_option maxRecDepth 20000 in
theorem ggX4_slips_X2_count : GoodIn wsX4_slips wsX2_count := goodIn_r _ [26, 27, 118, 119, 120, 121, 122, 123, 124, 125, 126] (by decide +kernel) (by decide +kernel)
set_option maxRecDepth 20000 in
theorem gX4_slips_X2_count : GoodIn wsX4_slips (wsV RX4 104 RX2 yX2_count wsX2_count) := goodIn_app (goodIn_of _ (by decide +kernel)) ggX4_slips_X2_count
set_option maxRecDepth 20000 in
theorem ggX4_slips_X3_findSlips : GoodIn wsX4_slips wsX3_findSlips := goodIn_r _ [76, 77, 78, 79, 80, 81, 18, 82, 21, 83, 84, 85, 86, 87, 88, 89, 90, 91, 20, 51, 56, 92, 93, 94, 95, 54, 52, 55, 53, 106, 107, 108, 109, 110, 111, 112, 113, 114, 115, 116, 117] (by decide +kernel) (by decide +kernel)
set_option maxRecDepth 20000 in
theorem gX4_slips_X3_findSlips : GoodIn wsX4_slips (wsV RX4 205 RX3 yX3_findSlips wsX3_findSlips) := goodIn_app (goodIn_of _ (by decide +kernel)) ggX4_slips_X3_findSlips
theorem dX4_slips_0 : decode cX4_slips 0 = .ok (.aload_n 0, 1) := by decide +kernel
theorem dX4_slips_1 : decode cX4_slips 1 = .ok (.iload_n 1, 1) := by decide +kernel
theorem dX4_slips_2 : decode cX4_slips 2 = .ok (.invokevirtual 196, 3) := by decide +kernel
theorem dX4_slips_5 : decode cX4_slips 5 = .ok (.ifCond .ne 13, 3) := by decide +kernel
theorem dX4_slips_8 : decode cX4_slips 8 = .ok (.new 87, 3) := by decide +kernel
theorem dX4_slips_11 : decode cX4_slips 11 = .ok (.dup, 1) := by decide +kernel
theorem dX4_slips_12 : decode cX4_slips 12 = .ok (.ldc 199, 2) := by decide +kernel
theorem dX4_slips_14 : decode cX4_slips 14 = .ok (.invokespecial 91, 3) := by decide +kernel
theorem dX4_slips_17 : decode cX4_slips 17 = .ok (.athrow, 1) := by decide +kernel
theorem dX4_slips_18 : decode cX4_slips 18 = .ok (.aload_n 0, 1) := by decide +kernel
theorem dX4_slips_19 : decode cX4_slips 19 = .ok (.getfield 33, 3) := by decide +kernel
theorem dX4_slips_22 : decode cX4_slips 22 = .ok (.aload_n 0, 1) := by decide +kernel
theorem dX4_slips_23 : decode cX4_slips 23 = .ok (.getfield 19, 3) := by decide +kernel
theorem dX4_slips_26 : decode cX4_slips 26 = .ok (.iload_n 1, 1) := by decide +kernel
theorem dX4_slips_27 : decode cX4_slips 27 = .ok (.invokevirtual 201, 3) := by decide +kernel
theorem dX4_slips_30 : decode cX4_slips 30 = .ok (.aload_n 0, 1) := by decide +kernel
theorem dX4_slips_31 : decode cX4_slips 31 = .ok (.getfield 33, 3) := by decide +kernel
theorem dX4_slips_34 : decode cX4_slips 34 = .ok (.aload_n 0, 1) := by decide +kernel
theorem dX4_slips_35 : decode cX4_slips 35 = .ok (.getfield 19, 3) := by decide +kernel
theorem dX4_slips_38 : decode cX4_slips 38 = .ok (.invokevirtual 104, 3) := by decide +kernel
theorem dX4_slips_41 : decode cX4_slips 41 = .ok (.aload_n 0, 1) := by decide +kernel
theorem dX4_slips_42 : decode cX4_slips 42 = .ok (.getfield 49, 3) := by decide +kernel
theorem dX4_slips_45 : decode cX4_slips 45 = .ok (.invokevirtual 205, 3) := by decide +kernel
theorem dX4_slips_48 : decode cX4_slips 48 = .ok (.ireturn, 1) := by decide +kernel
set_option maxRecDepth 20000 in
theorem ggX4_mean_X4_hasPassed : GoodIn wsX4_mean wsX4_hasPassed := goodIn_r _ [8, 9, 10, 11, 7, 12, 56, 57, 58, 59, 60, 61, 62, 63, 64, 65] (by decide +kernel) (by decide +kernel)
set_option maxRecDepth 20000 in
theorem gX4_mean_X4_hasPassed : GoodIn wsX4_mean (wsV RX4 196 RX4 yX4_hasPassed wsX4_hasPassed) := goodIn_app (goodIn_of _ (by decide +kernel)) ggX4_mean_X4_hasPassed
set_option maxRecDepth 20000 in
theorem ggX4_mean_X1_count : GoodIn wsX4_mean wsX1_count := goodIn_r _ [17, 18, 66, 67, 68, 69, 70, 71] (by decide +kernel) (by decide +kernel)
set_option maxRecDepth 20000 in
theorem gX4_mean_X1_count : GoodIn wsX4_mean (wsV RX4 70 RX1 yX1_count wsX1_count) := goodIn_app (goodIn_of _ (by decide +kernel)) ggX4_mean_X1_count
set_option maxRecDepth 20000 in
theorem ggX4_mean_X4_meanOrZero : GoodIn wsX4_mean wsX4_meanOrZero := goodIn_r _ [22, 3, 23, 13, 14, 15, 16, 17, 18, 24, 25, 26, 27, 28, 29, 30, 31, 32, 33, 34, 35, 36, 37, 38, 39, 40, 41, 42, 43, 44, 45, 46, 47, 48, 49, 50, 51, 52, 53, 54, 55, 56, 57, 58, 59, 60, 61, 62, 63, 64, 65, 66, 67, 68, 69, 70, 71, 72, 73, 74, 75, 76, 77, 78, 79, 80] (by decide +kernel) (by decide +kernel)
set_option maxRecDepth 20000 in
theorem gX4_mean_X4_meanOrZero : GoodIn wsX4_mean (wsV RX4 210 RX4 yX4_meanOrZero wsX4_meanOrZero) := goodIn_app (goodIn_of _ (by decide +kernel)) ggX4_mean_X4_meanOrZero
theorem dX4_mean_0 : decode cX4_mean 0 = .ok (.aload_n 0, 1) := by decide +kernel
theorem dX4_mean_1 : decode cX4_mean 1 = .ok (.iload_n 1, 1) := by decide +kernel
theorem dX4_mean_2 : decode cX4_mean 2 = .ok (.invokevirtual 196, 3) := by decide +kernel
theorem dX4_mean_5 : decode cX4_mean 5 = .ok (.ifCond .eq 13, 3) := by decide +kernel
theorem dX4_mean_8 : decode cX4_mean 8 = .ok (.aload_n 0, 1) := by decide +kernel
theorem dX4_mean_9 : decode cX4_mean 9 = .ok (.getfield 10, 3) := by decide +kernel
theorem dX4_mean_12 : decode cX4_mean 12 = .ok (.invokevirtual 70, 3) := by decide +kernel
theorem dX4_mean_15 : decode cX4_mean 15 = .ok (.ifCond .ne 13, 3) := by decide +kernel
theorem dX4_mean_18 : decode cX4_mean 18 = .ok (.new 87, 3) := by decide +kernel
theorem dX4_mean_21 : decode cX4_mean 21 = .ok (.dup, 1) := by decide +kernel
theorem dX4_mean_22 : decode cX4_mean 22 = .ok (.ldc 208, 2) := by decide +kernel
theorem dX4_mean_24 : decode cX4_mean 24 = .ok (.invokespecial 91, 3) := by decide +kernel
theorem dX4_mean_27 : decode cX4_mean 27 = .ok (.athrow, 1) := by decide +kernel
theorem dX4_mean_28 : decode cX4_mean 28 = .ok (.aload_n 0, 1) := by decide +kernel
theorem dX4_mean_29 : decode cX4_mean 29 = .ok (.iload_n 1, 1) := by decide +kernel
theorem dX4_mean_30 : decode cX4_mean 30 = .ok (.invokevirtual 210, 3) := by decide +kernel
theorem dX4_mean_33 : decode cX4_mean 33 = .ok (.ireturn, 1) := by decide +kernel
set_option maxRecDepth 20000 in
theorem ggX4_published_X4_hasPassed : GoodIn wsX4_published wsX4_hasPassed := goodIn_r _ [8, 9, 10, 11, 7, 12, 76, 77, 78, 79, 80, 81, 82, 83, 84, 85] (by decide +kernel) (by decide +kernel)
set_option maxRecDepth 20000 in
theorem gX4_published_X4_hasPassed : GoodIn wsX4_published (wsV RX4 196 RX4 yX4_hasPassed wsX4_hasPassed) := goodIn_app (goodIn_of _ (by decide +kernel)) ggX4_published_X4_hasPassed
set_option maxRecDepth 20000 in
theorem ggX4_published_X4_steeredAnew : GoodIn wsX4_published wsX4_steeredAnew := goodIn_r _ [16, 17, 18, 19, 7, 20, 21, 22, 23, 24, 25, 26, 27, 28, 29, 30, 31, 32, 33, 34, 35, 36, 37, 38, 39, 40, 41, 42, 43, 44, 45, 46, 47, 48, 49, 50, 51, 52, 53, 54, 55, 56, 57, 58, 59, 60, 61, 62, 63, 64, 65, 66, 67, 68, 69, 70, 71, 72, 73, 74, 75, 76, 77, 78, 79, 80, 81, 82, 83, 84, 85, 86, 87, 88, 89, 90, 91, 92, 93, 94, 95, 96, 97, 98, 99, 100] (by decide +kernel) (by decide +kernel)
set_option maxRecDepth 20000 in
theorem gX4_published_X4_steeredAnew : GoodIn wsX4_published (wsV RX4 213 RX4 yX4_steeredAnew wsX4_steeredAnew) := goodIn_app (goodIn_of _ (by decide +kernel)) ggX4_published_X4_steeredAnew
theorem dX4_published_0 : decode cX4_published 0 = .ok (.aload_n 0, 1) := by decide +kernel
theorem dX4_published_1 : decode cX4_published 1 = .ok (.iload_n 1, 1) := by decide +kernel
theorem dX4_published_2 : decode cX4_published 2 = .ok (.invokevirtual 196, 3) := by decide +kernel
theorem dX4_published_5 : decode cX4_published 5 = .ok (.ifCond .ne 13, 3) := by decide +kernel
theorem dX4_published_8 : decode cX4_published 8 = .ok (.new 87, 3) := by decide +kernel
theorem dX4_published_11 : decode cX4_published 11 = .ok (.dup, 1) := by decide +kernel
theorem dX4_published_12 : decode cX4_published 12 = .ok (.ldc 199, 2) := by decide +kernel
theorem dX4_published_14 : decode cX4_published 14 = .ok (.invokespecial 91, 3) := by decide +kernel
theorem dX4_published_17 : decode cX4_published 17 = .ok (.athrow, 1) := by decide +kernel
theorem dX4_published_18 : decode cX4_published 18 = .ok (.iload_n 2, 1) := by decide +kernel
theorem dX4_published_19 : decode cX4_published 19 = .ok (.ifCond .eq 11, 3) := by decide +kernel
theorem dX4_published_22 : decode cX4_published 22 = .ok (.aload_n 0, 1) := by decide +kernel
theorem dX4_published_23 : decode cX4_published 23 = .ok (.iload_n 1, 1) := by decide +kernel
theorem dX4_published_24 : decode cX4_published 24 = .ok (.invokevirtual 213, 3) := by decide +kernel
theorem dX4_published_27 : decode cX4_published 27 = .ok (.goto 9, 3) := by decide +kernel
theorem dX4_published_30 : decode cX4_published 30 = .ok (.aload_n 0, 1) := by decide +kernel
theorem dX4_published_31 : decode cX4_published 31 = .ok (.getfield 37, 3) := by decide +kernel
theorem dX4_published_34 : decode cX4_published 34 = .ok (.iload_n 1, 1) := by decide +kernel
theorem dX4_published_35 : decode cX4_published 35 = .ok (.iaload, 1) := by decide +kernel
theorem dX4_published_36 : decode cX4_published 36 = .ok (.ireturn, 1) := by decide +kernel
set_option maxRecDepth 20000 in
theorem ggX4_height_X4_hasMeasured : GoodIn wsX4_height wsX4_hasMeasured := goodIn_r _ [11, 5, 12, 13, 14, 10, 15, 16, 17, 18, 19, 20, 21, 22, 23, 24, 25, 26, 27, 28, 29, 30, 37, 38, 39, 40, 41, 42, 43, 44, 45, 46, 47, 48, 49, 50, 51, 52, 53, 54, 55] (by decide +kernel) (by decide +kernel)
set_option maxRecDepth 20000 in
theorem gX4_height_X4_hasMeasured : GoodIn wsX4_height (wsV RX4 167 RX4 yX4_hasMeasured wsX4_hasMeasured) := goodIn_app (goodIn_of _ (by decide +kernel)) ggX4_height_X4_hasMeasured
set_option maxRecDepth 20000 in
theorem ggX4_height_X4_isWithin : GoodIn wsX4_height wsX4_isWithin := goodIn_r _ [19] (by decide +kernel) (by decide +kernel)
set_option maxRecDepth 20000 in
theorem gX4_height_X4_isWithin : GoodIn wsX4_height (va_wsS RX4 59 yX4_isWithin wsX4_isWithin) := goodIn_app (goodIn_of _ (by decide +kernel)) ggX4_height_X4_isWithin
set_option maxRecDepth 20000 in
theorem ggX4_height_X2_correctedOf : GoodIn wsX4_height wsX2_correctedOf := goodIn_r _ [34, 35, 36, 47, 48, 49, 50, 51, 52, 53, 54, 55] (by decide +kernel) (by decide +kernel)
set_option maxRecDepth 20000 in
theorem gX4_height_X2_correctedOf : GoodIn wsX4_height (wsV RX4 172 RX2 yX2_correctedOf wsX2_correctedOf) := goodIn_app (goodIn_of _ (by decide +kernel)) ggX4_height_X2_correctedOf
theorem dX4_height_0 : decode cX4_height 0 = .ok (.aload_n 0, 1) := by decide +kernel
theorem dX4_height_1 : decode cX4_height 1 = .ok (.iload_n 1, 1) := by decide +kernel
theorem dX4_height_2 : decode cX4_height 2 = .ok (.iload_n 2, 1) := by decide +kernel
theorem dX4_height_3 : decode cX4_height 3 = .ok (.invokevirtual 167, 3) := by decide +kernel
theorem dX4_height_6 : decode cX4_height 6 = .ok (.ifCond .eq 12, 3) := by decide +kernel
theorem dX4_height_9 : decode cX4_height 9 = .ok (.aload_n 0, 1) := by decide +kernel
theorem dX4_height_10 : decode cX4_height 10 = .ok (.iload_n 1, 1) := by decide +kernel
theorem dX4_height_11 : decode cX4_height 11 = .ok (.iload_n 3, 1) := by decide +kernel
theorem dX4_height_12 : decode cX4_height 12 = .ok (.invokevirtual 167, 3) := by decide +kernel
theorem dX4_height_15 : decode cX4_height 15 = .ok (.ifCond .ne 13, 3) := by decide +kernel
theorem dX4_height_18 : decode cX4_height 18 = .ok (.new 87, 3) := by decide +kernel
theorem dX4_height_21 : decode cX4_height 21 = .ok (.dup, 1) := by decide +kernel
theorem dX4_height_22 : decode cX4_height 22 = .ok (.ldc 216, 2) := by decide +kernel
theorem dX4_height_24 : decode cX4_height 24 = .ok (.invokespecial 91, 3) := by decide +kernel
theorem dX4_height_27 : decode cX4_height 27 = .ok (.athrow, 1) := by decide +kernel
theorem dX4_height_28 : decode cX4_height 28 = .ok (.iload_n 3, 1) := by decide +kernel
theorem dX4_height_29 : decode cX4_height 29 = .ok (.iload_n 2, 1) := by decide +kernel
theorem dX4_height_30 : decode cX4_height 30 = .ok (.if_icmp .le 17, 3) := by decide +kernel
theorem dX4_height_33 : decode cX4_height 33 = .ok (.iload 4, 2) := by decide +kernel
theorem dX4_height_35 : decode cX4_height 35 = .ok (.sipush (-1000), 3) := by decide +kernel
theorem dX4_height_38 : decode cX4_height 38 = .ok (.sipush 1000, 3) := by decide +kernel
theorem dX4_height_41 : decode cX4_height 41 = .ok (.invokestatic 59, 3) := by decide +kernel
theorem dX4_height_44 : decode cX4_height 44 = .ok (.ifCond .ne 13, 3) := by decide +kernel
theorem dX4_height_47 : decode cX4_height 47 = .ok (.new 63, 3) := by decide +kernel
theorem dX4_height_50 : decode cX4_height 50 = .ok (.dup, 1) := by decide +kernel
theorem dX4_height_51 : decode cX4_height 51 = .ok (.ldc 218, 2) := by decide +kernel
theorem dX4_height_53 : decode cX4_height 53 = .ok (.invokespecial 67, 3) := by decide +kernel
theorem dX4_height_56 : decode cX4_height 56 = .ok (.athrow, 1) := by decide +kernel
theorem dX4_height_57 : decode cX4_height 57 = .ok (.iload_n 3, 1) := by decide +kernel
theorem dX4_height_58 : decode cX4_height 58 = .ok (.iload_n 2, 1) := by decide +kernel
theorem dX4_height_59 : decode cX4_height 59 = .ok (.isub, 1) := by decide +kernel
theorem dX4_height_60 : decode cX4_height 60 = .ok (.istore 5, 2) := by decide +kernel
theorem dX4_height_62 : decode cX4_height 62 = .ok (.aload_n 0, 1) := by decide +kernel
theorem dX4_height_63 : decode cX4_height 63 = .ok (.getfield 19, 3) := by decide +kernel
theorem dX4_height_66 : decode cX4_height 66 = .ok (.iload_n 1, 1) := by decide +kernel
theorem dX4_height_67 : decode cX4_height 67 = .ok (.iload_n 3, 1) := by decide +kernel
theorem dX4_height_68 : decode cX4_height 68 = .ok (.invokevirtual 172, 3) := by decide +kernel
theorem dX4_height_71 : decode cX4_height 71 = .ok (.i2l, 1) := by decide +kernel
theorem dX4_height_72 : decode cX4_height 72 = .ok (.aload_n 0, 1) := by decide +kernel
theorem dX4_height_73 : decode cX4_height 73 = .ok (.getfield 19, 3) := by decide +kernel
theorem dX4_height_76 : decode cX4_height 76 = .ok (.iload_n 1, 1) := by decide +kernel
theorem dX4_height_77 : decode cX4_height 77 = .ok (.iload_n 2, 1) := by decide +kernel
theorem dX4_height_78 : decode cX4_height 78 = .ok (.invokevirtual 172, 3) := by decide +kernel
theorem dX4_height_81 : decode cX4_height 81 = .ok (.i2l, 1) := by decide +kernel
theorem dX4_height_82 : decode cX4_height 82 = .ok (.lsub, 1) := by decide +kernel
theorem dX4_height_83 : decode cX4_height 83 = .ok (.iload 4, 2) := by decide +kernel
theorem dX4_height_85 : decode cX4_height 85 = .ok (.i2l, 1) := by decide +kernel
theorem dX4_height_86 : decode cX4_height 86 = .ok (.iload 5, 2) := by decide +kernel
theorem dX4_height_88 : decode cX4_height 88 = .ok (.i2l, 1) := by decide +kernel
theorem dX4_height_89 : decode cX4_height 89 = .ok (.lmul, 1) := by decide +kernel
theorem dX4_height_90 : decode cX4_height 90 = .ok (.lsub, 1) := by decide +kernel
theorem dX4_height_91 : decode cX4_height 91 = .ok (.lstore 6, 2) := by decide +kernel
theorem dX4_height_93 : decode cX4_height 93 = .ok (.ldc2_w 220, 3) := by decide +kernel
theorem dX4_height_96 : decode cX4_height 96 = .ok (.lload 6, 2) := by decide +kernel
theorem dX4_height_98 : decode cX4_height 98 = .ok (.lmul, 1) := by decide +kernel
theorem dX4_height_99 : decode cX4_height 99 = .ok (.iload 5, 2) := by decide +kernel
theorem dX4_height_101 : decode cX4_height 101 = .ok (.i2l, 1) := by decide +kernel
theorem dX4_height_102 : decode cX4_height 102 = .ok (.ldiv, 1) := by decide +kernel
theorem dX4_height_103 : decode cX4_height 103 = .ok (.l2i, 1) := by decide +kernel
theorem dX4_height_104 : decode cX4_height 104 = .ok (.ireturn, 1) := by decide +kernel
set_option maxRecDepth 20000 in
theorem ggX4_events_X0_count : GoodIn wsX4_events wsX0_count := goodIn_r _ [6, 7, 18, 19] (by decide +kernel) (by decide +kernel)
set_option maxRecDepth 20000 in
theorem gX4_events_X0_count : GoodIn wsX4_events (wsV RX4 119 RX0 yX0_count wsX0_count) := goodIn_app (goodIn_of _ (by decide +kernel)) ggX4_events_X0_count
theorem dX4_events_0 : decode cX4_events 0 = .ok (.aload_n 0, 1) := by decide +kernel
theorem dX4_events_1 : decode cX4_events 1 = .ok (.getfield 26, 3) := by decide +kernel
theorem dX4_events_4 : decode cX4_events 4 = .ok (.invokevirtual 119, 3) := by decide +kernel
theorem dX4_events_7 : decode cX4_events 7 = .ok (.ireturn, 1) := by decide +kernel
theorem dX4_isWithin_0 : decode cX4_isWithin 0 = .ok (.iload_n 0, 1) := by decide +kernel
theorem dX4_isWithin_1 : decode cX4_isWithin 1 = .ok (.iload_n 1, 1) := by decide +kernel
theorem dX4_isWithin_2 : decode cX4_isWithin 2 = .ok (.if_icmp .lt 12, 3) := by decide +kernel
theorem dX4_isWithin_5 : decode cX4_isWithin 5 = .ok (.iload_n 0, 1) := by decide +kernel
theorem dX4_isWithin_6 : decode cX4_isWithin 6 = .ok (.iload_n 2, 1) := by decide +kernel
theorem dX4_isWithin_7 : decode cX4_isWithin 7 = .ok (.if_icmp .gt 7, 3) := by decide +kernel
theorem dX4_isWithin_10 : decode cX4_isWithin 10 = .ok (.iconst 1, 1) := by decide +kernel
theorem dX4_isWithin_11 : decode cX4_isWithin 11 = .ok (.goto 4, 3) := by decide +kernel
theorem dX4_isWithin_14 : decode cX4_isWithin 14 = .ok (.iconst 0, 1) := by decide +kernel
theorem dX4_isWithin_15 : decode cX4_isWithin 15 = .ok (.ireturn, 1) := by decide +kernel
theorem dX4_held_0 : decode cX4_held 0 = .ok (.iload_n 1, 1) := by decide +kernel
theorem dX4_held_1 : decode cX4_held 1 = .ok (.ineg, 1) := by decide +kernel
theorem dX4_held_2 : decode cX4_held 2 = .ok (.iload_n 1, 1) := by decide +kernel
theorem dX4_held_3 : decode cX4_held 3 = .ok (.iload_n 0, 1) := by decide +kernel
theorem dX4_held_4 : decode cX4_held 4 = .ok (.invokestatic 185, 3) := by decide +kernel
theorem dX4_held_7 : decode cX4_held 7 = .ok (.invokestatic 190, 3) := by decide +kernel
theorem dX4_held_10 : decode cX4_held 10 = .ok (.ireturn, 1) := by decide +kernel
set_option maxRecDepth 20000 in
theorem ggX4_isAmountOf_X4_isWithin : GoodIn wsX4_isAmountOf wsX4_isWithin := goodIn_r _ [4] (by decide +kernel) (by decide +kernel)
set_option maxRecDepth 20000 in
theorem gX4_isAmountOf_X4_isWithin : GoodIn wsX4_isAmountOf (va_wsS RX4 59 yX4_isWithin wsX4_isWithin) := goodIn_app (goodIn_of _ (by decide +kernel)) ggX4_isAmountOf_X4_isWithin
theorem dX4_isAmountOf_0 : decode cX4_isAmountOf 0 = .ok (.iload_n 0, 1) := by decide +kernel
theorem dX4_isAmountOf_1 : decode cX4_isAmountOf 1 = .ok (.tableswitch 68 0 3 #[31, 42, 51, 60], 31) := by decide +kernel
theorem dX4_isAmountOf_32 : decode cX4_isAmountOf 32 = .ok (.iload_n 1, 1) := by decide +kernel
theorem dX4_isAmountOf_33 : decode cX4_isAmountOf 33 = .ok (.sipush (-500), 3) := by decide +kernel
theorem dX4_isAmountOf_36 : decode cX4_isAmountOf 36 = .ok (.sipush 500, 3) := by decide +kernel
theorem dX4_isAmountOf_39 : decode cX4_isAmountOf 39 = .ok (.invokestatic 59, 3) := by decide +kernel
theorem dX4_isAmountOf_42 : decode cX4_isAmountOf 42 = .ok (.ireturn, 1) := by decide +kernel
theorem dX4_isAmountOf_43 : decode cX4_isAmountOf 43 = .ok (.iload_n 1, 1) := by decide +kernel
theorem dX4_isAmountOf_44 : decode cX4_isAmountOf 44 = .ok (.iconst 0, 1) := by decide +kernel
theorem dX4_isAmountOf_45 : decode cX4_isAmountOf 45 = .ok (.sipush 5000, 3) := by decide +kernel
theorem dX4_isAmountOf_48 : decode cX4_isAmountOf 48 = .ok (.invokestatic 59, 3) := by decide +kernel
theorem dX4_isAmountOf_51 : decode cX4_isAmountOf 51 = .ok (.ireturn, 1) := by decide +kernel
theorem dX4_isAmountOf_52 : decode cX4_isAmountOf 52 = .ok (.iload_n 1, 1) := by decide +kernel
theorem dX4_isAmountOf_53 : decode cX4_isAmountOf 53 = .ok (.bipush (-50), 2) := by decide +kernel
theorem dX4_isAmountOf_55 : decode cX4_isAmountOf 55 = .ok (.bipush 50, 2) := by decide +kernel
theorem dX4_isAmountOf_57 : decode cX4_isAmountOf 57 = .ok (.invokestatic 59, 3) := by decide +kernel
theorem dX4_isAmountOf_60 : decode cX4_isAmountOf 60 = .ok (.ireturn, 1) := by decide +kernel
theorem dX4_isAmountOf_61 : decode cX4_isAmountOf 61 = .ok (.iload_n 1, 1) := by decide +kernel
theorem dX4_isAmountOf_62 : decode cX4_isAmountOf 62 = .ok (.bipush (-3), 2) := by decide +kernel
theorem dX4_isAmountOf_64 : decode cX4_isAmountOf 64 = .ok (.iconst 3, 1) := by decide +kernel
theorem dX4_isAmountOf_65 : decode cX4_isAmountOf 65 = .ok (.invokestatic 59, 3) := by decide +kernel
theorem dX4_isAmountOf_68 : decode cX4_isAmountOf 68 = .ok (.ireturn, 1) := by decide +kernel
theorem dX4_isAmountOf_69 : decode cX4_isAmountOf 69 = .ok (.iconst 0, 1) := by decide +kernel
theorem dX4_isAmountOf_70 : decode cX4_isAmountOf 70 = .ok (.ireturn, 1) := by decide +kernel
set_option maxRecDepth 20000 in
theorem ggX4_hasPassed_X4_isWithin : GoodIn wsX4_hasPassed wsX4_isWithin := goodIn_r _ [5] (by decide +kernel) (by decide +kernel)
set_option maxRecDepth 20000 in
theorem gX4_hasPassed_X4_isWithin : GoodIn wsX4_hasPassed (va_wsS RX4 59 yX4_isWithin wsX4_isWithin) := goodIn_app (goodIn_of _ (by decide +kernel)) ggX4_hasPassed_X4_isWithin
theorem dX4_hasPassed_0 : decode cX4_hasPassed 0 = .ok (.iload_n 1, 1) := by decide +kernel
theorem dX4_hasPassed_1 : decode cX4_hasPassed 1 = .ok (.iconst 1, 1) := by decide +kernel
theorem dX4_hasPassed_2 : decode cX4_hasPassed 2 = .ok (.aload_n 0, 1) := by decide +kernel
theorem dX4_hasPassed_3 : decode cX4_hasPassed 3 = .ok (.getfield 45, 3) := by decide +kernel
theorem dX4_hasPassed_6 : decode cX4_hasPassed 6 = .ok (.invokestatic 59, 3) := by decide +kernel
theorem dX4_hasPassed_9 : decode cX4_hasPassed 9 = .ok (.ireturn, 1) := by decide +kernel
set_option maxRecDepth 20000 in
theorem ggX4_hasMeasured_X4_hasPassed : GoodIn wsX4_hasMeasured wsX4_hasPassed := goodIn_r _ [6, 7, 8, 9, 5, 10, 22, 23, 24, 25, 26, 27, 28, 29, 30, 31] (by decide +kernel) (by decide +kernel)
set_option maxRecDepth 20000 in
theorem gX4_hasMeasured_X4_hasPassed : GoodIn wsX4_hasMeasured (wsV RX4 196 RX4 yX4_hasPassed wsX4_hasPassed) := goodIn_app (goodIn_of _ (by decide +kernel)) ggX4_hasMeasured_X4_hasPassed
set_option maxRecDepth 20000 in
theorem ggX4_hasMeasured_X2_has : GoodIn wsX4_hasMeasured wsX2_has := goodIn_r _ [15, 16, 32, 33, 34, 35, 36, 37, 38, 39, 40] (by decide +kernel) (by decide +kernel)
set_option maxRecDepth 20000 in
theorem gX4_hasMeasured_X2_has : GoodIn wsX4_hasMeasured (wsV RX4 112 RX2 yX2_has wsX2_has) := goodIn_app (goodIn_of _ (by decide +kernel)) ggX4_hasMeasured_X2_has
set_option maxRecDepth 20000 in
theorem ggX4_hasMeasured_X2_isLaidBefore : GoodIn wsX4_hasMeasured wsX2_isLaidBefore := goodIn_r _ [20, 21, 32, 33, 34, 35, 36, 37, 38, 39, 40] (by decide +kernel) (by decide +kernel)
set_option maxRecDepth 20000 in
theorem gX4_hasMeasured_X2_isLaidBefore : GoodIn wsX4_hasMeasured (wsV RX4 222 RX2 yX2_isLaidBefore wsX2_isLaidBefore) := goodIn_app (goodIn_of _ (by decide +kernel)) ggX4_hasMeasured_X2_isLaidBefore
theorem dX4_hasMeasured_0 : decode cX4_hasMeasured 0 = .ok (.aload_n 0, 1) := by decide +kernel
theorem dX4_hasMeasured_1 : decode cX4_hasMeasured 1 = .ok (.iload_n 2, 1) := by decide +kernel
theorem dX4_hasMeasured_2 : decode cX4_hasMeasured 2 = .ok (.invokevirtual 196, 3) := by decide +kernel
theorem dX4_hasMeasured_5 : decode cX4_hasMeasured 5 = .ok (.ifCond .eq 30, 3) := by decide +kernel
theorem dX4_hasMeasured_8 : decode cX4_hasMeasured 8 = .ok (.aload_n 0, 1) := by decide +kernel
theorem dX4_hasMeasured_9 : decode cX4_hasMeasured 9 = .ok (.getfield 19, 3) := by decide +kernel
theorem dX4_hasMeasured_12 : decode cX4_hasMeasured 12 = .ok (.iload_n 1, 1) := by decide +kernel
theorem dX4_hasMeasured_13 : decode cX4_hasMeasured 13 = .ok (.invokevirtual 112, 3) := by decide +kernel
theorem dX4_hasMeasured_16 : decode cX4_hasMeasured 16 = .ok (.ifCond .eq 19, 3) := by decide +kernel
theorem dX4_hasMeasured_19 : decode cX4_hasMeasured 19 = .ok (.aload_n 0, 1) := by decide +kernel
theorem dX4_hasMeasured_20 : decode cX4_hasMeasured 20 = .ok (.getfield 19, 3) := by decide +kernel
theorem dX4_hasMeasured_23 : decode cX4_hasMeasured 23 = .ok (.iload_n 1, 1) := by decide +kernel
theorem dX4_hasMeasured_24 : decode cX4_hasMeasured 24 = .ok (.iload_n 2, 1) := by decide +kernel
theorem dX4_hasMeasured_25 : decode cX4_hasMeasured 25 = .ok (.invokevirtual 222, 3) := by decide +kernel
theorem dX4_hasMeasured_28 : decode cX4_hasMeasured 28 = .ok (.ifCond .eq 7, 3) := by decide +kernel
theorem dX4_hasMeasured_31 : decode cX4_hasMeasured 31 = .ok (.iconst 1, 1) := by decide +kernel
theorem dX4_hasMeasured_32 : decode cX4_hasMeasured 32 = .ok (.goto 4, 3) := by decide +kernel
theorem dX4_hasMeasured_35 : decode cX4_hasMeasured 35 = .ok (.iconst 0, 1) := by decide +kernel
theorem dX4_hasMeasured_36 : decode cX4_hasMeasured 36 = .ok (.ireturn, 1) := by decide +kernel
set_option maxRecDepth 20000 in
theorem ggX4_passOneDay_X0_count : GoodIn wsX4_passOneDay wsX0_count := goodIn_r _ [10, 11, 137, 138] (by decide +kernel) (by decide +kernel)
set_option maxRecDepth 20000 in
theorem gX4_passOneDay_X0_count : GoodIn wsX4_passOneDay (wsV RX4 119 RX0 yX0_count wsX0_count) := goodIn_app (goodIn_of _ (by decide +kernel)) ggX4_passOneDay_X0_count
set_option maxRecDepth 20000 in
theorem ggX4_passOneDay_X0_isNextDue : GoodIn wsX4_passOneDay wsX0_isNextDue := goodIn_r _ [15, 11, 16, 137, 138] (by decide +kernel) (by decide +kernel)
set_option maxRecDepth 20000 in
theorem gX4_passOneDay_X0_isNextDue : GoodIn wsX4_passOneDay (wsV RX4 225 RX0 yX0_isNextDue wsX0_isNextDue) := goodIn_app (goodIn_of _ (by decide +kernel)) ggX4_passOneDay_X0_isNextDue
set_option maxRecDepth 20000 in
theorem ggX4_passOneDay_X0_takeNext : GoodIn wsX4_passOneDay wsX0_takeNext := goodIn_r _ [20, 11, 16, 137, 138] (by decide +kernel) (by decide +kernel)
set_option maxRecDepth 20000 in
theorem gX4_passOneDay_X0_takeNext : GoodIn wsX4_passOneDay (wsV RX4 228 RX0 yX0_takeNext wsX0_takeNext) := goodIn_app (goodIn_of _ (by decide +kernel)) ggX4_passOneDay_X0_takeNext
set_option maxRecDepth 20000 in
theorem ggX4_passOneDay_X4_happen : GoodIn wsX4_passOneDay wsX4_happen := goodIn_r _ [25, 4, 5, 26, 27, 9, 28, 29, 30, 31, 32, 33, 34, 35, 36, 37, 38, 39, 40, 41, 24, 42, 43, 44, 45, 46, 47, 48, 49, 50, 51, 52, 53, 54, 55, 56, 57, 58, 59, 60, 61, 62, 63, 64, 65, 127, 128, 129, 130, 131, 132, 133, 134, 135, 136, 139, 140, 141, 142, 143, 144, 145, 146, 147, 148, 149, 150, 151, 152, 153] (by decide +kernel) (by decide +kernel)
set_option maxRecDepth 20000 in
theorem gX4_passOneDay_X4_happen : GoodIn wsX4_passOneDay (wsV RX4 231 RX4 yX4_happen wsX4_happen) := goodIn_app (goodIn_of _ (by decide +kernel)) ggX4_passOneDay_X4_happen
set_option maxRecDepth 20000 in
theorem ggX4_passOneDay_X1_run : GoodIn wsX4_passOneDay wsX1_run := goodIn_r _ [69, 70, 71, 40, 54, 72, 73, 36, 37, 38, 39, 41, 24, 42, 43, 44, 45, 46, 47, 48, 49, 139, 140, 141, 142, 143, 144] (by decide +kernel) (by decide +kernel)
set_option maxRecDepth 20000 in
theorem gX4_passOneDay_X1_run : GoodIn wsX4_passOneDay (wsV RX4 235 RX1 yX1_run wsX1_run) := goodIn_app (goodIn_of _ (by decide +kernel)) ggX4_passOneDay_X1_run
set_option maxRecDepth 20000 in
theorem ggX4_passOneDay_X2_measureAll : GoodIn wsX4_passOneDay wsX2_measureAll := goodIn_r _ [77, 78, 79, 80, 81, 60, 65, 82, 83, 84, 38, 85, 71, 145, 146, 147, 148, 149, 150, 151, 152, 153, 139, 140, 141, 142, 143, 144] (by decide +kernel) (by decide +kernel)
set_option maxRecDepth 20000 in
theorem gX4_passOneDay_X2_measureAll : GoodIn wsX4_passOneDay (wsV RX4 238 RX2 yX2_measureAll wsX2_measureAll) := goodIn_app (goodIn_of _ (by decide +kernel)) ggX4_passOneDay_X2_measureAll
set_option maxRecDepth 20000 in
theorem ggX4_passOneDay_X4_steered : GoodIn wsX4_passOneDay wsX4_steered := goodIn_r _ [89, 90, 91, 92, 93, 24, 94, 4, 5, 95, 96, 97, 38, 98, 70, 99, 100, 101, 102, 103, 104, 105, 106, 58, 107, 78, 108, 109, 110, 111, 79, 80, 112, 113, 114, 115, 116, 117, 118, 119, 120, 121, 122, 123, 124, 81, 125, 126, 41, 42, 43, 44, 45, 46, 47, 48, 49, 127, 128, 129, 130, 131, 132, 133, 134, 135, 136, 139, 140, 141, 142, 143, 144, 145, 146, 147, 148, 149, 150, 151, 152, 153] (by decide +kernel) (by decide +kernel)
set_option maxRecDepth 20000 in
theorem gX4_passOneDay_X4_steered : GoodIn wsX4_passOneDay (wsV RX4 242 RX4 yX4_steered wsX4_steered) := goodIn_app (goodIn_of _ (by decide +kernel)) ggX4_passOneDay_X4_steered
theorem dX4_passOneDay_0 : decode cX4_passOneDay 0 = .ok (.aload_n 0, 1) := by decide +kernel
theorem dX4_passOneDay_1 : decode cX4_passOneDay 1 = .ok (.getfield 37, 3) := by decide +kernel
theorem dX4_passOneDay_4 : decode cX4_passOneDay 4 = .ok (.aload_n 0, 1) := by decide +kernel
theorem dX4_passOneDay_5 : decode cX4_passOneDay 5 = .ok (.getfield 45, 3) := by decide +kernel
theorem dX4_passOneDay_8 : decode cX4_passOneDay 8 = .ok (.iaload, 1) := by decide +kernel
theorem dX4_passOneDay_9 : decode cX4_passOneDay 9 = .ok (.istore_n 1, 1) := by decide +kernel
theorem dX4_passOneDay_10 : decode cX4_passOneDay 10 = .ok (.aload_n 0, 1) := by decide +kernel
theorem dX4_passOneDay_11 : decode cX4_passOneDay 11 = .ok (.dup, 1) := by decide +kernel
theorem dX4_passOneDay_12 : decode cX4_passOneDay 12 = .ok (.getfield 45, 3) := by decide +kernel
theorem dX4_passOneDay_15 : decode cX4_passOneDay 15 = .ok (.iconst 1, 1) := by decide +kernel
theorem dX4_passOneDay_16 : decode cX4_passOneDay 16 = .ok (.iadd, 1) := by decide +kernel
theorem dX4_passOneDay_17 : decode cX4_passOneDay 17 = .ok (.putfield 45, 3) := by decide +kernel
theorem dX4_passOneDay_20 : decode cX4_passOneDay 20 = .ok (.aload_n 0, 1) := by decide +kernel
theorem dX4_passOneDay_21 : decode cX4_passOneDay 21 = .ok (.getfield 26, 3) := by decide +kernel
theorem dX4_passOneDay_24 : decode cX4_passOneDay 24 = .ok (.invokevirtual 119, 3) := by decide +kernel
theorem dX4_passOneDay_27 : decode cX4_passOneDay 27 = .ok (.istore_n 2, 1) := by decide +kernel
theorem dX4_passOneDay_28 : decode cX4_passOneDay 28 = .ok (.iload_n 2, 1) := by decide +kernel
theorem dX4_passOneDay_29 : decode cX4_passOneDay 29 = .ok (.ifCond .le 34, 3) := by decide +kernel
theorem dX4_passOneDay_32 : decode cX4_passOneDay 32 = .ok (.aload_n 0, 1) := by decide +kernel
theorem dX4_passOneDay_33 : decode cX4_passOneDay 33 = .ok (.getfield 26, 3) := by decide +kernel
theorem dX4_passOneDay_36 : decode cX4_passOneDay 36 = .ok (.aload_n 0, 1) := by decide +kernel
theorem dX4_passOneDay_37 : decode cX4_passOneDay 37 = .ok (.getfield 45, 3) := by decide +kernel
theorem dX4_passOneDay_40 : decode cX4_passOneDay 40 = .ok (.invokevirtual 225, 3) := by decide +kernel
theorem dX4_passOneDay_43 : decode cX4_passOneDay 43 = .ok (.ifCond .eq 20, 3) := by decide +kernel
theorem dX4_passOneDay_46 : decode cX4_passOneDay 46 = .ok (.aload_n 0, 1) := by decide +kernel
theorem dX4_passOneDay_47 : decode cX4_passOneDay 47 = .ok (.aload_n 0, 1) := by decide +kernel
theorem dX4_passOneDay_48 : decode cX4_passOneDay 48 = .ok (.getfield 26, 3) := by decide +kernel
theorem dX4_passOneDay_51 : decode cX4_passOneDay 51 = .ok (.invokevirtual 228, 3) := by decide +kernel
theorem dX4_passOneDay_54 : decode cX4_passOneDay 54 = .ok (.invokevirtual 231, 3) := by decide +kernel
theorem dX4_passOneDay_57 : decode cX4_passOneDay 57 = .ok (.iinc 2 (-1), 3) := by decide +kernel
theorem dX4_passOneDay_60 : decode cX4_passOneDay 60 = .ok (.goto (-32), 3) := by decide +kernel
theorem dX4_passOneDay_63 : decode cX4_passOneDay 63 = .ok (.aload_n 0, 1) := by decide +kernel
theorem dX4_passOneDay_64 : decode cX4_passOneDay 64 = .ok (.getfield 10, 3) := by decide +kernel
theorem dX4_passOneDay_67 : decode cX4_passOneDay 67 = .ok (.aload_n 0, 1) := by decide +kernel
theorem dX4_passOneDay_68 : decode cX4_passOneDay 68 = .ok (.getfield 45, 3) := by decide +kernel
theorem dX4_passOneDay_71 : decode cX4_passOneDay 71 = .ok (.invokevirtual 235, 3) := by decide +kernel
theorem dX4_passOneDay_74 : decode cX4_passOneDay 74 = .ok (.aload_n 0, 1) := by decide +kernel
theorem dX4_passOneDay_75 : decode cX4_passOneDay 75 = .ok (.getfield 19, 3) := by decide +kernel
theorem dX4_passOneDay_78 : decode cX4_passOneDay 78 = .ok (.aload_n 0, 1) := by decide +kernel
theorem dX4_passOneDay_79 : decode cX4_passOneDay 79 = .ok (.getfield 10, 3) := by decide +kernel
theorem dX4_passOneDay_82 : decode cX4_passOneDay 82 = .ok (.aload_n 0, 1) := by decide +kernel
theorem dX4_passOneDay_83 : decode cX4_passOneDay 83 = .ok (.getfield 45, 3) := by decide +kernel
theorem dX4_passOneDay_86 : decode cX4_passOneDay 86 = .ok (.invokevirtual 238, 3) := by decide +kernel
theorem dX4_passOneDay_89 : decode cX4_passOneDay 89 = .ok (.aload_n 0, 1) := by decide +kernel
theorem dX4_passOneDay_90 : decode cX4_passOneDay 90 = .ok (.getfield 37, 3) := by decide +kernel
theorem dX4_passOneDay_93 : decode cX4_passOneDay 93 = .ok (.aload_n 0, 1) := by decide +kernel
theorem dX4_passOneDay_94 : decode cX4_passOneDay 94 = .ok (.getfield 45, 3) := by decide +kernel
theorem dX4_passOneDay_97 : decode cX4_passOneDay 97 = .ok (.aload_n 0, 1) := by decide +kernel
theorem dX4_passOneDay_98 : decode cX4_passOneDay 98 = .ok (.iload_n 1, 1) := by decide +kernel
theorem dX4_passOneDay_99 : decode cX4_passOneDay 99 = .ok (.aload_n 0, 1) := by decide +kernel
theorem dX4_passOneDay_100 : decode cX4_passOneDay 100 = .ok (.getfield 45, 3) := by decide +kernel
theorem dX4_passOneDay_103 : decode cX4_passOneDay 103 = .ok (.invokevirtual 242, 3) := by decide +kernel
theorem dX4_passOneDay_106 : decode cX4_passOneDay 106 = .ok (.iastore, 1) := by decide +kernel
theorem dX4_passOneDay_107 : decode cX4_passOneDay 107 = .ok (.return_, 1) := by decide +kernel
set_option maxRecDepth 20000 in
theorem ggX4_happen_X0_numberOf : GoodIn wsX4_happen wsX0_numberOf := goodIn_r _ [6] (by decide +kernel) (by decide +kernel)
set_option maxRecDepth 20000 in
theorem gX4_happen_X0_numberOf : GoodIn wsX4_happen (va_wsS RX4 245 yX0_numberOf wsX0_numberOf) := goodIn_app (goodIn_of _ (by decide +kernel)) ggX4_happen_X0_numberOf
set_option maxRecDepth 20000 in
theorem ggX4_happen_X0_amountOf : GoodIn wsX4_happen wsX0_amountOf := goodIn_r _ [9] (by decide +kernel) (by decide +kernel)
set_option maxRecDepth 20000 in
theorem gX4_happen_X0_amountOf : GoodIn wsX4_happen (va_wsS RX4 248 yX0_amountOf wsX0_amountOf) := goodIn_app (goodIn_of _ (by decide +kernel)) ggX4_happen_X0_amountOf
set_option maxRecDepth 20000 in
theorem ggX4_happen_X0_kindOf : GoodIn wsX4_happen wsX0_kindOf := goodIn_r _ [12] (by decide +kernel) (by decide +kernel)
set_option maxRecDepth 20000 in
theorem gX4_happen_X0_kindOf : GoodIn wsX4_happen (va_wsS RX4 251 yX0_kindOf wsX0_kindOf) := goodIn_app (goodIn_of _ (by decide +kernel)) ggX4_happen_X0_kindOf
set_option maxRecDepth 20000 in
theorem ggX4_happen_X1_addToRate : GoodIn wsX4_happen wsX1_addToRate := goodIn_r _ [17, 18, 19, 20, 21, 22, 23, 24, 25, 26, 27, 28, 55, 56, 57, 58, 59, 60] (by decide +kernel) (by decide +kernel)
set_option maxRecDepth 20000 in
theorem gX4_happen_X1_addToRate : GoodIn wsX4_happen (wsV RX4 254 RX1 yX1_addToRate wsX1_addToRate) := goodIn_app (goodIn_of _ (by decide +kernel)) ggX4_happen_X1_addToRate
set_option maxRecDepth 20000 in
theorem ggX4_happen_X1_setHeight : GoodIn wsX4_happen wsX1_setHeight := goodIn_r _ [32, 33, 55, 56, 57, 58, 59, 60] (by decide +kernel) (by decide +kernel)
set_option maxRecDepth 20000 in
theorem gX4_happen_X1_setHeight : GoodIn wsX4_happen (wsV RX4 258 RX1 yX1_setHeight wsX1_setHeight) := goodIn_app (goodIn_of _ (by decide +kernel)) ggX4_happen_X1_setHeight
set_option maxRecDepth 20000 in
theorem ggX4_happen_X2_setAsymmetry : GoodIn wsX4_happen wsX2_setAsymmetry := goodIn_r _ [38, 39, 61, 62, 63, 64, 65, 66, 67, 68, 69] (by decide +kernel) (by decide +kernel)
set_option maxRecDepth 20000 in
theorem gX4_happen_X2_setAsymmetry : GoodIn wsX4_happen (wsV RX4 261 RX2 yX2_setAsymmetry wsX2_setAsymmetry) := goodIn_app (goodIn_of _ (by decide +kernel)) ggX4_happen_X2_setAsymmetry
set_option maxRecDepth 20000 in
theorem ggX4_happen_X2_addCycles : GoodIn wsX4_happen wsX2_addCycles := goodIn_r _ [43, 44, 61, 62, 63, 64, 65, 66, 67, 68, 69] (by decide +kernel) (by decide +kernel)
set_option maxRecDepth 20000 in
theorem gX4_happen_X2_addCycles : GoodIn wsX4_happen (wsV RX4 264 RX2 yX2_addCycles wsX2_addCycles) := goodIn_app (goodIn_of _ (by decide +kernel)) ggX4_happen_X2_addCycles
theorem dX4_happen_0 : decode cX4_happen 0 = .ok (.iload_n 1, 1) := by decide +kernel
theorem dX4_happen_1 : decode cX4_happen 1 = .ok (.invokestatic 245, 3) := by decide +kernel
theorem dX4_happen_4 : decode cX4_happen 4 = .ok (.istore_n 2, 1) := by decide +kernel
theorem dX4_happen_5 : decode cX4_happen 5 = .ok (.iload_n 1, 1) := by decide +kernel
theorem dX4_happen_6 : decode cX4_happen 6 = .ok (.invokestatic 248, 3) := by decide +kernel
theorem dX4_happen_9 : decode cX4_happen 9 = .ok (.istore_n 3, 1) := by decide +kernel
theorem dX4_happen_10 : decode cX4_happen 10 = .ok (.iload_n 1, 1) := by decide +kernel
theorem dX4_happen_11 : decode cX4_happen 11 = .ok (.invokestatic 251, 3) := by decide +kernel
theorem dX4_happen_14 : decode cX4_happen 14 = .ok (.tableswitch 62 0 2 #[26, 38, 50], 26) := by decide +kernel
theorem dX4_happen_40 : decode cX4_happen 40 = .ok (.aload_n 0, 1) := by decide +kernel
theorem dX4_happen_41 : decode cX4_happen 41 = .ok (.getfield 10, 3) := by decide +kernel
theorem dX4_happen_44 : decode cX4_happen 44 = .ok (.iload_n 2, 1) := by decide +kernel
theorem dX4_happen_45 : decode cX4_happen 45 = .ok (.iload_n 3, 1) := by decide +kernel
theorem dX4_happen_46 : decode cX4_happen 46 = .ok (.invokevirtual 254, 3) := by decide +kernel
theorem dX4_happen_49 : decode cX4_happen 49 = .ok (.goto 36, 3) := by decide +kernel
theorem dX4_happen_52 : decode cX4_happen 52 = .ok (.aload_n 0, 1) := by decide +kernel
theorem dX4_happen_53 : decode cX4_happen 53 = .ok (.getfield 10, 3) := by decide +kernel
theorem dX4_happen_56 : decode cX4_happen 56 = .ok (.iload_n 2, 1) := by decide +kernel
theorem dX4_happen_57 : decode cX4_happen 57 = .ok (.iload_n 3, 1) := by decide +kernel
theorem dX4_happen_58 : decode cX4_happen 58 = .ok (.invokevirtual 258, 3) := by decide +kernel
theorem dX4_happen_61 : decode cX4_happen 61 = .ok (.goto 24, 3) := by decide +kernel
theorem dX4_happen_64 : decode cX4_happen 64 = .ok (.aload_n 0, 1) := by decide +kernel
theorem dX4_happen_65 : decode cX4_happen 65 = .ok (.getfield 19, 3) := by decide +kernel
theorem dX4_happen_68 : decode cX4_happen 68 = .ok (.iload_n 2, 1) := by decide +kernel
theorem dX4_happen_69 : decode cX4_happen 69 = .ok (.iload_n 3, 1) := by decide +kernel
theorem dX4_happen_70 : decode cX4_happen 70 = .ok (.invokevirtual 261, 3) := by decide +kernel
theorem dX4_happen_73 : decode cX4_happen 73 = .ok (.goto 12, 3) := by decide +kernel
theorem dX4_happen_76 : decode cX4_happen 76 = .ok (.aload_n 0, 1) := by decide +kernel
theorem dX4_happen_77 : decode cX4_happen 77 = .ok (.getfield 19, 3) := by decide +kernel
theorem dX4_happen_80 : decode cX4_happen 80 = .ok (.iload_n 2, 1) := by decide +kernel
theorem dX4_happen_81 : decode cX4_happen 81 = .ok (.iload_n 3, 1) := by decide +kernel
theorem dX4_happen_82 : decode cX4_happen 82 = .ok (.invokevirtual 264, 3) := by decide +kernel
theorem dX4_happen_85 : decode cX4_happen 85 = .ok (.return_, 1) := by decide +kernel
theorem dX4_housesFor_0 : decode cX4_housesFor 0 = .ok (.iconst 0, 1) := by decide +kernel
theorem dX4_housesFor_1 : decode cX4_housesFor 1 = .ok (.istore_n 1, 1) := by decide +kernel
theorem dX4_housesFor_2 : decode cX4_housesFor 2 = .ok (.iconst 0, 1) := by decide +kernel
theorem dX4_housesFor_3 : decode cX4_housesFor 3 = .ok (.istore_n 2, 1) := by decide +kernel
theorem dX4_housesFor_4 : decode cX4_housesFor 4 = .ok (.iload_n 2, 1) := by decide +kernel
theorem dX4_housesFor_5 : decode cX4_housesFor 5 = .ok (.bipush 7, 2) := by decide +kernel
theorem dX4_housesFor_7 : decode cX4_housesFor 7 = .ok (.if_icmp .ge 21, 3) := by decide +kernel
theorem dX4_housesFor_10 : decode cX4_housesFor 10 = .ok (.aload_n 0, 1) := by decide +kernel
theorem dX4_housesFor_11 : decode cX4_housesFor 11 = .ok (.getfield 41, 3) := by decide +kernel
theorem dX4_housesFor_14 : decode cX4_housesFor 14 = .ok (.iload_n 2, 1) := by decide +kernel
theorem dX4_housesFor_15 : decode cX4_housesFor 15 = .ok (.baload, 1) := by decide +kernel
theorem dX4_housesFor_16 : decode cX4_housesFor 16 = .ok (.ifCond .eq 6, 3) := by decide +kernel
theorem dX4_housesFor_19 : decode cX4_housesFor 19 = .ok (.iinc 1 1, 3) := by decide +kernel
theorem dX4_housesFor_22 : decode cX4_housesFor 22 = .ok (.iinc 2 1, 3) := by decide +kernel
theorem dX4_housesFor_25 : decode cX4_housesFor 25 = .ok (.goto (-21), 3) := by decide +kernel
theorem dX4_housesFor_28 : decode cX4_housesFor 28 = .ok (.iload_n 1, 1) := by decide +kernel
theorem dX4_housesFor_29 : decode cX4_housesFor 29 = .ok (.ireturn, 1) := by decide +kernel
set_option maxRecDepth 20000 in
theorem ggX4_openRings_X3_gather : GoodIn wsX4_openRings wsX3_gather := goodIn_r _ [8, 9, 10, 11, 12, 13, 14, 15, 16, 17, 18, 19, 20, 21, 22, 23, 24, 7, 25, 26, 27, 28, 29, 30, 31, 32, 33, 34, 35, 36, 37, 38, 39, 40, 41, 42, 43, 44, 45, 46, 47, 48, 49, 50, 51, 52, 53, 54, 55, 56, 57, 58, 59, 60, 79, 80, 81, 82, 83, 84, 85, 86, 87, 88, 89, 90, 91, 92, 93, 94, 95, 96, 97, 98, 99] (by decide +kernel) (by decide +kernel)
set_option maxRecDepth 20000 in
theorem gX4_openRings_X3_gather : GoodIn wsX4_openRings (wsV RX4 201 RX3 yX3_gather wsX3_gather) := goodIn_app (goodIn_of _ (by decide +kernel)) ggX4_openRings_X3_gather
set_option maxRecDepth 20000 in
theorem ggX4_openRings_X3_countOpen : GoodIn wsX4_openRings wsX3_countOpen := goodIn_r _ [64, 9, 45, 65, 66, 67, 68, 79, 80, 81, 82, 83, 84, 85, 86, 87, 88, 89, 90] (by decide +kernel) (by decide +kernel)
set_option maxRecDepth 20000 in
theorem gX4_openRings_X3_countOpen : GoodIn wsX4_openRings (wsV RX4 267 RX3 yX3_countOpen wsX3_countOpen) := goodIn_app (goodIn_of _ (by decide +kernel)) ggX4_openRings_X3_countOpen
theorem dX4_openRings_0 : decode cX4_openRings 0 = .ok (.aload_n 0, 1) := by decide +kernel
theorem dX4_openRings_1 : decode cX4_openRings 1 = .ok (.getfield 33, 3) := by decide +kernel
theorem dX4_openRings_4 : decode cX4_openRings 4 = .ok (.aload_n 0, 1) := by decide +kernel
theorem dX4_openRings_5 : decode cX4_openRings 5 = .ok (.getfield 19, 3) := by decide +kernel
theorem dX4_openRings_8 : decode cX4_openRings 8 = .ok (.iload_n 1, 1) := by decide +kernel
theorem dX4_openRings_9 : decode cX4_openRings 9 = .ok (.invokevirtual 201, 3) := by decide +kernel
theorem dX4_openRings_12 : decode cX4_openRings 12 = .ok (.aload_n 0, 1) := by decide +kernel
theorem dX4_openRings_13 : decode cX4_openRings 13 = .ok (.getfield 33, 3) := by decide +kernel
theorem dX4_openRings_16 : decode cX4_openRings 16 = .ok (.aload_n 0, 1) := by decide +kernel
theorem dX4_openRings_17 : decode cX4_openRings 17 = .ok (.getfield 49, 3) := by decide +kernel
theorem dX4_openRings_20 : decode cX4_openRings 20 = .ok (.invokevirtual 267, 3) := by decide +kernel
theorem dX4_openRings_23 : decode cX4_openRings 23 = .ok (.ireturn, 1) := by decide +kernel
set_option maxRecDepth 20000 in
theorem ggX4_meanOrZero_X1_count : GoodIn wsX4_meanOrZero wsX1_count := goodIn_r _ [7, 8, 51, 52, 53, 54, 55, 56] (by decide +kernel) (by decide +kernel)
set_option maxRecDepth 20000 in
theorem gX4_meanOrZero_X1_count : GoodIn wsX4_meanOrZero (wsV RX4 70 RX1 yX1_count wsX1_count) := goodIn_app (goodIn_of _ (by decide +kernel)) ggX4_meanOrZero_X1_count
set_option maxRecDepth 20000 in
theorem ggX4_meanOrZero_X1_weightOf : GoodIn wsX4_meanOrZero wsX1_weightOf := goodIn_r _ [12, 13, 51, 52, 53, 54, 55, 56] (by decide +kernel) (by decide +kernel)
set_option maxRecDepth 20000 in
theorem gX4_meanOrZero_X1_weightOf : GoodIn wsX4_meanOrZero (wsV RX4 94 RX1 yX1_weightOf wsX1_weightOf) := goodIn_app (goodIn_of _ (by decide +kernel)) ggX4_meanOrZero_X1_weightOf
set_option maxRecDepth 20000 in
theorem ggX4_meanOrZero_X2_count : GoodIn wsX4_meanOrZero wsX2_count := goodIn_r _ [18, 19, 57, 58, 59, 60, 61, 62, 63, 64, 65] (by decide +kernel) (by decide +kernel)
set_option maxRecDepth 20000 in
theorem gX4_meanOrZero_X2_count : GoodIn wsX4_meanOrZero (wsV RX4 104 RX2 yX2_count wsX2_count) := goodIn_app (goodIn_of _ (by decide +kernel)) ggX4_meanOrZero_X2_count
set_option maxRecDepth 20000 in
theorem ggX4_meanOrZero_X2_otherThanZero : GoodIn wsX4_meanOrZero wsX2_otherThanZero := goodIn_r _ [23, 24, 25, 57, 58, 59, 60, 61, 62, 63, 64, 65] (by decide +kernel) (by decide +kernel)
set_option maxRecDepth 20000 in
theorem gX4_meanOrZero_X2_otherThanZero : GoodIn wsX4_meanOrZero (wsV RX4 270 RX2 yX2_otherThanZero wsX2_otherThanZero) := goodIn_app (goodIn_of _ (by decide +kernel)) ggX4_meanOrZero_X2_otherThanZero
set_option maxRecDepth 20000 in
theorem ggX4_meanOrZero_X2_isLaidBefore : GoodIn wsX4_meanOrZero wsX2_isLaidBefore := goodIn_r _ [29, 30, 57, 58, 59, 60, 61, 62, 63, 64, 65] (by decide +kernel) (by decide +kernel)
set_option maxRecDepth 20000 in
theorem gX4_meanOrZero_X2_isLaidBefore : GoodIn wsX4_meanOrZero (wsV RX4 222 RX2 yX2_isLaidBefore wsX2_isLaidBefore) := goodIn_app (goodIn_of _ (by decide +kernel)) ggX4_meanOrZero_X2_isLaidBefore
set_option maxRecDepth 20000 in
theorem ggX4_meanOrZero_X2_aheadOfZero : GoodIn wsX4_meanOrZero wsX2_aheadOfZero := goodIn_r _ [34, 24, 35, 36, 37, 17, 38, 39, 40, 57, 58, 59, 60, 61, 62, 63, 64, 65] (by decide +kernel) (by decide +kernel)
set_option maxRecDepth 20000 in
theorem gX4_meanOrZero_X2_aheadOfZero : GoodIn wsX4_meanOrZero (wsV RX4 273 RX2 yX2_aheadOfZero wsX2_aheadOfZero) := goodIn_app (goodIn_of _ (by decide +kernel)) ggX4_meanOrZero_X2_aheadOfZero
theorem dX4_meanOrZero_0 : decode cX4_meanOrZero 0 = .ok (.aload_n 0, 1) := by decide +kernel
theorem dX4_meanOrZero_1 : decode cX4_meanOrZero 1 = .ok (.getfield 10, 3) := by decide +kernel
theorem dX4_meanOrZero_4 : decode cX4_meanOrZero 4 = .ok (.invokevirtual 70, 3) := by decide +kernel
theorem dX4_meanOrZero_7 : decode cX4_meanOrZero 7 = .ok (.ifCond .ne 5, 3) := by decide +kernel
theorem dX4_meanOrZero_10 : decode cX4_meanOrZero 10 = .ok (.iconst 0, 1) := by decide +kernel
theorem dX4_meanOrZero_11 : decode cX4_meanOrZero 11 = .ok (.ireturn, 1) := by decide +kernel
theorem dX4_meanOrZero_12 : decode cX4_meanOrZero 12 = .ok (.aload_n 0, 1) := by decide +kernel
theorem dX4_meanOrZero_13 : decode cX4_meanOrZero 13 = .ok (.getfield 10, 3) := by decide +kernel
theorem dX4_meanOrZero_16 : decode cX4_meanOrZero 16 = .ok (.iconst 0, 1) := by decide +kernel
theorem dX4_meanOrZero_17 : decode cX4_meanOrZero 17 = .ok (.invokevirtual 94, 3) := by decide +kernel
theorem dX4_meanOrZero_20 : decode cX4_meanOrZero 20 = .ok (.i2l, 1) := by decide +kernel
theorem dX4_meanOrZero_21 : decode cX4_meanOrZero 21 = .ok (.lstore_n 2, 1) := by decide +kernel
theorem dX4_meanOrZero_22 : decode cX4_meanOrZero 22 = .ok (.lconst 0, 1) := by decide +kernel
theorem dX4_meanOrZero_23 : decode cX4_meanOrZero 23 = .ok (.lstore 4, 2) := by decide +kernel
theorem dX4_meanOrZero_25 : decode cX4_meanOrZero 25 = .ok (.iconst 1, 1) := by decide +kernel
theorem dX4_meanOrZero_26 : decode cX4_meanOrZero 26 = .ok (.istore 6, 2) := by decide +kernel
theorem dX4_meanOrZero_28 : decode cX4_meanOrZero 28 = .ok (.iconst 0, 1) := by decide +kernel
theorem dX4_meanOrZero_29 : decode cX4_meanOrZero 29 = .ok (.istore 7, 2) := by decide +kernel
theorem dX4_meanOrZero_31 : decode cX4_meanOrZero 31 = .ok (.iload 7, 2) := by decide +kernel
theorem dX4_meanOrZero_33 : decode cX4_meanOrZero 33 = .ok (.aload_n 0, 1) := by decide +kernel
theorem dX4_meanOrZero_34 : decode cX4_meanOrZero 34 = .ok (.getfield 19, 3) := by decide +kernel
theorem dX4_meanOrZero_37 : decode cX4_meanOrZero 37 = .ok (.invokevirtual 104, 3) := by decide +kernel
theorem dX4_meanOrZero_40 : decode cX4_meanOrZero 40 = .ok (.if_icmp .ge 98, 3) := by decide +kernel
theorem dX4_meanOrZero_43 : decode cX4_meanOrZero 43 = .ok (.aload_n 0, 1) := by decide +kernel
theorem dX4_meanOrZero_44 : decode cX4_meanOrZero 44 = .ok (.getfield 19, 3) := by decide +kernel
theorem dX4_meanOrZero_47 : decode cX4_meanOrZero 47 = .ok (.iload 7, 2) := by decide +kernel
theorem dX4_meanOrZero_49 : decode cX4_meanOrZero 49 = .ok (.invokevirtual 270, 3) := by decide +kernel
theorem dX4_meanOrZero_52 : decode cX4_meanOrZero 52 = .ok (.istore 8, 2) := by decide +kernel
theorem dX4_meanOrZero_54 : decode cX4_meanOrZero 54 = .ok (.iload 8, 2) := by decide +kernel
theorem dX4_meanOrZero_56 : decode cX4_meanOrZero 56 = .ok (.iconst (-1), 1) := by decide +kernel
theorem dX4_meanOrZero_57 : decode cX4_meanOrZero 57 = .ok (.if_icmp .eq 75, 3) := by decide +kernel
theorem dX4_meanOrZero_60 : decode cX4_meanOrZero 60 = .ok (.iload 6, 2) := by decide +kernel
theorem dX4_meanOrZero_62 : decode cX4_meanOrZero 62 = .ok (.iload 8, 2) := by decide +kernel
theorem dX4_meanOrZero_64 : decode cX4_meanOrZero 64 = .ok (.ishr, 1) := by decide +kernel
theorem dX4_meanOrZero_65 : decode cX4_meanOrZero 65 = .ok (.iconst 1, 1) := by decide +kernel
theorem dX4_meanOrZero_66 : decode cX4_meanOrZero 66 = .ok (.iand, 1) := by decide +kernel
theorem dX4_meanOrZero_67 : decode cX4_meanOrZero 67 = .ok (.ifCond .ne 65, 3) := by decide +kernel
theorem dX4_meanOrZero_70 : decode cX4_meanOrZero 70 = .ok (.aload_n 0, 1) := by decide +kernel
theorem dX4_meanOrZero_71 : decode cX4_meanOrZero 71 = .ok (.getfield 19, 3) := by decide +kernel
theorem dX4_meanOrZero_74 : decode cX4_meanOrZero 74 = .ok (.iload 7, 2) := by decide +kernel
theorem dX4_meanOrZero_76 : decode cX4_meanOrZero 76 = .ok (.iload_n 1, 1) := by decide +kernel
theorem dX4_meanOrZero_77 : decode cX4_meanOrZero 77 = .ok (.invokevirtual 222, 3) := by decide +kernel
theorem dX4_meanOrZero_80 : decode cX4_meanOrZero 80 = .ok (.ifCond .eq 52, 3) := by decide +kernel
theorem dX4_meanOrZero_83 : decode cX4_meanOrZero 83 = .ok (.iload 6, 2) := by decide +kernel
theorem dX4_meanOrZero_85 : decode cX4_meanOrZero 85 = .ok (.iconst 1, 1) := by decide +kernel
theorem dX4_meanOrZero_86 : decode cX4_meanOrZero 86 = .ok (.iload 8, 2) := by decide +kernel
theorem dX4_meanOrZero_88 : decode cX4_meanOrZero 88 = .ok (.ishl, 1) := by decide +kernel
theorem dX4_meanOrZero_89 : decode cX4_meanOrZero 89 = .ok (.ior, 1) := by decide +kernel
theorem dX4_meanOrZero_90 : decode cX4_meanOrZero 90 = .ok (.istore 6, 2) := by decide +kernel
theorem dX4_meanOrZero_92 : decode cX4_meanOrZero 92 = .ok (.lload_n 2, 1) := by decide +kernel
theorem dX4_meanOrZero_93 : decode cX4_meanOrZero 93 = .ok (.aload_n 0, 1) := by decide +kernel
theorem dX4_meanOrZero_94 : decode cX4_meanOrZero 94 = .ok (.getfield 10, 3) := by decide +kernel
theorem dX4_meanOrZero_97 : decode cX4_meanOrZero 97 = .ok (.iload 8, 2) := by decide +kernel
theorem dX4_meanOrZero_99 : decode cX4_meanOrZero 99 = .ok (.invokevirtual 94, 3) := by decide +kernel
theorem dX4_meanOrZero_102 : decode cX4_meanOrZero 102 = .ok (.i2l, 1) := by decide +kernel
theorem dX4_meanOrZero_103 : decode cX4_meanOrZero 103 = .ok (.ladd, 1) := by decide +kernel
theorem dX4_meanOrZero_104 : decode cX4_meanOrZero 104 = .ok (.lstore_n 2, 1) := by decide +kernel
theorem dX4_meanOrZero_105 : decode cX4_meanOrZero 105 = .ok (.lload 4, 2) := by decide +kernel
theorem dX4_meanOrZero_107 : decode cX4_meanOrZero 107 = .ok (.aload_n 0, 1) := by decide +kernel
theorem dX4_meanOrZero_108 : decode cX4_meanOrZero 108 = .ok (.getfield 10, 3) := by decide +kernel
theorem dX4_meanOrZero_111 : decode cX4_meanOrZero 111 = .ok (.iload 8, 2) := by decide +kernel
theorem dX4_meanOrZero_113 : decode cX4_meanOrZero 113 = .ok (.invokevirtual 94, 3) := by decide +kernel
theorem dX4_meanOrZero_116 : decode cX4_meanOrZero 116 = .ok (.i2l, 1) := by decide +kernel
theorem dX4_meanOrZero_117 : decode cX4_meanOrZero 117 = .ok (.aload_n 0, 1) := by decide +kernel
theorem dX4_meanOrZero_118 : decode cX4_meanOrZero 118 = .ok (.getfield 19, 3) := by decide +kernel
theorem dX4_meanOrZero_121 : decode cX4_meanOrZero 121 = .ok (.iload 7, 2) := by decide +kernel
theorem dX4_meanOrZero_123 : decode cX4_meanOrZero 123 = .ok (.iload_n 1, 1) := by decide +kernel
theorem dX4_meanOrZero_124 : decode cX4_meanOrZero 124 = .ok (.invokevirtual 273, 3) := by decide +kernel
theorem dX4_meanOrZero_127 : decode cX4_meanOrZero 127 = .ok (.i2l, 1) := by decide +kernel
theorem dX4_meanOrZero_128 : decode cX4_meanOrZero 128 = .ok (.lmul, 1) := by decide +kernel
theorem dX4_meanOrZero_129 : decode cX4_meanOrZero 129 = .ok (.ladd, 1) := by decide +kernel
theorem dX4_meanOrZero_130 : decode cX4_meanOrZero 130 = .ok (.lstore 4, 2) := by decide +kernel
theorem dX4_meanOrZero_132 : decode cX4_meanOrZero 132 = .ok (.iinc 7 1, 3) := by decide +kernel
theorem dX4_meanOrZero_135 : decode cX4_meanOrZero 135 = .ok (.goto (-104), 3) := by decide +kernel
theorem dX4_meanOrZero_138 : decode cX4_meanOrZero 138 = .ok (.lload_n 2, 1) := by decide +kernel
theorem dX4_meanOrZero_139 : decode cX4_meanOrZero 139 = .ok (.lconst 0, 1) := by decide +kernel
theorem dX4_meanOrZero_140 : decode cX4_meanOrZero 140 = .ok (.lcmp, 1) := by decide +kernel
theorem dX4_meanOrZero_141 : decode cX4_meanOrZero 141 = .ok (.ifCond .ne 7, 3) := by decide +kernel
theorem dX4_meanOrZero_144 : decode cX4_meanOrZero 144 = .ok (.iconst 0, 1) := by decide +kernel
theorem dX4_meanOrZero_145 : decode cX4_meanOrZero 145 = .ok (.goto 8, 3) := by decide +kernel
theorem dX4_meanOrZero_148 : decode cX4_meanOrZero 148 = .ok (.lload 4, 2) := by decide +kernel
theorem dX4_meanOrZero_150 : decode cX4_meanOrZero 150 = .ok (.lload_n 2, 1) := by decide +kernel
theorem dX4_meanOrZero_151 : decode cX4_meanOrZero 151 = .ok (.ldiv, 1) := by decide +kernel
theorem dX4_meanOrZero_152 : decode cX4_meanOrZero 152 = .ok (.l2i, 1) := by decide +kernel
theorem dX4_meanOrZero_153 : decode cX4_meanOrZero 153 = .ok (.ireturn, 1) := by decide +kernel
set_option maxRecDepth 20000 in
theorem ggX4_steered_X4_meanOrZero : GoodIn wsX4_steered wsX4_meanOrZero := goodIn_r _ [6, 7, 8, 9, 10, 11, 12, 13, 14, 15, 16, 17, 18, 19, 20, 21, 22, 23, 24, 25, 26, 27, 28, 29, 30, 31, 32, 33, 34, 35, 36, 37, 38, 39, 40, 41, 42, 43, 44, 45, 46, 57, 58, 59, 60, 61, 62, 63, 64, 65, 66, 67, 68, 69, 70, 71, 72, 73, 74, 75, 76, 77, 78, 79, 80, 81] (by decide +kernel) (by decide +kernel)
set_option maxRecDepth 20000 in
theorem gX4_steered_X4_meanOrZero : GoodIn wsX4_steered (wsV RX4 210 RX4 yX4_meanOrZero wsX4_meanOrZero) := goodIn_app (goodIn_of _ (by decide +kernel)) ggX4_steered_X4_meanOrZero
set_option maxRecDepth 20000 in
theorem ggX4_steered_X4_held : GoodIn wsX4_steered wsX4_held := goodIn_r _ [49, 50, 51, 52, 53, 54, 55, 56] (by decide +kernel) (by decide +kernel)
set_option maxRecDepth 20000 in
theorem gX4_steered_X4_held : GoodIn wsX4_steered (va_wsS RX4 276 yX4_held wsX4_held) := goodIn_app (goodIn_of _ (by decide +kernel)) ggX4_steered_X4_held
