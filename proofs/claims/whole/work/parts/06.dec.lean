theorem dX4_steered_0 : decode cX4_steered 0 = .ok (.iload_n 1, 1) := by decide +kernel
theorem dX4_steered_1 : decode cX4_steered 1 = .ok (.aload_n 0, 1) := by decide +kernel
theorem dX4_steered_2 : decode cX4_steered 2 = .ok (.iload_n 2, 1) := by decide +kernel
theorem dX4_steered_3 : decode cX4_steered 3 = .ok (.invokevirtual 210, 3) := by decide +kernel
theorem dX4_steered_6 : decode cX4_steered 6 = .ok (.iload_n 1, 1) := by decide +kernel
theorem dX4_steered_7 : decode cX4_steered 7 = .ok (.isub, 1) := by decide +kernel
theorem dX4_steered_8 : decode cX4_steered 8 = .ok (.aload_n 0, 1) := by decide +kernel
theorem dX4_steered_9 : decode cX4_steered 9 = .ok (.getfield 52, 3) := by decide +kernel
theorem dX4_steered_12 : decode cX4_steered 12 = .ok (.invokestatic 276, 3) := by decide +kernel
theorem dX4_steered_15 : decode cX4_steered 15 = .ok (.iadd, 1) := by decide +kernel
theorem dX4_steered_16 : decode cX4_steered 16 = .ok (.ireturn, 1) := by decide +kernel
set_option maxRecDepth 20000 in
theorem ggX4_steeredAnew_X4_steered : GoodIn wsX4_steeredAnew wsX4_steered := goodIn_r _ [5, 6, 7, 8, 9, 4, 10, 11, 12, 13, 14, 15, 16, 17, 18, 19, 20, 21, 22, 23, 24, 25, 26, 27, 28, 29, 30, 31, 32, 33, 34, 35, 36, 37, 38, 39, 40, 41, 42, 43, 44, 45, 46, 47, 48, 49, 50, 51, 52, 53, 54, 55, 56, 57, 58, 59, 60, 61, 62, 63, 64, 65, 66, 67, 68, 69, 70, 71, 72, 73, 74, 75, 76, 77, 78, 79, 80, 81, 82, 83, 84, 85] (by decide +kernel) (by decide +kernel)
set_option maxRecDepth 20000 in
theorem gX4_steeredAnew_X4_steered : GoodIn wsX4_steeredAnew (wsV RX4 242 RX4 yX4_steered wsX4_steered) := goodIn_app (goodIn_of _ (by decide +kernel)) ggX4_steeredAnew_X4_steered
theorem dX4_steeredAnew_0 : decode cX4_steeredAnew 0 = .ok (.iconst 0, 1) := by decide +kernel
theorem dX4_steeredAnew_1 : decode cX4_steeredAnew 1 = .ok (.istore_n 2, 1) := by decide +kernel
theorem dX4_steeredAnew_2 : decode cX4_steeredAnew 2 = .ok (.iconst 1, 1) := by decide +kernel
theorem dX4_steeredAnew_3 : decode cX4_steeredAnew 3 = .ok (.istore_n 3, 1) := by decide +kernel
theorem dX4_steeredAnew_4 : decode cX4_steeredAnew 4 = .ok (.iload_n 3, 1) := by decide +kernel
theorem dX4_steeredAnew_5 : decode cX4_steeredAnew 5 = .ok (.iload_n 1, 1) := by decide +kernel
theorem dX4_steeredAnew_6 : decode cX4_steeredAnew 6 = .ok (.if_icmp .gt 16, 3) := by decide +kernel
theorem dX4_steeredAnew_9 : decode cX4_steeredAnew 9 = .ok (.aload_n 0, 1) := by decide +kernel
theorem dX4_steeredAnew_10 : decode cX4_steeredAnew 10 = .ok (.iload_n 2, 1) := by decide +kernel
theorem dX4_steeredAnew_11 : decode cX4_steeredAnew 11 = .ok (.iload_n 3, 1) := by decide +kernel
theorem dX4_steeredAnew_12 : decode cX4_steeredAnew 12 = .ok (.invokevirtual 242, 3) := by decide +kernel
theorem dX4_steeredAnew_15 : decode cX4_steeredAnew 15 = .ok (.istore_n 2, 1) := by decide +kernel
theorem dX4_steeredAnew_16 : decode cX4_steeredAnew 16 = .ok (.iinc 3 1, 3) := by decide +kernel
theorem dX4_steeredAnew_19 : decode cX4_steeredAnew 19 = .ok (.goto (-15), 3) := by decide +kernel
theorem dX4_steeredAnew_22 : decode cX4_steeredAnew 22 = .ok (.iload_n 2, 1) := by decide +kernel
theorem dX4_steeredAnew_23 : decode cX4_steeredAnew 23 = .ok (.ireturn, 1) := by decide +kernel
theorem dX5_init_0 : decode cX5_init 0 = .ok (.aload_n 0, 1) := by decide +kernel
theorem dX5_init_1 : decode cX5_init 1 = .ok (.invokespecial 1, 3) := by decide +kernel
theorem dX5_init_4 : decode cX5_init 4 = .ok (.aload_n 0, 1) := by decide +kernel
theorem dX5_init_5 : decode cX5_init 5 = .ok (.bipush 6, 2) := by decide +kernel
theorem dX5_init_7 : decode cX5_init 7 = .ok (.newarray .int, 2) := by decide +kernel
theorem dX5_init_9 : decode cX5_init 9 = .ok (.putfield 7, 3) := by decide +kernel
theorem dX5_init_12 : decode cX5_init 12 = .ok (.aload_n 0, 1) := by decide +kernel
theorem dX5_init_13 : decode cX5_init 13 = .ok (.bipush 6, 2) := by decide +kernel
theorem dX5_init_15 : decode cX5_init 15 = .ok (.newarray .int, 2) := by decide +kernel
theorem dX5_init_17 : decode cX5_init 17 = .ok (.putfield 13, 3) := by decide +kernel
theorem dX5_init_20 : decode cX5_init 20 = .ok (.aload_n 0, 1) := by decide +kernel
theorem dX5_init_21 : decode cX5_init 21 = .ok (.bipush 6, 2) := by decide +kernel
theorem dX5_init_23 : decode cX5_init 23 = .ok (.newarray .int, 2) := by decide +kernel
theorem dX5_init_25 : decode cX5_init 25 = .ok (.putfield 16, 3) := by decide +kernel
theorem dX5_init_28 : decode cX5_init 28 = .ok (.aload_n 0, 1) := by decide +kernel
theorem dX5_init_29 : decode cX5_init 29 = .ok (.bipush 6, 2) := by decide +kernel
theorem dX5_init_31 : decode cX5_init 31 = .ok (.newarray .int, 2) := by decide +kernel
theorem dX5_init_33 : decode cX5_init 33 = .ok (.putfield 19, 3) := by decide +kernel
theorem dX5_init_36 : decode cX5_init 36 = .ok (.aload_n 0, 1) := by decide +kernel
theorem dX5_init_37 : decode cX5_init 37 = .ok (.bipush 6, 2) := by decide +kernel
theorem dX5_init_39 : decode cX5_init 39 = .ok (.newarray .int, 2) := by decide +kernel
theorem dX5_init_41 : decode cX5_init 41 = .ok (.putfield 22, 3) := by decide +kernel
theorem dX5_init_44 : decode cX5_init 44 = .ok (.aload_n 0, 1) := by decide +kernel
theorem dX5_init_45 : decode cX5_init 45 = .ok (.bipush 8, 2) := by decide +kernel
theorem dX5_init_47 : decode cX5_init 47 = .ok (.newarray .int, 2) := by decide +kernel
theorem dX5_init_49 : decode cX5_init 49 = .ok (.putfield 25, 3) := by decide +kernel
theorem dX5_init_52 : decode cX5_init 52 = .ok (.aload_n 0, 1) := by decide +kernel
theorem dX5_init_53 : decode cX5_init 53 = .ok (.bipush 8, 2) := by decide +kernel
theorem dX5_init_55 : decode cX5_init 55 = .ok (.newarray .int, 2) := by decide +kernel
theorem dX5_init_57 : decode cX5_init 57 = .ok (.putfield 28, 3) := by decide +kernel
theorem dX5_init_60 : decode cX5_init 60 = .ok (.aload_n 0, 1) := by decide +kernel
theorem dX5_init_61 : decode cX5_init 61 = .ok (.bipush 8, 2) := by decide +kernel
theorem dX5_init_63 : decode cX5_init 63 = .ok (.newarray .int, 2) := by decide +kernel
theorem dX5_init_65 : decode cX5_init 65 = .ok (.putfield 31, 3) := by decide +kernel
theorem dX5_init_68 : decode cX5_init 68 = .ok (.aload_n 0, 1) := by decide +kernel
theorem dX5_init_69 : decode cX5_init 69 = .ok (.bipush 8, 2) := by decide +kernel
theorem dX5_init_71 : decode cX5_init 71 = .ok (.newarray .int, 2) := by decide +kernel
theorem dX5_init_73 : decode cX5_init 73 = .ok (.putfield 34, 3) := by decide +kernel
theorem dX5_init_76 : decode cX5_init 76 = .ok (.aload_n 0, 1) := by decide +kernel
theorem dX5_init_77 : decode cX5_init 77 = .ok (.bipush 8, 2) := by decide +kernel
theorem dX5_init_79 : decode cX5_init 79 = .ok (.newarray .int, 2) := by decide +kernel
theorem dX5_init_81 : decode cX5_init 81 = .ok (.putfield 37, 3) := by decide +kernel
theorem dX5_init_84 : decode cX5_init 84 = .ok (.aload_n 0, 1) := by decide +kernel
theorem dX5_init_85 : decode cX5_init 85 = .ok (.sipush 4008, 3) := by decide +kernel
theorem dX5_init_88 : decode cX5_init 88 = .ok (.newarray .int, 2) := by decide +kernel
theorem dX5_init_90 : decode cX5_init 90 = .ok (.putfield 40, 3) := by decide +kernel
theorem dX5_init_93 : decode cX5_init 93 = .ok (.aload_n 0, 1) := by decide +kernel
theorem dX5_init_94 : decode cX5_init 94 = .ok (.bipush 40, 2) := by decide +kernel
theorem dX5_init_96 : decode cX5_init 96 = .ok (.newarray .int, 2) := by decide +kernel
theorem dX5_init_98 : decode cX5_init 98 = .ok (.putfield 43, 3) := by decide +kernel
theorem dX5_init_101 : decode cX5_init 101 = .ok (.aload_n 0, 1) := by decide +kernel
theorem dX5_init_102 : decode cX5_init 102 = .ok (.bipush 40, 2) := by decide +kernel
theorem dX5_init_104 : decode cX5_init 104 = .ok (.newarray .int, 2) := by decide +kernel
theorem dX5_init_106 : decode cX5_init 106 = .ok (.putfield 46, 3) := by decide +kernel
theorem dX5_init_109 : decode cX5_init 109 = .ok (.aload_n 0, 1) := by decide +kernel
theorem dX5_init_110 : decode cX5_init 110 = .ok (.bipush 40, 2) := by decide +kernel
theorem dX5_init_112 : decode cX5_init 112 = .ok (.newarray .int, 2) := by decide +kernel
theorem dX5_init_114 : decode cX5_init 114 = .ok (.putfield 49, 3) := by decide +kernel
theorem dX5_init_117 : decode cX5_init 117 = .ok (.aload_n 0, 1) := by decide +kernel
theorem dX5_init_118 : decode cX5_init 118 = .ok (.bipush 40, 2) := by decide +kernel
theorem dX5_init_120 : decode cX5_init 120 = .ok (.newarray .int, 2) := by decide +kernel
theorem dX5_init_122 : decode cX5_init 122 = .ok (.putfield 52, 3) := by decide +kernel
theorem dX5_init_125 : decode cX5_init 125 = .ok (.aload_n 0, 1) := by decide +kernel
theorem dX5_init_126 : decode cX5_init 126 = .ok (.bipush 8, 2) := by decide +kernel
theorem dX5_init_128 : decode cX5_init 128 = .ok (.newarray .int, 2) := by decide +kernel
theorem dX5_init_130 : decode cX5_init 130 = .ok (.putfield 55, 3) := by decide +kernel
theorem dX5_init_133 : decode cX5_init 133 = .ok (.aload_n 0, 1) := by decide +kernel
theorem dX5_init_134 : decode cX5_init 134 = .ok (.bipush 80, 2) := by decide +kernel
theorem dX5_init_136 : decode cX5_init 136 = .ok (.newarray .int, 2) := by decide +kernel
theorem dX5_init_138 : decode cX5_init 138 = .ok (.putfield 58, 3) := by decide +kernel
theorem dX5_init_141 : decode cX5_init 141 = .ok (.aload_n 0, 1) := by decide +kernel
theorem dX5_init_142 : decode cX5_init 142 = .ok (.bipush 80, 2) := by decide +kernel
theorem dX5_init_144 : decode cX5_init 144 = .ok (.newarray .int, 2) := by decide +kernel
theorem dX5_init_146 : decode cX5_init 146 = .ok (.putfield 61, 3) := by decide +kernel
theorem dX5_init_149 : decode cX5_init 149 = .ok (.aload_n 0, 1) := by decide +kernel
theorem dX5_init_150 : decode cX5_init 150 = .ok (.bipush 80, 2) := by decide +kernel
theorem dX5_init_152 : decode cX5_init 152 = .ok (.newarray .int, 2) := by decide +kernel
theorem dX5_init_154 : decode cX5_init 154 = .ok (.putfield 64, 3) := by decide +kernel
theorem dX5_init_157 : decode cX5_init 157 = .ok (.aload_n 0, 1) := by decide +kernel
theorem dX5_init_158 : decode cX5_init 158 = .ok (.sipush 501, 3) := by decide +kernel
theorem dX5_init_161 : decode cX5_init 161 = .ok (.newarray .int, 2) := by decide +kernel
theorem dX5_init_163 : decode cX5_init 163 = .ok (.putfield 67, 3) := by decide +kernel
theorem dX5_init_166 : decode cX5_init 166 = .ok (.aload_n 0, 1) := by decide +kernel
theorem dX5_init_167 : decode cX5_init 167 = .ok (.bipush 7, 2) := by decide +kernel
theorem dX5_init_169 : decode cX5_init 169 = .ok (.newarray .boolean, 2) := by decide +kernel
theorem dX5_init_171 : decode cX5_init 171 = .ok (.putfield 70, 3) := by decide +kernel
theorem dX5_init_174 : decode cX5_init 174 = .ok (.aload_n 0, 1) := by decide +kernel
theorem dX5_init_175 : decode cX5_init 175 = .ok (.bipush 8, 2) := by decide +kernel
theorem dX5_init_177 : decode cX5_init 177 = .ok (.newarray .int, 2) := by decide +kernel
theorem dX5_init_179 : decode cX5_init 179 = .ok (.putfield 74, 3) := by decide +kernel
theorem dX5_init_182 : decode cX5_init 182 = .ok (.aload_n 0, 1) := by decide +kernel
theorem dX5_init_183 : decode cX5_init 183 = .ok (.sipush 168, 3) := by decide +kernel
theorem dX5_init_186 : decode cX5_init 186 = .ok (.newarray .int, 2) := by decide +kernel
theorem dX5_init_188 : decode cX5_init 188 = .ok (.putfield 77, 3) := by decide +kernel
theorem dX5_init_191 : decode cX5_init 191 = .ok (.aload_n 0, 1) := by decide +kernel
theorem dX5_init_192 : decode cX5_init 192 = .ok (.sipush 168, 3) := by decide +kernel
theorem dX5_init_195 : decode cX5_init 195 = .ok (.newarray .int, 2) := by decide +kernel
theorem dX5_init_197 : decode cX5_init 197 = .ok (.putfield 80, 3) := by decide +kernel
theorem dX5_init_200 : decode cX5_init 200 = .ok (.aload_n 0, 1) := by decide +kernel
theorem dX5_init_201 : decode cX5_init 201 = .ok (.bipush 56, 2) := by decide +kernel
theorem dX5_init_203 : decode cX5_init 203 = .ok (.newarray .int, 2) := by decide +kernel
theorem dX5_init_205 : decode cX5_init 205 = .ok (.putfield 83, 3) := by decide +kernel
theorem dX5_init_208 : decode cX5_init 208 = .ok (.aload_n 0, 1) := by decide +kernel
theorem dX5_init_209 : decode cX5_init 209 = .ok (.bipush 100, 2) := by decide +kernel
theorem dX5_init_211 : decode cX5_init 211 = .ok (.putfield 86, 3) := by decide +kernel
theorem dX5_init_214 : decode cX5_init 214 = .ok (.aload_n 0, 1) := by decide +kernel
theorem dX5_init_215 : decode cX5_init 215 = .ok (.bipush 20, 2) := by decide +kernel
theorem dX5_init_217 : decode cX5_init 217 = .ok (.putfield 90, 3) := by decide +kernel
theorem dX5_init_220 : decode cX5_init 220 = .ok (.return_, 1) := by decide +kernel
theorem dX5_thrown_0 : decode cX5_thrown 0 = .ok (.aload_n 0, 1) := by decide +kernel
theorem dX5_thrown_1 : decode cX5_thrown 1 = .ok (.getfield 93, 3) := by decide +kernel
theorem dX5_thrown_4 : decode cX5_thrown 4 = .ok (.ireturn, 1) := by decide +kernel
theorem dX5_in_0 : decode cX5_in 0 = .ok (.iload_n 0, 1) := by decide +kernel
theorem dX5_in_1 : decode cX5_in 1 = .ok (.iload_n 1, 1) := by decide +kernel
theorem dX5_in_2 : decode cX5_in 2 = .ok (.if_icmp .lt 12, 3) := by decide +kernel
theorem dX5_in_5 : decode cX5_in 5 = .ok (.iload_n 0, 1) := by decide +kernel
theorem dX5_in_6 : decode cX5_in 6 = .ok (.iload_n 2, 1) := by decide +kernel
theorem dX5_in_7 : decode cX5_in 7 = .ok (.if_icmp .gt 7, 3) := by decide +kernel
theorem dX5_in_10 : decode cX5_in 10 = .ok (.iconst 1, 1) := by decide +kernel
theorem dX5_in_11 : decode cX5_in 11 = .ok (.goto 4, 3) := by decide +kernel
theorem dX5_in_14 : decode cX5_in 14 = .ok (.iconst 0, 1) := by decide +kernel
theorem dX5_in_15 : decode cX5_in 15 = .ok (.ireturn, 1) := by decide +kernel
theorem dX5_goes_0 : decode cX5_goes 0 = .ok (.aload_n 0, 1) := by decide +kernel
theorem dX5_goes_1 : decode cX5_goes 1 = .ok (.iload_n 1, 1) := by decide +kernel
theorem dX5_goes_2 : decode cX5_goes 2 = .ok (.ifCond .ne 7, 3) := by decide +kernel
theorem dX5_goes_5 : decode cX5_goes 5 = .ok (.iconst 1, 1) := by decide +kernel
theorem dX5_goes_6 : decode cX5_goes 6 = .ok (.goto 20, 3) := by decide +kernel
theorem dX5_goes_9 : decode cX5_goes 9 = .ok (.iload_n 2, 1) := by decide +kernel
theorem dX5_goes_10 : decode cX5_goes 10 = .ok (.ifCond .ne 7, 3) := by decide +kernel
theorem dX5_goes_13 : decode cX5_goes 13 = .ok (.iconst 2, 1) := by decide +kernel
theorem dX5_goes_14 : decode cX5_goes 14 = .ok (.goto 12, 3) := by decide +kernel
theorem dX5_goes_17 : decode cX5_goes 17 = .ok (.iload_n 3, 1) := by decide +kernel
theorem dX5_goes_18 : decode cX5_goes 18 = .ok (.ifCond .ne 7, 3) := by decide +kernel
theorem dX5_goes_21 : decode cX5_goes 21 = .ok (.iconst 3, 1) := by decide +kernel
theorem dX5_goes_22 : decode cX5_goes 22 = .ok (.goto 4, 3) := by decide +kernel
theorem dX5_goes_25 : decode cX5_goes 25 = .ok (.iconst 0, 1) := by decide +kernel
theorem dX5_goes_26 : decode cX5_goes 26 = .ok (.putfield 93, 3) := by decide +kernel
theorem dX5_goes_29 : decode cX5_goes 29 = .ok (.aload_n 0, 1) := by decide +kernel
theorem dX5_goes_30 : decode cX5_goes 30 = .ok (.getfield 93, 3) := by decide +kernel
theorem dX5_goes_33 : decode cX5_goes 33 = .ok (.ifCond .ne 7, 3) := by decide +kernel
theorem dX5_goes_36 : decode cX5_goes 36 = .ok (.iconst 1, 1) := by decide +kernel
theorem dX5_goes_37 : decode cX5_goes 37 = .ok (.goto 4, 3) := by decide +kernel
theorem dX5_goes_40 : decode cX5_goes 40 = .ok (.iconst 0, 1) := by decide +kernel
theorem dX5_goes_41 : decode cX5_goes 41 = .ok (.ireturn, 1) := by decide +kernel
theorem dX5_held_0 : decode cX5_held 0 = .ok (.iload_n 0, 1) := by decide +kernel
theorem dX5_held_1 : decode cX5_held 1 = .ok (.iload_n 1, 1) := by decide +kernel
theorem dX5_held_2 : decode cX5_held 2 = .ok (.if_icmp .le 7, 3) := by decide +kernel
theorem dX5_held_5 : decode cX5_held 5 = .ok (.iload_n 1, 1) := by decide +kernel
theorem dX5_held_6 : decode cX5_held 6 = .ok (.goto 15, 3) := by decide +kernel
theorem dX5_held_9 : decode cX5_held 9 = .ok (.iload_n 0, 1) := by decide +kernel
theorem dX5_held_10 : decode cX5_held 10 = .ok (.iload_n 1, 1) := by decide +kernel
theorem dX5_held_11 : decode cX5_held 11 = .ok (.ineg, 1) := by decide +kernel
theorem dX5_held_12 : decode cX5_held 12 = .ok (.if_icmp .ge 8, 3) := by decide +kernel
theorem dX5_held_15 : decode cX5_held 15 = .ok (.iload_n 1, 1) := by decide +kernel
theorem dX5_held_16 : decode cX5_held 16 = .ok (.ineg, 1) := by decide +kernel
theorem dX5_held_17 : decode cX5_held 17 = .ok (.goto 4, 3) := by decide +kernel
theorem dX5_held_20 : decode cX5_held 20 = .ok (.iload_n 0, 1) := by decide +kernel
theorem dX5_held_21 : decode cX5_held 21 = .ok (.ireturn, 1) := by decide +kernel
set_option maxRecDepth 20000 in
theorem ggX5_isClock_X5_in : GoodIn wsX5_isClock wsX5_in := goodIn_r _ [5] (by decide +kernel) (by decide +kernel)
set_option maxRecDepth 20000 in
theorem gX5_isClock_X5_in : GoodIn wsX5_isClock (va_wsS RX5 99 yX5_in wsX5_in) := goodIn_app (goodIn_of _ (by decide +kernel)) ggX5_isClock_X5_in
theorem dX5_isClock_0 : decode cX5_isClock 0 = .ok (.iload_n 1, 1) := by decide +kernel
theorem dX5_isClock_1 : decode cX5_isClock 1 = .ok (.iconst 0, 1) := by decide +kernel
theorem dX5_isClock_2 : decode cX5_isClock 2 = .ok (.aload_n 0, 1) := by decide +kernel
theorem dX5_isClock_3 : decode cX5_isClock 3 = .ok (.getfield 96, 3) := by decide +kernel
theorem dX5_isClock_6 : decode cX5_isClock 6 = .ok (.iconst 1, 1) := by decide +kernel
theorem dX5_isClock_7 : decode cX5_isClock 7 = .ok (.isub, 1) := by decide +kernel
theorem dX5_isClock_8 : decode cX5_isClock 8 = .ok (.invokestatic 99, 3) := by decide +kernel
theorem dX5_isClock_11 : decode cX5_isClock 11 = .ok (.ireturn, 1) := by decide +kernel
set_option maxRecDepth 20000 in
theorem ggX5_isLink_X5_in : GoodIn wsX5_isLink wsX5_in := goodIn_r _ [5] (by decide +kernel) (by decide +kernel)
set_option maxRecDepth 20000 in
theorem gX5_isLink_X5_in : GoodIn wsX5_isLink (va_wsS RX5 99 yX5_in wsX5_in) := goodIn_app (goodIn_of _ (by decide +kernel)) ggX5_isLink_X5_in
theorem dX5_isLink_0 : decode cX5_isLink 0 = .ok (.iload_n 1, 1) := by decide +kernel
theorem dX5_isLink_1 : decode cX5_isLink 1 = .ok (.iconst 0, 1) := by decide +kernel
theorem dX5_isLink_2 : decode cX5_isLink 2 = .ok (.aload_n 0, 1) := by decide +kernel
theorem dX5_isLink_3 : decode cX5_isLink 3 = .ok (.getfield 103, 3) := by decide +kernel
theorem dX5_isLink_6 : decode cX5_isLink 6 = .ok (.iconst 1, 1) := by decide +kernel
theorem dX5_isLink_7 : decode cX5_isLink 7 = .ok (.isub, 1) := by decide +kernel
theorem dX5_isLink_8 : decode cX5_isLink 8 = .ok (.invokestatic 99, 3) := by decide +kernel
theorem dX5_isLink_11 : decode cX5_isLink 11 = .ok (.ireturn, 1) := by decide +kernel
set_option maxRecDepth 20000 in
theorem ggX5_isDay_X5_in : GoodIn wsX5_isDay wsX5_in := goodIn_r _ [5] (by decide +kernel) (by decide +kernel)
set_option maxRecDepth 20000 in
theorem gX5_isDay_X5_in : GoodIn wsX5_isDay (va_wsS RX5 99 yX5_in wsX5_in) := goodIn_app (goodIn_of _ (by decide +kernel)) ggX5_isDay_X5_in
theorem dX5_isDay_0 : decode cX5_isDay 0 = .ok (.iload_n 1, 1) := by decide +kernel
theorem dX5_isDay_1 : decode cX5_isDay 1 = .ok (.iconst 1, 1) := by decide +kernel
theorem dX5_isDay_2 : decode cX5_isDay 2 = .ok (.aload_n 0, 1) := by decide +kernel
theorem dX5_isDay_3 : decode cX5_isDay 3 = .ok (.getfield 106, 3) := by decide +kernel
theorem dX5_isDay_6 : decode cX5_isDay 6 = .ok (.invokestatic 99, 3) := by decide +kernel
theorem dX5_isDay_9 : decode cX5_isDay 9 = .ok (.ireturn, 1) := by decide +kernel
set_option maxRecDepth 20000 in
theorem ggX5_clock_X5_in : GoodIn wsX5_clock wsX5_in := goodIn_r _ [8] (by decide +kernel) (by decide +kernel)
set_option maxRecDepth 20000 in
theorem gX5_clock_X5_in : GoodIn wsX5_clock (va_wsS RX5 99 yX5_in wsX5_in) := goodIn_app (goodIn_of _ (by decide +kernel)) ggX5_clock_X5_in
set_option maxRecDepth 20000 in
theorem ggX5_clock_X5_goes : GoodIn wsX5_clock wsX5_goes := goodIn_r _ [12, 13, 14, 15, 16, 17, 18, 19, 20, 21, 22, 23, 24, 25, 26, 27, 28, 29, 30, 31, 32, 33, 34, 35, 36, 37, 38, 39, 40, 41, 42, 43, 44, 45, 46, 47] (by decide +kernel) (by decide +kernel)
set_option maxRecDepth 20000 in
theorem gX5_clock_X5_goes : GoodIn wsX5_clock (wsV RX5 109 RX5 yX5_goes wsX5_goes) := goodIn_app (goodIn_of _ (by decide +kernel)) ggX5_clock_X5_goes
theorem dX5_clock_0 : decode cX5_clock 0 = .ok (.aload_n 0, 1) := by decide +kernel
theorem dX5_clock_1 : decode cX5_clock 1 = .ok (.iload_n 1, 1) := by decide +kernel
theorem dX5_clock_2 : decode cX5_clock 2 = .ok (.sipush (-500), 3) := by decide +kernel
theorem dX5_clock_5 : decode cX5_clock 5 = .ok (.sipush 500, 3) := by decide +kernel
theorem dX5_clock_8 : decode cX5_clock 8 = .ok (.invokestatic 99, 3) := by decide +kernel
theorem dX5_clock_11 : decode cX5_clock 11 = .ok (.ifCond .eq 18, 3) := by decide +kernel
theorem dX5_clock_14 : decode cX5_clock 14 = .ok (.iload_n 2, 1) := by decide +kernel
theorem dX5_clock_15 : decode cX5_clock 15 = .ok (.iconst 0, 1) := by decide +kernel
theorem dX5_clock_16 : decode cX5_clock 16 = .ok (.sipush 5000, 3) := by decide +kernel
theorem dX5_clock_19 : decode cX5_clock 19 = .ok (.invokestatic 99, 3) := by decide +kernel
theorem dX5_clock_22 : decode cX5_clock 22 = .ok (.ifCond .eq 7, 3) := by decide +kernel
theorem dX5_clock_25 : decode cX5_clock 25 = .ok (.iconst 1, 1) := by decide +kernel
theorem dX5_clock_26 : decode cX5_clock 26 = .ok (.goto 4, 3) := by decide +kernel
theorem dX5_clock_29 : decode cX5_clock 29 = .ok (.iconst 0, 1) := by decide +kernel
theorem dX5_clock_30 : decode cX5_clock 30 = .ok (.aload_n 0, 1) := by decide +kernel
theorem dX5_clock_31 : decode cX5_clock 31 = .ok (.getfield 96, 3) := by decide +kernel
theorem dX5_clock_34 : decode cX5_clock 34 = .ok (.bipush 6, 2) := by decide +kernel
theorem dX5_clock_36 : decode cX5_clock 36 = .ok (.if_icmp .ge 7, 3) := by decide +kernel
theorem dX5_clock_39 : decode cX5_clock 39 = .ok (.iconst 1, 1) := by decide +kernel
theorem dX5_clock_40 : decode cX5_clock 40 = .ok (.goto 4, 3) := by decide +kernel
theorem dX5_clock_43 : decode cX5_clock 43 = .ok (.iconst 0, 1) := by decide +kernel
theorem dX5_clock_44 : decode cX5_clock 44 = .ok (.iconst 1, 1) := by decide +kernel
theorem dX5_clock_45 : decode cX5_clock 45 = .ok (.invokevirtual 109, 3) := by decide +kernel
theorem dX5_clock_48 : decode cX5_clock 48 = .ok (.ifCond .ne 5, 3) := by decide +kernel
theorem dX5_clock_51 : decode cX5_clock 51 = .ok (.iconst 0, 1) := by decide +kernel
theorem dX5_clock_52 : decode cX5_clock 52 = .ok (.ireturn, 1) := by decide +kernel
theorem dX5_clock_53 : decode cX5_clock 53 = .ok (.aload_n 0, 1) := by decide +kernel
theorem dX5_clock_54 : decode cX5_clock 54 = .ok (.getfield 7, 3) := by decide +kernel
theorem dX5_clock_57 : decode cX5_clock 57 = .ok (.aload_n 0, 1) := by decide +kernel
theorem dX5_clock_58 : decode cX5_clock 58 = .ok (.getfield 96, 3) := by decide +kernel
theorem dX5_clock_61 : decode cX5_clock 61 = .ok (.iload_n 1, 1) := by decide +kernel
theorem dX5_clock_62 : decode cX5_clock 62 = .ok (.iastore, 1) := by decide +kernel
theorem dX5_clock_63 : decode cX5_clock 63 = .ok (.aload_n 0, 1) := by decide +kernel
theorem dX5_clock_64 : decode cX5_clock 64 = .ok (.getfield 16, 3) := by decide +kernel
theorem dX5_clock_67 : decode cX5_clock 67 = .ok (.aload_n 0, 1) := by decide +kernel
theorem dX5_clock_68 : decode cX5_clock 68 = .ok (.getfield 96, 3) := by decide +kernel
theorem dX5_clock_71 : decode cX5_clock 71 = .ok (.iload_n 2, 1) := by decide +kernel
theorem dX5_clock_72 : decode cX5_clock 72 = .ok (.iastore, 1) := by decide +kernel
theorem dX5_clock_73 : decode cX5_clock 73 = .ok (.aload_n 0, 1) := by decide +kernel
theorem dX5_clock_74 : decode cX5_clock 74 = .ok (.getfield 22, 3) := by decide +kernel
theorem dX5_clock_77 : decode cX5_clock 77 = .ok (.aload_n 0, 1) := by decide +kernel
theorem dX5_clock_78 : decode cX5_clock 78 = .ok (.getfield 96, 3) := by decide +kernel
theorem dX5_clock_81 : decode cX5_clock 81 = .ok (.iconst 1, 1) := by decide +kernel
theorem dX5_clock_82 : decode cX5_clock 82 = .ok (.iastore, 1) := by decide +kernel
theorem dX5_clock_83 : decode cX5_clock 83 = .ok (.aload_n 0, 1) := by decide +kernel
theorem dX5_clock_84 : decode cX5_clock 84 = .ok (.dup, 1) := by decide +kernel
theorem dX5_clock_85 : decode cX5_clock 85 = .ok (.getfield 96, 3) := by decide +kernel
theorem dX5_clock_88 : decode cX5_clock 88 = .ok (.iconst 1, 1) := by decide +kernel
theorem dX5_clock_89 : decode cX5_clock 89 = .ok (.iadd, 1) := by decide +kernel
theorem dX5_clock_90 : decode cX5_clock 90 = .ok (.putfield 96, 3) := by decide +kernel
theorem dX5_clock_93 : decode cX5_clock 93 = .ok (.aload_n 0, 1) := by decide +kernel
theorem dX5_clock_94 : decode cX5_clock 94 = .ok (.getfield 96, 3) := by decide +kernel
theorem dX5_clock_97 : decode cX5_clock 97 = .ok (.iconst 1, 1) := by decide +kernel
theorem dX5_clock_98 : decode cX5_clock 98 = .ok (.isub, 1) := by decide +kernel
theorem dX5_clock_99 : decode cX5_clock 99 = .ok (.ireturn, 1) := by decide +kernel
set_option maxRecDepth 20000 in
theorem ggX5_tell_X5_isClock : GoodIn wsX5_tell wsX5_isClock := goodIn_r _ [7, 8, 9, 10, 6, 11, 17, 18, 19, 20, 21, 22, 23, 24, 25, 26, 27, 28, 29, 30, 31, 32, 33, 34, 35, 36, 37, 38, 39, 40, 41, 42, 43, 44, 45, 46, 47, 48, 49, 50] (by decide +kernel) (by decide +kernel)
set_option maxRecDepth 20000 in
theorem gX5_tell_X5_isClock : GoodIn wsX5_tell (wsV RX5 113 RX5 yX5_isClock wsX5_isClock) := goodIn_app (goodIn_of _ (by decide +kernel)) ggX5_tell_X5_isClock
set_option maxRecDepth 20000 in
theorem ggX5_tell_X5_in : GoodIn wsX5_tell wsX5_in := goodIn_r _ [11] (by decide +kernel) (by decide +kernel)
set_option maxRecDepth 20000 in
theorem gX5_tell_X5_in : GoodIn wsX5_tell (va_wsS RX5 99 yX5_in wsX5_in) := goodIn_app (goodIn_of _ (by decide +kernel)) ggX5_tell_X5_in
set_option maxRecDepth 20000 in
theorem ggX5_tell_X5_goes : GoodIn wsX5_tell wsX5_goes := goodIn_r _ [15, 16, 17, 18, 19, 20, 21, 22, 23, 24, 25, 26, 27, 28, 29, 30, 31, 32, 33, 34, 35, 36, 37, 38, 39, 40, 41, 42, 43, 44, 45, 46, 47, 48, 49, 50] (by decide +kernel) (by decide +kernel)
set_option maxRecDepth 20000 in
theorem gX5_tell_X5_goes : GoodIn wsX5_tell (wsV RX5 109 RX5 yX5_goes wsX5_goes) := goodIn_app (goodIn_of _ (by decide +kernel)) ggX5_tell_X5_goes
theorem dX5_tell_0 : decode cX5_tell 0 = .ok (.aload_n 0, 1) := by decide +kernel
theorem dX5_tell_1 : decode cX5_tell 1 = .ok (.aload_n 0, 1) := by decide +kernel
theorem dX5_tell_2 : decode cX5_tell 2 = .ok (.iload_n 1, 1) := by decide +kernel
theorem dX5_tell_3 : decode cX5_tell 3 = .ok (.invokevirtual 113, 3) := by decide +kernel
theorem dX5_tell_6 : decode cX5_tell 6 = .ok (.iload_n 2, 1) := by decide +kernel
theorem dX5_tell_7 : decode cX5_tell 7 = .ok (.bipush (-20), 2) := by decide +kernel
theorem dX5_tell_9 : decode cX5_tell 9 = .ok (.bipush 20, 2) := by decide +kernel
theorem dX5_tell_11 : decode cX5_tell 11 = .ok (.invokestatic 99, 3) := by decide +kernel
theorem dX5_tell_14 : decode cX5_tell 14 = .ok (.ifCond .eq 17, 3) := by decide +kernel
theorem dX5_tell_17 : decode cX5_tell 17 = .ok (.iload_n 3, 1) := by decide +kernel
theorem dX5_tell_18 : decode cX5_tell 18 = .ok (.iconst 0, 1) := by decide +kernel
theorem dX5_tell_19 : decode cX5_tell 19 = .ok (.bipush 100, 2) := by decide +kernel
theorem dX5_tell_21 : decode cX5_tell 21 = .ok (.invokestatic 99, 3) := by decide +kernel
theorem dX5_tell_24 : decode cX5_tell 24 = .ok (.ifCond .eq 7, 3) := by decide +kernel
theorem dX5_tell_27 : decode cX5_tell 27 = .ok (.iconst 1, 1) := by decide +kernel
theorem dX5_tell_28 : decode cX5_tell 28 = .ok (.goto 4, 3) := by decide +kernel
theorem dX5_tell_31 : decode cX5_tell 31 = .ok (.iconst 0, 1) := by decide +kernel
theorem dX5_tell_32 : decode cX5_tell 32 = .ok (.iconst 1, 1) := by decide +kernel
theorem dX5_tell_33 : decode cX5_tell 33 = .ok (.invokevirtual 109, 3) := by decide +kernel
theorem dX5_tell_36 : decode cX5_tell 36 = .ok (.ifCond .ne 5, 3) := by decide +kernel
theorem dX5_tell_39 : decode cX5_tell 39 = .ok (.iconst 0, 1) := by decide +kernel
theorem dX5_tell_40 : decode cX5_tell 40 = .ok (.ireturn, 1) := by decide +kernel
theorem dX5_tell_41 : decode cX5_tell 41 = .ok (.aload_n 0, 1) := by decide +kernel
theorem dX5_tell_42 : decode cX5_tell 42 = .ok (.getfield 22, 3) := by decide +kernel
theorem dX5_tell_45 : decode cX5_tell 45 = .ok (.iload_n 1, 1) := by decide +kernel
theorem dX5_tell_46 : decode cX5_tell 46 = .ok (.iaload, 1) := by decide +kernel
theorem dX5_tell_47 : decode cX5_tell 47 = .ok (.istore 4, 2) := by decide +kernel
theorem dX5_tell_49 : decode cX5_tell 49 = .ok (.aload_n 0, 1) := by decide +kernel
theorem dX5_tell_50 : decode cX5_tell 50 = .ok (.getfield 13, 3) := by decide +kernel
theorem dX5_tell_53 : decode cX5_tell 53 = .ok (.iload_n 1, 1) := by decide +kernel
theorem dX5_tell_54 : decode cX5_tell 54 = .ok (.iload_n 2, 1) := by decide +kernel
theorem dX5_tell_55 : decode cX5_tell 55 = .ok (.iastore, 1) := by decide +kernel
theorem dX5_tell_56 : decode cX5_tell 56 = .ok (.aload_n 0, 1) := by decide +kernel
theorem dX5_tell_57 : decode cX5_tell 57 = .ok (.getfield 22, 3) := by decide +kernel
theorem dX5_tell_60 : decode cX5_tell 60 = .ok (.iload_n 1, 1) := by decide +kernel
theorem dX5_tell_61 : decode cX5_tell 61 = .ok (.iload_n 3, 1) := by decide +kernel
theorem dX5_tell_62 : decode cX5_tell 62 = .ok (.iastore, 1) := by decide +kernel
theorem dX5_tell_63 : decode cX5_tell 63 = .ok (.iload 4, 2) := by decide +kernel
theorem dX5_tell_65 : decode cX5_tell 65 = .ok (.ireturn, 1) := by decide +kernel
set_option maxRecDepth 20000 in
theorem ggX5_link_X5_isClock : GoodIn wsX5_link wsX5_isClock := goodIn_r _ [11, 12, 13, 14, 10, 15, 21, 22, 23, 24, 25, 26, 27, 28, 29, 30, 31, 32, 33, 34, 35, 36, 37, 38, 39, 40, 41, 42, 43, 44, 45, 46, 47, 48, 49, 50, 51, 52, 53, 54] (by decide +kernel) (by decide +kernel)
set_option maxRecDepth 20000 in
theorem gX5_link_X5_isClock : GoodIn wsX5_link (wsV RX5 113 RX5 yX5_isClock wsX5_isClock) := goodIn_app (goodIn_of _ (by decide +kernel)) ggX5_link_X5_isClock
set_option maxRecDepth 20000 in
theorem ggX5_link_X5_in : GoodIn wsX5_link wsX5_in := goodIn_r _ [15] (by decide +kernel) (by decide +kernel)
set_option maxRecDepth 20000 in
theorem gX5_link_X5_in : GoodIn wsX5_link (va_wsS RX5 99 yX5_in wsX5_in) := goodIn_app (goodIn_of _ (by decide +kernel)) ggX5_link_X5_in
set_option maxRecDepth 20000 in
theorem ggX5_link_X5_goes : GoodIn wsX5_link wsX5_goes := goodIn_r _ [19, 20, 21, 22, 23, 24, 25, 26, 27, 28, 29, 30, 31, 32, 33, 34, 35, 36, 37, 38, 39, 40, 41, 42, 43, 44, 45, 46, 47, 48, 49, 50, 51, 52, 53, 54] (by decide +kernel) (by decide +kernel)
set_option maxRecDepth 20000 in
theorem gX5_link_X5_goes : GoodIn wsX5_link (wsV RX5 109 RX5 yX5_goes wsX5_goes) := goodIn_app (goodIn_of _ (by decide +kernel)) ggX5_link_X5_goes
theorem dX5_link_0 : decode cX5_link 0 = .ok (.aload_n 0, 1) := by decide +kernel
theorem dX5_link_1 : decode cX5_link 1 = .ok (.aload_n 0, 1) := by decide +kernel
theorem dX5_link_2 : decode cX5_link 2 = .ok (.iload_n 1, 1) := by decide +kernel
theorem dX5_link_3 : decode cX5_link 3 = .ok (.invokevirtual 113, 3) := by decide +kernel
theorem dX5_link_6 : decode cX5_link 6 = .ok (.ifCond .eq 15, 3) := by decide +kernel
theorem dX5_link_9 : decode cX5_link 9 = .ok (.aload_n 0, 1) := by decide +kernel
theorem dX5_link_10 : decode cX5_link 10 = .ok (.iload_n 2, 1) := by decide +kernel
theorem dX5_link_11 : decode cX5_link 11 = .ok (.invokevirtual 113, 3) := by decide +kernel
theorem dX5_link_14 : decode cX5_link 14 = .ok (.ifCond .eq 7, 3) := by decide +kernel
theorem dX5_link_17 : decode cX5_link 17 = .ok (.iconst 1, 1) := by decide +kernel
theorem dX5_link_18 : decode cX5_link 18 = .ok (.goto 4, 3) := by decide +kernel
theorem dX5_link_21 : decode cX5_link 21 = .ok (.iconst 0, 1) := by decide +kernel
theorem dX5_link_22 : decode cX5_link 22 = .ok (.iload_n 1, 1) := by decide +kernel
theorem dX5_link_23 : decode cX5_link 23 = .ok (.iload_n 2, 1) := by decide +kernel
theorem dX5_link_24 : decode cX5_link 24 = .ok (.if_icmp .eq 18, 3) := by decide +kernel
theorem dX5_link_27 : decode cX5_link 27 = .ok (.iload_n 3, 1) := by decide +kernel
theorem dX5_link_28 : decode cX5_link 28 = .ok (.bipush (-50), 2) := by decide +kernel
theorem dX5_link_30 : decode cX5_link 30 = .ok (.bipush 50, 2) := by decide +kernel
theorem dX5_link_32 : decode cX5_link 32 = .ok (.invokestatic 99, 3) := by decide +kernel
theorem dX5_link_35 : decode cX5_link 35 = .ok (.ifCond .eq 7, 3) := by decide +kernel
theorem dX5_link_38 : decode cX5_link 38 = .ok (.iconst 1, 1) := by decide +kernel
theorem dX5_link_39 : decode cX5_link 39 = .ok (.goto 4, 3) := by decide +kernel
theorem dX5_link_42 : decode cX5_link 42 = .ok (.iconst 0, 1) := by decide +kernel
theorem dX5_link_43 : decode cX5_link 43 = .ok (.aload_n 0, 1) := by decide +kernel
theorem dX5_link_44 : decode cX5_link 44 = .ok (.getfield 103, 3) := by decide +kernel
theorem dX5_link_47 : decode cX5_link 47 = .ok (.bipush 8, 2) := by decide +kernel
theorem dX5_link_49 : decode cX5_link 49 = .ok (.if_icmp .ge 7, 3) := by decide +kernel
theorem dX5_link_52 : decode cX5_link 52 = .ok (.iconst 1, 1) := by decide +kernel
theorem dX5_link_53 : decode cX5_link 53 = .ok (.goto 4, 3) := by decide +kernel
theorem dX5_link_56 : decode cX5_link 56 = .ok (.iconst 0, 1) := by decide +kernel
theorem dX5_link_57 : decode cX5_link 57 = .ok (.invokevirtual 109, 3) := by decide +kernel
theorem dX5_link_60 : decode cX5_link 60 = .ok (.ifCond .ne 5, 3) := by decide +kernel
theorem dX5_link_63 : decode cX5_link 63 = .ok (.iconst 0, 1) := by decide +kernel
theorem dX5_link_64 : decode cX5_link 64 = .ok (.ireturn, 1) := by decide +kernel
theorem dX5_link_65 : decode cX5_link 65 = .ok (.aload_n 0, 1) := by decide +kernel
theorem dX5_link_66 : decode cX5_link 66 = .ok (.getfield 25, 3) := by decide +kernel
theorem dX5_link_69 : decode cX5_link 69 = .ok (.aload_n 0, 1) := by decide +kernel
theorem dX5_link_70 : decode cX5_link 70 = .ok (.getfield 103, 3) := by decide +kernel
theorem dX5_link_73 : decode cX5_link 73 = .ok (.iload_n 1, 1) := by decide +kernel
theorem dX5_link_74 : decode cX5_link 74 = .ok (.iastore, 1) := by decide +kernel
theorem dX5_link_75 : decode cX5_link 75 = .ok (.aload_n 0, 1) := by decide +kernel
theorem dX5_link_76 : decode cX5_link 76 = .ok (.getfield 28, 3) := by decide +kernel
theorem dX5_link_79 : decode cX5_link 79 = .ok (.aload_n 0, 1) := by decide +kernel
theorem dX5_link_80 : decode cX5_link 80 = .ok (.getfield 103, 3) := by decide +kernel
theorem dX5_link_83 : decode cX5_link 83 = .ok (.iload_n 2, 1) := by decide +kernel
theorem dX5_link_84 : decode cX5_link 84 = .ok (.iastore, 1) := by decide +kernel
theorem dX5_link_85 : decode cX5_link 85 = .ok (.aload_n 0, 1) := by decide +kernel
theorem dX5_link_86 : decode cX5_link 86 = .ok (.getfield 31, 3) := by decide +kernel
theorem dX5_link_89 : decode cX5_link 89 = .ok (.aload_n 0, 1) := by decide +kernel
theorem dX5_link_90 : decode cX5_link 90 = .ok (.getfield 103, 3) := by decide +kernel
theorem dX5_link_93 : decode cX5_link 93 = .ok (.iload_n 3, 1) := by decide +kernel
theorem dX5_link_94 : decode cX5_link 94 = .ok (.iastore, 1) := by decide +kernel
theorem dX5_link_95 : decode cX5_link 95 = .ok (.aload_n 0, 1) := by decide +kernel
theorem dX5_link_96 : decode cX5_link 96 = .ok (.getfield 37, 3) := by decide +kernel
theorem dX5_link_99 : decode cX5_link 99 = .ok (.aload_n 0, 1) := by decide +kernel
theorem dX5_link_100 : decode cX5_link 100 = .ok (.getfield 103, 3) := by decide +kernel
theorem dX5_link_103 : decode cX5_link 103 = .ok (.aload_n 0, 1) := by decide +kernel
theorem dX5_link_104 : decode cX5_link 104 = .ok (.getfield 106, 3) := by decide +kernel
theorem dX5_link_107 : decode cX5_link 107 = .ok (.iastore, 1) := by decide +kernel
theorem dX5_link_108 : decode cX5_link 108 = .ok (.aload_n 0, 1) := by decide +kernel
theorem dX5_link_109 : decode cX5_link 109 = .ok (.dup, 1) := by decide +kernel
theorem dX5_link_110 : decode cX5_link 110 = .ok (.getfield 103, 3) := by decide +kernel
theorem dX5_link_113 : decode cX5_link 113 = .ok (.iconst 1, 1) := by decide +kernel
theorem dX5_link_114 : decode cX5_link 114 = .ok (.iadd, 1) := by decide +kernel
theorem dX5_link_115 : decode cX5_link 115 = .ok (.putfield 103, 3) := by decide +kernel
theorem dX5_link_118 : decode cX5_link 118 = .ok (.aload_n 0, 1) := by decide +kernel
theorem dX5_link_119 : decode cX5_link 119 = .ok (.getfield 103, 3) := by decide +kernel
theorem dX5_link_122 : decode cX5_link 122 = .ok (.iconst 1, 1) := by decide +kernel
theorem dX5_link_123 : decode cX5_link 123 = .ok (.isub, 1) := by decide +kernel
theorem dX5_link_124 : decode cX5_link 124 = .ok (.ireturn, 1) := by decide +kernel
set_option maxRecDepth 20000 in
theorem ggX5_isAmount_X5_in : GoodIn wsX5_isAmount wsX5_in := goodIn_r _ [4] (by decide +kernel) (by decide +kernel)
set_option maxRecDepth 20000 in
theorem gX5_isAmount_X5_in : GoodIn wsX5_isAmount (va_wsS RX5 99 yX5_in wsX5_in) := goodIn_app (goodIn_of _ (by decide +kernel)) ggX5_isAmount_X5_in
theorem dX5_isAmount_0 : decode cX5_isAmount 0 = .ok (.iload_n 0, 1) := by decide +kernel
theorem dX5_isAmount_1 : decode cX5_isAmount 1 = .ok (.ifCond .ne 16, 3) := by decide +kernel
theorem dX5_isAmount_4 : decode cX5_isAmount 4 = .ok (.iload_n 1, 1) := by decide +kernel
theorem dX5_isAmount_5 : decode cX5_isAmount 5 = .ok (.sipush (-500), 3) := by decide +kernel
theorem dX5_isAmount_8 : decode cX5_isAmount 8 = .ok (.sipush 500, 3) := by decide +kernel
theorem dX5_isAmount_11 : decode cX5_isAmount 11 = .ok (.invokestatic 99, 3) := by decide +kernel
theorem dX5_isAmount_14 : decode cX5_isAmount 14 = .ok (.goto 42, 3) := by decide +kernel
theorem dX5_isAmount_17 : decode cX5_isAmount 17 = .ok (.iload_n 0, 1) := by decide +kernel
theorem dX5_isAmount_18 : decode cX5_isAmount 18 = .ok (.iconst 1, 1) := by decide +kernel
theorem dX5_isAmount_19 : decode cX5_isAmount 19 = .ok (.if_icmp .ne 14, 3) := by decide +kernel
theorem dX5_isAmount_22 : decode cX5_isAmount 22 = .ok (.iload_n 1, 1) := by decide +kernel
theorem dX5_isAmount_23 : decode cX5_isAmount 23 = .ok (.iconst 0, 1) := by decide +kernel
theorem dX5_isAmount_24 : decode cX5_isAmount 24 = .ok (.sipush 5000, 3) := by decide +kernel
theorem dX5_isAmount_27 : decode cX5_isAmount 27 = .ok (.invokestatic 99, 3) := by decide +kernel
theorem dX5_isAmount_30 : decode cX5_isAmount 30 = .ok (.goto 26, 3) := by decide +kernel
theorem dX5_isAmount_33 : decode cX5_isAmount 33 = .ok (.iload_n 0, 1) := by decide +kernel
theorem dX5_isAmount_34 : decode cX5_isAmount 34 = .ok (.iconst 2, 1) := by decide +kernel
theorem dX5_isAmount_35 : decode cX5_isAmount 35 = .ok (.if_icmp .ne 14, 3) := by decide +kernel
theorem dX5_isAmount_38 : decode cX5_isAmount 38 = .ok (.iload_n 1, 1) := by decide +kernel
theorem dX5_isAmount_39 : decode cX5_isAmount 39 = .ok (.bipush (-50), 2) := by decide +kernel
theorem dX5_isAmount_41 : decode cX5_isAmount 41 = .ok (.bipush 50, 2) := by decide +kernel
theorem dX5_isAmount_43 : decode cX5_isAmount 43 = .ok (.invokestatic 99, 3) := by decide +kernel
theorem dX5_isAmount_46 : decode cX5_isAmount 46 = .ok (.goto 10, 3) := by decide +kernel
theorem dX5_isAmount_49 : decode cX5_isAmount 49 = .ok (.iload_n 1, 1) := by decide +kernel
theorem dX5_isAmount_50 : decode cX5_isAmount 50 = .ok (.bipush (-3), 2) := by decide +kernel
theorem dX5_isAmount_52 : decode cX5_isAmount 52 = .ok (.iconst 3, 1) := by decide +kernel
theorem dX5_isAmount_53 : decode cX5_isAmount 53 = .ok (.invokestatic 99, 3) := by decide +kernel
theorem dX5_isAmount_56 : decode cX5_isAmount 56 = .ok (.ireturn, 1) := by decide +kernel
set_option maxRecDepth 20000 in
theorem ggX5_event_X5_in : GoodIn wsX5_event wsX5_in := goodIn_r _ [10] (by decide +kernel) (by decide +kernel)
set_option maxRecDepth 20000 in
theorem gX5_event_X5_in : GoodIn wsX5_event (va_wsS RX5 99 yX5_in wsX5_in) := goodIn_app (goodIn_of _ (by decide +kernel)) ggX5_event_X5_in
set_option maxRecDepth 20000 in
theorem ggX5_event_X5_isClock : GoodIn wsX5_event wsX5_isClock := goodIn_r _ [14, 15, 7, 8, 9, 10, 29, 30, 31, 32, 33, 34, 35, 36, 37, 38, 39, 40, 41, 42, 43, 44, 45, 46, 47, 48, 49, 50, 51, 52, 53, 54, 55, 56, 57, 58, 59, 60, 61, 62] (by decide +kernel) (by decide +kernel)
set_option maxRecDepth 20000 in
theorem gX5_event_X5_isClock : GoodIn wsX5_event (wsV RX5 113 RX5 yX5_isClock wsX5_isClock) := goodIn_app (goodIn_of _ (by decide +kernel)) ggX5_event_X5_isClock
set_option maxRecDepth 20000 in
theorem ggX5_event_X5_isLink : GoodIn wsX5_event wsX5_isLink := goodIn_r _ [19, 20, 7, 8, 9, 10, 29, 30, 31, 32, 33, 34, 35, 36, 37, 38, 39, 40, 41, 42, 43, 44, 45, 46, 47, 48, 49, 50, 51, 52, 53, 54, 55, 56, 57, 58, 59, 60, 61, 62] (by decide +kernel) (by decide +kernel)
set_option maxRecDepth 20000 in
theorem gX5_event_X5_isLink : GoodIn wsX5_event (wsV RX5 117 RX5 yX5_isLink wsX5_isLink) := goodIn_app (goodIn_of _ (by decide +kernel)) ggX5_event_X5_isLink
set_option maxRecDepth 20000 in
theorem ggX5_event_X5_isAmount : GoodIn wsX5_event wsX5_isAmount := goodIn_r _ [23, 7, 8, 9, 10] (by decide +kernel) (by decide +kernel)
set_option maxRecDepth 20000 in
theorem gX5_event_X5_isAmount : GoodIn wsX5_event (va_wsS RX5 120 yX5_isAmount wsX5_isAmount) := goodIn_app (goodIn_of _ (by decide +kernel)) ggX5_event_X5_isAmount
set_option maxRecDepth 20000 in
theorem ggX5_event_X5_goes : GoodIn wsX5_event wsX5_goes := goodIn_r _ [27, 28, 29, 30, 31, 32, 33, 34, 35, 36, 37, 38, 39, 40, 41, 42, 43, 44, 45, 46, 47, 48, 49, 50, 51, 52, 53, 54, 55, 56, 57, 58, 59, 60, 61, 62] (by decide +kernel) (by decide +kernel)
set_option maxRecDepth 20000 in
theorem gX5_event_X5_goes : GoodIn wsX5_event (wsV RX5 109 RX5 yX5_goes wsX5_goes) := goodIn_app (goodIn_of _ (by decide +kernel)) ggX5_event_X5_goes
theorem dX5_event_0 : decode cX5_event 0 = .ok (.iload_n 1, 1) := by decide +kernel
theorem dX5_event_1 : decode cX5_event 1 = .ok (.aload_n 0, 1) := by decide +kernel
theorem dX5_event_2 : decode cX5_event 2 = .ok (.getfield 106, 3) := by decide +kernel
theorem dX5_event_5 : decode cX5_event 5 = .ok (.if_icmp .le 23, 3) := by decide +kernel
theorem dX5_event_8 : decode cX5_event 8 = .ok (.iload_n 1, 1) := by decide +kernel
theorem dX5_event_9 : decode cX5_event 9 = .ok (.sipush 500, 3) := by decide +kernel
theorem dX5_event_12 : decode cX5_event 12 = .ok (.if_icmp .gt 16, 3) := by decide +kernel
theorem dX5_event_15 : decode cX5_event 15 = .ok (.iload_n 2, 1) := by decide +kernel
theorem dX5_event_16 : decode cX5_event 16 = .ok (.iconst 0, 1) := by decide +kernel
theorem dX5_event_17 : decode cX5_event 17 = .ok (.iconst 3, 1) := by decide +kernel
theorem dX5_event_18 : decode cX5_event 18 = .ok (.invokestatic 99, 3) := by decide +kernel
theorem dX5_event_21 : decode cX5_event 21 = .ok (.ifCond .eq 7, 3) := by decide +kernel
theorem dX5_event_24 : decode cX5_event 24 = .ok (.iconst 1, 1) := by decide +kernel
theorem dX5_event_25 : decode cX5_event 25 = .ok (.goto 4, 3) := by decide +kernel
theorem dX5_event_28 : decode cX5_event 28 = .ok (.iconst 0, 1) := by decide +kernel
theorem dX5_event_29 : decode cX5_event 29 = .ok (.istore 5, 2) := by decide +kernel
theorem dX5_event_31 : decode cX5_event 31 = .ok (.iload_n 2, 1) := by decide +kernel
theorem dX5_event_32 : decode cX5_event 32 = .ok (.iconst 2, 1) := by decide +kernel
theorem dX5_event_33 : decode cX5_event 33 = .ok (.if_icmp .ge 11, 3) := by decide +kernel
theorem dX5_event_36 : decode cX5_event 36 = .ok (.aload_n 0, 1) := by decide +kernel
theorem dX5_event_37 : decode cX5_event 37 = .ok (.iload_n 3, 1) := by decide +kernel
theorem dX5_event_38 : decode cX5_event 38 = .ok (.invokevirtual 113, 3) := by decide +kernel
theorem dX5_event_41 : decode cX5_event 41 = .ok (.goto 8, 3) := by decide +kernel
theorem dX5_event_44 : decode cX5_event 44 = .ok (.aload_n 0, 1) := by decide +kernel
theorem dX5_event_45 : decode cX5_event 45 = .ok (.iload_n 3, 1) := by decide +kernel
theorem dX5_event_46 : decode cX5_event 46 = .ok (.invokevirtual 117, 3) := by decide +kernel
theorem dX5_event_49 : decode cX5_event 49 = .ok (.istore 6, 2) := by decide +kernel
theorem dX5_event_51 : decode cX5_event 51 = .ok (.aload_n 0, 1) := by decide +kernel
theorem dX5_event_52 : decode cX5_event 52 = .ok (.iload 5, 2) := by decide +kernel
theorem dX5_event_54 : decode cX5_event 54 = .ok (.iload 6, 2) := by decide +kernel
theorem dX5_event_56 : decode cX5_event 56 = .ok (.iload_n 2, 1) := by decide +kernel
theorem dX5_event_57 : decode cX5_event 57 = .ok (.iload 4, 2) := by decide +kernel
theorem dX5_event_59 : decode cX5_event 59 = .ok (.invokestatic 120, 3) := by decide +kernel
theorem dX5_event_62 : decode cX5_event 62 = .ok (.ifCond .eq 16, 3) := by decide +kernel
theorem dX5_event_65 : decode cX5_event 65 = .ok (.aload_n 0, 1) := by decide +kernel
theorem dX5_event_66 : decode cX5_event 66 = .ok (.getfield 124, 3) := by decide +kernel
theorem dX5_event_69 : decode cX5_event 69 = .ok (.bipush 40, 2) := by decide +kernel
theorem dX5_event_71 : decode cX5_event 71 = .ok (.if_icmp .ge 7, 3) := by decide +kernel
theorem dX5_event_74 : decode cX5_event 74 = .ok (.iconst 1, 1) := by decide +kernel
theorem dX5_event_75 : decode cX5_event 75 = .ok (.goto 4, 3) := by decide +kernel
theorem dX5_event_78 : decode cX5_event 78 = .ok (.iconst 0, 1) := by decide +kernel
theorem dX5_event_79 : decode cX5_event 79 = .ok (.invokevirtual 109, 3) := by decide +kernel
theorem dX5_event_82 : decode cX5_event 82 = .ok (.ifCond .ne 5, 3) := by decide +kernel
theorem dX5_event_85 : decode cX5_event 85 = .ok (.iconst 0, 1) := by decide +kernel
theorem dX5_event_86 : decode cX5_event 86 = .ok (.ireturn, 1) := by decide +kernel
theorem dX5_event_87 : decode cX5_event 87 = .ok (.aload_n 0, 1) := by decide +kernel
theorem dX5_event_88 : decode cX5_event 88 = .ok (.getfield 43, 3) := by decide +kernel
theorem dX5_event_91 : decode cX5_event 91 = .ok (.aload_n 0, 1) := by decide +kernel
theorem dX5_event_92 : decode cX5_event 92 = .ok (.getfield 124, 3) := by decide +kernel
theorem dX5_event_95 : decode cX5_event 95 = .ok (.iload_n 1, 1) := by decide +kernel
theorem dX5_event_96 : decode cX5_event 96 = .ok (.iastore, 1) := by decide +kernel
theorem dX5_event_97 : decode cX5_event 97 = .ok (.aload_n 0, 1) := by decide +kernel
theorem dX5_event_98 : decode cX5_event 98 = .ok (.getfield 46, 3) := by decide +kernel
theorem dX5_event_101 : decode cX5_event 101 = .ok (.aload_n 0, 1) := by decide +kernel
theorem dX5_event_102 : decode cX5_event 102 = .ok (.getfield 124, 3) := by decide +kernel
theorem dX5_event_105 : decode cX5_event 105 = .ok (.iload_n 2, 1) := by decide +kernel
theorem dX5_event_106 : decode cX5_event 106 = .ok (.iastore, 1) := by decide +kernel
theorem dX5_event_107 : decode cX5_event 107 = .ok (.aload_n 0, 1) := by decide +kernel
theorem dX5_event_108 : decode cX5_event 108 = .ok (.getfield 49, 3) := by decide +kernel
theorem dX5_event_111 : decode cX5_event 111 = .ok (.aload_n 0, 1) := by decide +kernel
theorem dX5_event_112 : decode cX5_event 112 = .ok (.getfield 124, 3) := by decide +kernel
theorem dX5_event_115 : decode cX5_event 115 = .ok (.iload_n 3, 1) := by decide +kernel
theorem dX5_event_116 : decode cX5_event 116 = .ok (.iastore, 1) := by decide +kernel
theorem dX5_event_117 : decode cX5_event 117 = .ok (.aload_n 0, 1) := by decide +kernel
theorem dX5_event_118 : decode cX5_event 118 = .ok (.getfield 52, 3) := by decide +kernel
theorem dX5_event_121 : decode cX5_event 121 = .ok (.aload_n 0, 1) := by decide +kernel
theorem dX5_event_122 : decode cX5_event 122 = .ok (.getfield 124, 3) := by decide +kernel
theorem dX5_event_125 : decode cX5_event 125 = .ok (.iload 4, 2) := by decide +kernel
theorem dX5_event_127 : decode cX5_event 127 = .ok (.iastore, 1) := by decide +kernel
theorem dX5_event_128 : decode cX5_event 128 = .ok (.aload_n 0, 1) := by decide +kernel
theorem dX5_event_129 : decode cX5_event 129 = .ok (.dup, 1) := by decide +kernel
theorem dX5_event_130 : decode cX5_event 130 = .ok (.getfield 124, 3) := by decide +kernel
theorem dX5_event_133 : decode cX5_event 133 = .ok (.iconst 1, 1) := by decide +kernel
theorem dX5_event_134 : decode cX5_event 134 = .ok (.iadd, 1) := by decide +kernel
theorem dX5_event_135 : decode cX5_event 135 = .ok (.putfield 124, 3) := by decide +kernel
theorem dX5_event_138 : decode cX5_event 138 = .ok (.aload_n 0, 1) := by decide +kernel
theorem dX5_event_139 : decode cX5_event 139 = .ok (.getfield 124, 3) := by decide +kernel
theorem dX5_event_142 : decode cX5_event 142 = .ok (.ireturn, 1) := by decide +kernel
set_option maxRecDepth 20000 in
theorem ggX5_calibrate_X5_isLink : GoodIn wsX5_calibrate wsX5_isLink := goodIn_r _ [9, 10, 11, 12, 8, 13, 19, 20, 21, 22, 23, 24, 25, 26, 27, 28, 29, 30, 31, 32, 33, 34, 35, 36, 37, 38, 39, 40, 41, 42, 43, 44, 45, 46, 47, 48, 49, 50, 51, 52] (by decide +kernel) (by decide +kernel)
set_option maxRecDepth 20000 in
theorem gX5_calibrate_X5_isLink : GoodIn wsX5_calibrate (wsV RX5 117 RX5 yX5_isLink wsX5_isLink) := goodIn_app (goodIn_of _ (by decide +kernel)) ggX5_calibrate_X5_isLink
set_option maxRecDepth 20000 in
theorem ggX5_calibrate_X5_in : GoodIn wsX5_calibrate wsX5_in := goodIn_r _ [13] (by decide +kernel) (by decide +kernel)
set_option maxRecDepth 20000 in
theorem gX5_calibrate_X5_in : GoodIn wsX5_calibrate (va_wsS RX5 99 yX5_in wsX5_in) := goodIn_app (goodIn_of _ (by decide +kernel)) ggX5_calibrate_X5_in
set_option maxRecDepth 20000 in
theorem ggX5_calibrate_X5_goes : GoodIn wsX5_calibrate wsX5_goes := goodIn_r _ [17, 18, 19, 20, 21, 22, 23, 24, 25, 26, 27, 28, 29, 30, 31, 32, 33, 34, 35, 36, 37, 38, 39, 40, 41, 42, 43, 44, 45, 46, 47, 48, 49, 50, 51, 52] (by decide +kernel) (by decide +kernel)
set_option maxRecDepth 20000 in
theorem gX5_calibrate_X5_goes : GoodIn wsX5_calibrate (wsV RX5 109 RX5 yX5_goes wsX5_goes) := goodIn_app (goodIn_of _ (by decide +kernel)) ggX5_calibrate_X5_goes
theorem dX5_calibrate_0 : decode cX5_calibrate 0 = .ok (.aload_n 0, 1) := by decide +kernel
theorem dX5_calibrate_1 : decode cX5_calibrate 1 = .ok (.iload_n 1, 1) := by decide +kernel
theorem dX5_calibrate_2 : decode cX5_calibrate 2 = .ok (.invokevirtual 117, 3) := by decide +kernel
theorem dX5_calibrate_5 : decode cX5_calibrate 5 = .ok (.istore 5, 2) := by decide +kernel
theorem dX5_calibrate_7 : decode cX5_calibrate 7 = .ok (.aload_n 0, 1) := by decide +kernel
theorem dX5_calibrate_8 : decode cX5_calibrate 8 = .ok (.iload 5, 2) := by decide +kernel
theorem dX5_calibrate_10 : decode cX5_calibrate 10 = .ok (.iload_n 2, 1) := by decide +kernel
theorem dX5_calibrate_11 : decode cX5_calibrate 11 = .ok (.iconst 0, 1) := by decide +kernel
theorem dX5_calibrate_12 : decode cX5_calibrate 12 = .ok (.sipush 500, 3) := by decide +kernel
theorem dX5_calibrate_15 : decode cX5_calibrate 15 = .ok (.invokestatic 99, 3) := by decide +kernel
theorem dX5_calibrate_18 : decode cX5_calibrate 18 = .ok (.ifCond .eq 32, 3) := by decide +kernel
theorem dX5_calibrate_21 : decode cX5_calibrate 21 = .ok (.iload_n 3, 1) := by decide +kernel
theorem dX5_calibrate_22 : decode cX5_calibrate 22 = .ok (.iload_n 2, 1) := by decide +kernel
theorem dX5_calibrate_23 : decode cX5_calibrate 23 = .ok (.sipush 500, 3) := by decide +kernel
theorem dX5_calibrate_26 : decode cX5_calibrate 26 = .ok (.invokestatic 99, 3) := by decide +kernel
theorem dX5_calibrate_29 : decode cX5_calibrate 29 = .ok (.ifCond .eq 21, 3) := by decide +kernel
theorem dX5_calibrate_32 : decode cX5_calibrate 32 = .ok (.iload 4, 2) := by decide +kernel
theorem dX5_calibrate_34 : decode cX5_calibrate 34 = .ok (.sipush (-10000), 3) := by decide +kernel
theorem dX5_calibrate_37 : decode cX5_calibrate 37 = .ok (.sipush 10000, 3) := by decide +kernel
theorem dX5_calibrate_40 : decode cX5_calibrate 40 = .ok (.invokestatic 99, 3) := by decide +kernel
theorem dX5_calibrate_43 : decode cX5_calibrate 43 = .ok (.ifCond .eq 7, 3) := by decide +kernel
theorem dX5_calibrate_46 : decode cX5_calibrate 46 = .ok (.iconst 1, 1) := by decide +kernel
theorem dX5_calibrate_47 : decode cX5_calibrate 47 = .ok (.goto 4, 3) := by decide +kernel
theorem dX5_calibrate_50 : decode cX5_calibrate 50 = .ok (.iconst 0, 1) := by decide +kernel
theorem dX5_calibrate_51 : decode cX5_calibrate 51 = .ok (.iload 5, 2) := by decide +kernel
theorem dX5_calibrate_53 : decode cX5_calibrate 53 = .ok (.ifCond .eq 27, 3) := by decide +kernel
theorem dX5_calibrate_56 : decode cX5_calibrate 56 = .ok (.aload_n 0, 1) := by decide +kernel
theorem dX5_calibrate_57 : decode cX5_calibrate 57 = .ok (.getfield 55, 3) := by decide +kernel
theorem dX5_calibrate_60 : decode cX5_calibrate 60 = .ok (.iload 5, 2) := by decide +kernel
theorem dX5_calibrate_62 : decode cX5_calibrate 62 = .ok (.ifCond .eq 7, 3) := by decide +kernel
theorem dX5_calibrate_65 : decode cX5_calibrate 65 = .ok (.iload_n 1, 1) := by decide +kernel
theorem dX5_calibrate_66 : decode cX5_calibrate 66 = .ok (.goto 4, 3) := by decide +kernel
theorem dX5_calibrate_69 : decode cX5_calibrate 69 = .ok (.iconst 0, 1) := by decide +kernel
theorem dX5_calibrate_70 : decode cX5_calibrate 70 = .ok (.iaload, 1) := by decide +kernel
theorem dX5_calibrate_71 : decode cX5_calibrate 71 = .ok (.bipush 10, 2) := by decide +kernel
theorem dX5_calibrate_73 : decode cX5_calibrate 73 = .ok (.if_icmp .ge 7, 3) := by decide +kernel
theorem dX5_calibrate_76 : decode cX5_calibrate 76 = .ok (.iconst 1, 1) := by decide +kernel
theorem dX5_calibrate_77 : decode cX5_calibrate 77 = .ok (.goto 4, 3) := by decide +kernel
theorem dX5_calibrate_80 : decode cX5_calibrate 80 = .ok (.iconst 0, 1) := by decide +kernel
theorem dX5_calibrate_81 : decode cX5_calibrate 81 = .ok (.invokevirtual 109, 3) := by decide +kernel
theorem dX5_calibrate_84 : decode cX5_calibrate 84 = .ok (.ifCond .ne 5, 3) := by decide +kernel
theorem dX5_calibrate_87 : decode cX5_calibrate 87 = .ok (.iconst 0, 1) := by decide +kernel
theorem dX5_calibrate_88 : decode cX5_calibrate 88 = .ok (.ireturn, 1) := by decide +kernel
theorem dX5_calibrate_89 : decode cX5_calibrate 89 = .ok (.bipush 10, 2) := by decide +kernel
theorem dX5_calibrate_91 : decode cX5_calibrate 91 = .ok (.iload_n 1, 1) := by decide +kernel
theorem dX5_calibrate_92 : decode cX5_calibrate 92 = .ok (.imul, 1) := by decide +kernel
theorem dX5_calibrate_93 : decode cX5_calibrate 93 = .ok (.aload_n 0, 1) := by decide +kernel
theorem dX5_calibrate_94 : decode cX5_calibrate 94 = .ok (.getfield 55, 3) := by decide +kernel
theorem dX5_calibrate_97 : decode cX5_calibrate 97 = .ok (.iload_n 1, 1) := by decide +kernel
theorem dX5_calibrate_98 : decode cX5_calibrate 98 = .ok (.iaload, 1) := by decide +kernel
theorem dX5_calibrate_99 : decode cX5_calibrate 99 = .ok (.iadd, 1) := by decide +kernel
theorem dX5_calibrate_100 : decode cX5_calibrate 100 = .ok (.istore 6, 2) := by decide +kernel
theorem dX5_calibrate_102 : decode cX5_calibrate 102 = .ok (.aload_n 0, 1) := by decide +kernel
theorem dX5_calibrate_103 : decode cX5_calibrate 103 = .ok (.getfield 58, 3) := by decide +kernel
theorem dX5_calibrate_106 : decode cX5_calibrate 106 = .ok (.iload 6, 2) := by decide +kernel
theorem dX5_calibrate_108 : decode cX5_calibrate 108 = .ok (.iload_n 2, 1) := by decide +kernel
theorem dX5_calibrate_109 : decode cX5_calibrate 109 = .ok (.iastore, 1) := by decide +kernel
theorem dX5_calibrate_110 : decode cX5_calibrate 110 = .ok (.aload_n 0, 1) := by decide +kernel
theorem dX5_calibrate_111 : decode cX5_calibrate 111 = .ok (.getfield 61, 3) := by decide +kernel
theorem dX5_calibrate_114 : decode cX5_calibrate 114 = .ok (.iload 6, 2) := by decide +kernel
theorem dX5_calibrate_116 : decode cX5_calibrate 116 = .ok (.iload_n 3, 1) := by decide +kernel
theorem dX5_calibrate_117 : decode cX5_calibrate 117 = .ok (.iastore, 1) := by decide +kernel
theorem dX5_calibrate_118 : decode cX5_calibrate 118 = .ok (.aload_n 0, 1) := by decide +kernel
theorem dX5_calibrate_119 : decode cX5_calibrate 119 = .ok (.getfield 64, 3) := by decide +kernel
theorem dX5_calibrate_122 : decode cX5_calibrate 122 = .ok (.iload 6, 2) := by decide +kernel
theorem dX5_calibrate_124 : decode cX5_calibrate 124 = .ok (.iload 4, 2) := by decide +kernel
theorem dX5_calibrate_126 : decode cX5_calibrate 126 = .ok (.iastore, 1) := by decide +kernel
theorem dX5_calibrate_127 : decode cX5_calibrate 127 = .ok (.aload_n 0, 1) := by decide +kernel
theorem dX5_calibrate_128 : decode cX5_calibrate 128 = .ok (.getfield 55, 3) := by decide +kernel
theorem dX5_calibrate_131 : decode cX5_calibrate 131 = .ok (.iload_n 1, 1) := by decide +kernel
theorem dX5_calibrate_132 : decode cX5_calibrate 132 = .ok (.dup2, 1) := by decide +kernel
theorem dX5_calibrate_133 : decode cX5_calibrate 133 = .ok (.iaload, 1) := by decide +kernel
theorem dX5_calibrate_134 : decode cX5_calibrate 134 = .ok (.iconst 1, 1) := by decide +kernel
theorem dX5_calibrate_135 : decode cX5_calibrate 135 = .ok (.iadd, 1) := by decide +kernel
theorem dX5_calibrate_136 : decode cX5_calibrate 136 = .ok (.iastore, 1) := by decide +kernel
theorem dX5_calibrate_137 : decode cX5_calibrate 137 = .ok (.aload_n 0, 1) := by decide +kernel
theorem dX5_calibrate_138 : decode cX5_calibrate 138 = .ok (.getfield 55, 3) := by decide +kernel
theorem dX5_calibrate_141 : decode cX5_calibrate 141 = .ok (.iload_n 1, 1) := by decide +kernel
theorem dX5_calibrate_142 : decode cX5_calibrate 142 = .ok (.iaload, 1) := by decide +kernel
theorem dX5_calibrate_143 : decode cX5_calibrate 143 = .ok (.ireturn, 1) := by decide +kernel
set_option maxRecDepth 20000 in
theorem ggX5_bounds_X5_in : GoodIn wsX5_bounds wsX5_in := goodIn_r _ [6] (by decide +kernel) (by decide +kernel)
set_option maxRecDepth 20000 in
theorem gX5_bounds_X5_in : GoodIn wsX5_bounds (va_wsS RX5 99 yX5_in wsX5_in) := goodIn_app (goodIn_of _ (by decide +kernel)) ggX5_bounds_X5_in
set_option maxRecDepth 20000 in
theorem ggX5_bounds_X5_goes : GoodIn wsX5_bounds wsX5_goes := goodIn_r _ [10, 11, 12, 13, 14, 15, 16, 17, 18, 19, 20, 21, 22, 23, 24, 25, 26, 27, 28, 29, 30, 31, 32, 33, 34, 35, 36, 37, 38, 39, 40, 41, 42, 43, 44, 45] (by decide +kernel) (by decide +kernel)
set_option maxRecDepth 20000 in
theorem gX5_bounds_X5_goes : GoodIn wsX5_bounds (wsV RX5 109 RX5 yX5_goes wsX5_goes) := goodIn_app (goodIn_of _ (by decide +kernel)) ggX5_bounds_X5_goes
theorem dX5_bounds_0 : decode cX5_bounds 0 = .ok (.aload_n 0, 1) := by decide +kernel
theorem dX5_bounds_1 : decode cX5_bounds 1 = .ok (.iload_n 1, 1) := by decide +kernel
theorem dX5_bounds_2 : decode cX5_bounds 2 = .ok (.iconst 0, 1) := by decide +kernel
theorem dX5_bounds_3 : decode cX5_bounds 3 = .ok (.sipush 499, 3) := by decide +kernel
theorem dX5_bounds_6 : decode cX5_bounds 6 = .ok (.invokestatic 99, 3) := by decide +kernel
theorem dX5_bounds_9 : decode cX5_bounds 9 = .ok (.ifCond .eq 18, 3) := by decide +kernel
theorem dX5_bounds_12 : decode cX5_bounds 12 = .ok (.iload_n 2, 1) := by decide +kernel
theorem dX5_bounds_13 : decode cX5_bounds 13 = .ok (.iconst 1, 1) := by decide +kernel
theorem dX5_bounds_14 : decode cX5_bounds 14 = .ok (.sipush 1000, 3) := by decide +kernel
theorem dX5_bounds_17 : decode cX5_bounds 17 = .ok (.invokestatic 99, 3) := by decide +kernel
theorem dX5_bounds_20 : decode cX5_bounds 20 = .ok (.ifCond .eq 7, 3) := by decide +kernel
theorem dX5_bounds_23 : decode cX5_bounds 23 = .ok (.iconst 1, 1) := by decide +kernel
theorem dX5_bounds_24 : decode cX5_bounds 24 = .ok (.goto 4, 3) := by decide +kernel
theorem dX5_bounds_27 : decode cX5_bounds 27 = .ok (.iconst 0, 1) := by decide +kernel
theorem dX5_bounds_28 : decode cX5_bounds 28 = .ok (.iconst 1, 1) := by decide +kernel
theorem dX5_bounds_29 : decode cX5_bounds 29 = .ok (.iconst 1, 1) := by decide +kernel
theorem dX5_bounds_30 : decode cX5_bounds 30 = .ok (.invokevirtual 109, 3) := by decide +kernel
theorem dX5_bounds_33 : decode cX5_bounds 33 = .ok (.ifCond .eq 13, 3) := by decide +kernel
theorem dX5_bounds_36 : decode cX5_bounds 36 = .ok (.aload_n 0, 1) := by decide +kernel
theorem dX5_bounds_37 : decode cX5_bounds 37 = .ok (.iload_n 1, 1) := by decide +kernel
theorem dX5_bounds_38 : decode cX5_bounds 38 = .ok (.putfield 86, 3) := by decide +kernel
theorem dX5_bounds_41 : decode cX5_bounds 41 = .ok (.aload_n 0, 1) := by decide +kernel
theorem dX5_bounds_42 : decode cX5_bounds 42 = .ok (.iload_n 2, 1) := by decide +kernel
theorem dX5_bounds_43 : decode cX5_bounds 43 = .ok (.putfield 90, 3) := by decide +kernel
theorem dX5_bounds_46 : decode cX5_bounds 46 = .ok (.return_, 1) := by decide +kernel
theorem dX5_isAhead_0 : decode cX5_isAhead 0 = .ok (.aload_n 0, 1) := by decide +kernel
theorem dX5_isAhead_1 : decode cX5_isAhead 1 = .ok (.getfield 46, 3) := by decide +kernel
theorem dX5_isAhead_4 : decode cX5_isAhead 4 = .ok (.iload_n 1, 1) := by decide +kernel
theorem dX5_isAhead_5 : decode cX5_isAhead 5 = .ok (.iaload, 1) := by decide +kernel
theorem dX5_isAhead_6 : decode cX5_isAhead 6 = .ok (.aload_n 0, 1) := by decide +kernel
theorem dX5_isAhead_7 : decode cX5_isAhead 7 = .ok (.getfield 46, 3) := by decide +kernel
theorem dX5_isAhead_10 : decode cX5_isAhead 10 = .ok (.iload_n 2, 1) := by decide +kernel
theorem dX5_isAhead_11 : decode cX5_isAhead 11 = .ok (.iaload, 1) := by decide +kernel
theorem dX5_isAhead_12 : decode cX5_isAhead 12 = .ok (.if_icmp .eq 26, 3) := by decide +kernel
theorem dX5_isAhead_15 : decode cX5_isAhead 15 = .ok (.aload_n 0, 1) := by decide +kernel
theorem dX5_isAhead_16 : decode cX5_isAhead 16 = .ok (.getfield 46, 3) := by decide +kernel
theorem dX5_isAhead_19 : decode cX5_isAhead 19 = .ok (.iload_n 1, 1) := by decide +kernel
theorem dX5_isAhead_20 : decode cX5_isAhead 20 = .ok (.iaload, 1) := by decide +kernel
theorem dX5_isAhead_21 : decode cX5_isAhead 21 = .ok (.aload_n 0, 1) := by decide +kernel
theorem dX5_isAhead_22 : decode cX5_isAhead 22 = .ok (.getfield 46, 3) := by decide +kernel
theorem dX5_isAhead_25 : decode cX5_isAhead 25 = .ok (.iload_n 2, 1) := by decide +kernel
theorem dX5_isAhead_26 : decode cX5_isAhead 26 = .ok (.iaload, 1) := by decide +kernel
theorem dX5_isAhead_27 : decode cX5_isAhead 27 = .ok (.if_icmp .ge 7, 3) := by decide +kernel
theorem dX5_isAhead_30 : decode cX5_isAhead 30 = .ok (.iconst 1, 1) := by decide +kernel
theorem dX5_isAhead_31 : decode cX5_isAhead 31 = .ok (.goto 65, 3) := by decide +kernel
theorem dX5_isAhead_34 : decode cX5_isAhead 34 = .ok (.iconst 0, 1) := by decide +kernel
theorem dX5_isAhead_35 : decode cX5_isAhead 35 = .ok (.goto 61, 3) := by decide +kernel
theorem dX5_isAhead_38 : decode cX5_isAhead 38 = .ok (.aload_n 0, 1) := by decide +kernel
theorem dX5_isAhead_39 : decode cX5_isAhead 39 = .ok (.getfield 49, 3) := by decide +kernel
theorem dX5_isAhead_42 : decode cX5_isAhead 42 = .ok (.iload_n 1, 1) := by decide +kernel
theorem dX5_isAhead_43 : decode cX5_isAhead 43 = .ok (.iaload, 1) := by decide +kernel
theorem dX5_isAhead_44 : decode cX5_isAhead 44 = .ok (.aload_n 0, 1) := by decide +kernel
theorem dX5_isAhead_45 : decode cX5_isAhead 45 = .ok (.getfield 49, 3) := by decide +kernel
theorem dX5_isAhead_48 : decode cX5_isAhead 48 = .ok (.iload_n 2, 1) := by decide +kernel
theorem dX5_isAhead_49 : decode cX5_isAhead 49 = .ok (.iaload, 1) := by decide +kernel
theorem dX5_isAhead_50 : decode cX5_isAhead 50 = .ok (.if_icmp .eq 26, 3) := by decide +kernel
theorem dX5_isAhead_53 : decode cX5_isAhead 53 = .ok (.aload_n 0, 1) := by decide +kernel
theorem dX5_isAhead_54 : decode cX5_isAhead 54 = .ok (.getfield 49, 3) := by decide +kernel
theorem dX5_isAhead_57 : decode cX5_isAhead 57 = .ok (.iload_n 1, 1) := by decide +kernel
theorem dX5_isAhead_58 : decode cX5_isAhead 58 = .ok (.iaload, 1) := by decide +kernel
theorem dX5_isAhead_59 : decode cX5_isAhead 59 = .ok (.aload_n 0, 1) := by decide +kernel
theorem dX5_isAhead_60 : decode cX5_isAhead 60 = .ok (.getfield 49, 3) := by decide +kernel
theorem dX5_isAhead_63 : decode cX5_isAhead 63 = .ok (.iload_n 2, 1) := by decide +kernel
theorem dX5_isAhead_64 : decode cX5_isAhead 64 = .ok (.iaload, 1) := by decide +kernel
theorem dX5_isAhead_65 : decode cX5_isAhead 65 = .ok (.if_icmp .ge 7, 3) := by decide +kernel
theorem dX5_isAhead_68 : decode cX5_isAhead 68 = .ok (.iconst 1, 1) := by decide +kernel
theorem dX5_isAhead_69 : decode cX5_isAhead 69 = .ok (.goto 27, 3) := by decide +kernel
theorem dX5_isAhead_72 : decode cX5_isAhead 72 = .ok (.iconst 0, 1) := by decide +kernel
theorem dX5_isAhead_73 : decode cX5_isAhead 73 = .ok (.goto 23, 3) := by decide +kernel
theorem dX5_isAhead_76 : decode cX5_isAhead 76 = .ok (.aload_n 0, 1) := by decide +kernel
theorem dX5_isAhead_77 : decode cX5_isAhead 77 = .ok (.getfield 52, 3) := by decide +kernel
theorem dX5_isAhead_80 : decode cX5_isAhead 80 = .ok (.iload_n 1, 1) := by decide +kernel
theorem dX5_isAhead_81 : decode cX5_isAhead 81 = .ok (.iaload, 1) := by decide +kernel
theorem dX5_isAhead_82 : decode cX5_isAhead 82 = .ok (.aload_n 0, 1) := by decide +kernel
theorem dX5_isAhead_83 : decode cX5_isAhead 83 = .ok (.getfield 52, 3) := by decide +kernel
theorem dX5_isAhead_86 : decode cX5_isAhead 86 = .ok (.iload_n 2, 1) := by decide +kernel
theorem dX5_isAhead_87 : decode cX5_isAhead 87 = .ok (.iaload, 1) := by decide +kernel
theorem dX5_isAhead_88 : decode cX5_isAhead 88 = .ok (.if_icmp .ge 7, 3) := by decide +kernel
theorem dX5_isAhead_91 : decode cX5_isAhead 91 = .ok (.iconst 1, 1) := by decide +kernel
theorem dX5_isAhead_92 : decode cX5_isAhead 92 = .ok (.goto 4, 3) := by decide +kernel
theorem dX5_isAhead_95 : decode cX5_isAhead 95 = .ok (.iconst 0, 1) := by decide +kernel
theorem dX5_isAhead_96 : decode cX5_isAhead 96 = .ok (.ireturn, 1) := by decide +kernel
set_option maxRecDepth 20000 in
theorem ggX5_next_X5_isAhead : GoodIn wsX5_next wsX5_isAhead := goodIn_r _ [8, 9, 10, 11, 12, 13, 14, 15, 16, 17, 18, 19, 20, 21, 22, 23, 24, 25, 26, 27, 28, 29, 30, 31, 32, 33, 34, 35, 36, 37, 38, 39, 40, 41, 42, 43, 44, 45] (by decide +kernel) (by decide +kernel)
set_option maxRecDepth 20000 in
theorem gX5_next_X5_isAhead : GoodIn wsX5_next (wsV RX5 127 RX5 yX5_isAhead wsX5_isAhead) := goodIn_app (goodIn_of _ (by decide +kernel)) ggX5_next_X5_isAhead
theorem dX5_next_0 : decode cX5_next 0 = .ok (.iconst (-1), 1) := by decide +kernel
theorem dX5_next_1 : decode cX5_next 1 = .ok (.istore_n 1, 1) := by decide +kernel
theorem dX5_next_2 : decode cX5_next 2 = .ok (.iconst 0, 1) := by decide +kernel
theorem dX5_next_3 : decode cX5_next 3 = .ok (.istore_n 2, 1) := by decide +kernel
theorem dX5_next_4 : decode cX5_next 4 = .ok (.iload_n 2, 1) := by decide +kernel
theorem dX5_next_5 : decode cX5_next 5 = .ok (.aload_n 0, 1) := by decide +kernel
theorem dX5_next_6 : decode cX5_next 6 = .ok (.getfield 124, 3) := by decide +kernel
theorem dX5_next_9 : decode cX5_next 9 = .ok (.if_icmp .ge 42, 3) := by decide +kernel
theorem dX5_next_12 : decode cX5_next 12 = .ok (.aload_n 0, 1) := by decide +kernel
theorem dX5_next_13 : decode cX5_next 13 = .ok (.getfield 43, 3) := by decide +kernel
theorem dX5_next_16 : decode cX5_next 16 = .ok (.iload_n 2, 1) := by decide +kernel
theorem dX5_next_17 : decode cX5_next 17 = .ok (.iaload, 1) := by decide +kernel
theorem dX5_next_18 : decode cX5_next 18 = .ok (.aload_n 0, 1) := by decide +kernel
theorem dX5_next_19 : decode cX5_next 19 = .ok (.getfield 106, 3) := by decide +kernel
theorem dX5_next_22 : decode cX5_next 22 = .ok (.if_icmp .ne 21, 3) := by decide +kernel
theorem dX5_next_25 : decode cX5_next 25 = .ok (.iload_n 1, 1) := by decide +kernel
theorem dX5_next_26 : decode cX5_next 26 = .ok (.iconst (-1), 1) := by decide +kernel
theorem dX5_next_27 : decode cX5_next 27 = .ok (.if_icmp .eq 12, 3) := by decide +kernel
theorem dX5_next_30 : decode cX5_next 30 = .ok (.aload_n 0, 1) := by decide +kernel
theorem dX5_next_31 : decode cX5_next 31 = .ok (.iload_n 2, 1) := by decide +kernel
theorem dX5_next_32 : decode cX5_next 32 = .ok (.iload_n 1, 1) := by decide +kernel
theorem dX5_next_33 : decode cX5_next 33 = .ok (.invokevirtual 127, 3) := by decide +kernel
theorem dX5_next_36 : decode cX5_next 36 = .ok (.ifCond .eq 7, 3) := by decide +kernel
theorem dX5_next_39 : decode cX5_next 39 = .ok (.iload_n 2, 1) := by decide +kernel
theorem dX5_next_40 : decode cX5_next 40 = .ok (.goto 4, 3) := by decide +kernel
theorem dX5_next_43 : decode cX5_next 43 = .ok (.iload_n 1, 1) := by decide +kernel
theorem dX5_next_44 : decode cX5_next 44 = .ok (.istore_n 1, 1) := by decide +kernel
theorem dX5_next_45 : decode cX5_next 45 = .ok (.iinc 2 1, 3) := by decide +kernel
theorem dX5_next_48 : decode cX5_next 48 = .ok (.goto (-44), 3) := by decide +kernel
theorem dX5_next_51 : decode cX5_next 51 = .ok (.iload_n 1, 1) := by decide +kernel
theorem dX5_next_52 : decode cX5_next 52 = .ok (.ireturn, 1) := by decide +kernel
set_option maxRecDepth 20000 in
theorem ggX5_comes_X5_held : GoodIn wsX5_comes wsX5_held := goodIn_r _ [13] (by decide +kernel) (by decide +kernel)
set_option maxRecDepth 20000 in
theorem gX5_comes_X5_held : GoodIn wsX5_comes (va_wsS RX5 130 yX5_held wsX5_held) := goodIn_app (goodIn_of _ (by decide +kernel)) ggX5_comes_X5_held
theorem dX5_comes_0 : decode cX5_comes 0 = .ok (.aload_n 0, 1) := by decide +kernel
theorem dX5_comes_1 : decode cX5_comes 1 = .ok (.getfield 49, 3) := by decide +kernel
theorem dX5_comes_4 : decode cX5_comes 4 = .ok (.iload_n 1, 1) := by decide +kernel
theorem dX5_comes_5 : decode cX5_comes 5 = .ok (.iaload, 1) := by decide +kernel
theorem dX5_comes_6 : decode cX5_comes 6 = .ok (.istore_n 2, 1) := by decide +kernel
theorem dX5_comes_7 : decode cX5_comes 7 = .ok (.aload_n 0, 1) := by decide +kernel
theorem dX5_comes_8 : decode cX5_comes 8 = .ok (.getfield 46, 3) := by decide +kernel
theorem dX5_comes_11 : decode cX5_comes 11 = .ok (.iload_n 1, 1) := by decide +kernel
theorem dX5_comes_12 : decode cX5_comes 12 = .ok (.iaload, 1) := by decide +kernel
theorem dX5_comes_13 : decode cX5_comes 13 = .ok (.ifCond .ne 31, 3) := by decide +kernel
theorem dX5_comes_16 : decode cX5_comes 16 = .ok (.aload_n 0, 1) := by decide +kernel
theorem dX5_comes_17 : decode cX5_comes 17 = .ok (.getfield 7, 3) := by decide +kernel
theorem dX5_comes_20 : decode cX5_comes 20 = .ok (.iload_n 2, 1) := by decide +kernel
theorem dX5_comes_21 : decode cX5_comes 21 = .ok (.aload_n 0, 1) := by decide +kernel
theorem dX5_comes_22 : decode cX5_comes 22 = .ok (.getfield 7, 3) := by decide +kernel
theorem dX5_comes_25 : decode cX5_comes 25 = .ok (.iload_n 2, 1) := by decide +kernel
theorem dX5_comes_26 : decode cX5_comes 26 = .ok (.iaload, 1) := by decide +kernel
theorem dX5_comes_27 : decode cX5_comes 27 = .ok (.aload_n 0, 1) := by decide +kernel
theorem dX5_comes_28 : decode cX5_comes 28 = .ok (.getfield 52, 3) := by decide +kernel
theorem dX5_comes_31 : decode cX5_comes 31 = .ok (.iload_n 1, 1) := by decide +kernel
theorem dX5_comes_32 : decode cX5_comes 32 = .ok (.iaload, 1) := by decide +kernel
theorem dX5_comes_33 : decode cX5_comes 33 = .ok (.iadd, 1) := by decide +kernel
theorem dX5_comes_34 : decode cX5_comes 34 = .ok (.sipush 5000, 3) := by decide +kernel
theorem dX5_comes_37 : decode cX5_comes 37 = .ok (.invokestatic 130, 3) := by decide +kernel
theorem dX5_comes_40 : decode cX5_comes 40 = .ok (.iastore, 1) := by decide +kernel
theorem dX5_comes_41 : decode cX5_comes 41 = .ok (.goto 68, 3) := by decide +kernel
theorem dX5_comes_44 : decode cX5_comes 44 = .ok (.aload_n 0, 1) := by decide +kernel
theorem dX5_comes_45 : decode cX5_comes 45 = .ok (.getfield 46, 3) := by decide +kernel
theorem dX5_comes_48 : decode cX5_comes 48 = .ok (.iload_n 1, 1) := by decide +kernel
theorem dX5_comes_49 : decode cX5_comes 49 = .ok (.iaload, 1) := by decide +kernel
theorem dX5_comes_50 : decode cX5_comes 50 = .ok (.iconst 1, 1) := by decide +kernel
theorem dX5_comes_51 : decode cX5_comes 51 = .ok (.if_icmp .ne 18, 3) := by decide +kernel
theorem dX5_comes_54 : decode cX5_comes 54 = .ok (.aload_n 0, 1) := by decide +kernel
theorem dX5_comes_55 : decode cX5_comes 55 = .ok (.getfield 16, 3) := by decide +kernel
theorem dX5_comes_58 : decode cX5_comes 58 = .ok (.iload_n 2, 1) := by decide +kernel
theorem dX5_comes_59 : decode cX5_comes 59 = .ok (.aload_n 0, 1) := by decide +kernel
theorem dX5_comes_60 : decode cX5_comes 60 = .ok (.getfield 52, 3) := by decide +kernel
theorem dX5_comes_63 : decode cX5_comes 63 = .ok (.iload_n 1, 1) := by decide +kernel
theorem dX5_comes_64 : decode cX5_comes 64 = .ok (.iaload, 1) := by decide +kernel
theorem dX5_comes_65 : decode cX5_comes 65 = .ok (.iastore, 1) := by decide +kernel
theorem dX5_comes_66 : decode cX5_comes 66 = .ok (.goto 43, 3) := by decide +kernel
theorem dX5_comes_69 : decode cX5_comes 69 = .ok (.aload_n 0, 1) := by decide +kernel
theorem dX5_comes_70 : decode cX5_comes 70 = .ok (.getfield 46, 3) := by decide +kernel
theorem dX5_comes_73 : decode cX5_comes 73 = .ok (.iload_n 1, 1) := by decide +kernel
theorem dX5_comes_74 : decode cX5_comes 74 = .ok (.iaload, 1) := by decide +kernel
theorem dX5_comes_75 : decode cX5_comes 75 = .ok (.iconst 2, 1) := by decide +kernel
theorem dX5_comes_76 : decode cX5_comes 76 = .ok (.if_icmp .ne 18, 3) := by decide +kernel
theorem dX5_comes_79 : decode cX5_comes 79 = .ok (.aload_n 0, 1) := by decide +kernel
theorem dX5_comes_80 : decode cX5_comes 80 = .ok (.getfield 31, 3) := by decide +kernel
theorem dX5_comes_83 : decode cX5_comes 83 = .ok (.iload_n 2, 1) := by decide +kernel
theorem dX5_comes_84 : decode cX5_comes 84 = .ok (.aload_n 0, 1) := by decide +kernel
theorem dX5_comes_85 : decode cX5_comes 85 = .ok (.getfield 52, 3) := by decide +kernel
theorem dX5_comes_88 : decode cX5_comes 88 = .ok (.iload_n 1, 1) := by decide +kernel
theorem dX5_comes_89 : decode cX5_comes 89 = .ok (.iaload, 1) := by decide +kernel
theorem dX5_comes_90 : decode cX5_comes 90 = .ok (.iastore, 1) := by decide +kernel
theorem dX5_comes_91 : decode cX5_comes 91 = .ok (.goto 18, 3) := by decide +kernel
theorem dX5_comes_94 : decode cX5_comes 94 = .ok (.aload_n 0, 1) := by decide +kernel
theorem dX5_comes_95 : decode cX5_comes 95 = .ok (.getfield 34, 3) := by decide +kernel
theorem dX5_comes_98 : decode cX5_comes 98 = .ok (.iload_n 2, 1) := by decide +kernel
theorem dX5_comes_99 : decode cX5_comes 99 = .ok (.dup2, 1) := by decide +kernel
theorem dX5_comes_100 : decode cX5_comes 100 = .ok (.iaload, 1) := by decide +kernel
theorem dX5_comes_101 : decode cX5_comes 101 = .ok (.aload_n 0, 1) := by decide +kernel
theorem dX5_comes_102 : decode cX5_comes 102 = .ok (.getfield 52, 3) := by decide +kernel
theorem dX5_comes_105 : decode cX5_comes 105 = .ok (.iload_n 1, 1) := by decide +kernel
theorem dX5_comes_106 : decode cX5_comes 106 = .ok (.iaload, 1) := by decide +kernel
theorem dX5_comes_107 : decode cX5_comes 107 = .ok (.iadd, 1) := by decide +kernel
theorem dX5_comes_108 : decode cX5_comes 108 = .ok (.iastore, 1) := by decide +kernel
theorem dX5_comes_109 : decode cX5_comes 109 = .ok (.aload_n 0, 1) := by decide +kernel
theorem dX5_comes_110 : decode cX5_comes 110 = .ok (.dup, 1) := by decide +kernel
theorem dX5_comes_111 : decode cX5_comes 111 = .ok (.getfield 124, 3) := by decide +kernel
theorem dX5_comes_114 : decode cX5_comes 114 = .ok (.iconst 1, 1) := by decide +kernel
theorem dX5_comes_115 : decode cX5_comes 115 = .ok (.isub, 1) := by decide +kernel
theorem dX5_comes_116 : decode cX5_comes 116 = .ok (.putfield 124, 3) := by decide +kernel
theorem dX5_comes_119 : decode cX5_comes 119 = .ok (.aload_n 0, 1) := by decide +kernel
theorem dX5_comes_120 : decode cX5_comes 120 = .ok (.getfield 43, 3) := by decide +kernel
theorem dX5_comes_123 : decode cX5_comes 123 = .ok (.iload_n 1, 1) := by decide +kernel
theorem dX5_comes_124 : decode cX5_comes 124 = .ok (.aload_n 0, 1) := by decide +kernel
theorem dX5_comes_125 : decode cX5_comes 125 = .ok (.getfield 43, 3) := by decide +kernel
theorem dX5_comes_128 : decode cX5_comes 128 = .ok (.aload_n 0, 1) := by decide +kernel
theorem dX5_comes_129 : decode cX5_comes 129 = .ok (.getfield 124, 3) := by decide +kernel
theorem dX5_comes_132 : decode cX5_comes 132 = .ok (.iaload, 1) := by decide +kernel
theorem dX5_comes_133 : decode cX5_comes 133 = .ok (.iastore, 1) := by decide +kernel
theorem dX5_comes_134 : decode cX5_comes 134 = .ok (.aload_n 0, 1) := by decide +kernel
theorem dX5_comes_135 : decode cX5_comes 135 = .ok (.getfield 46, 3) := by decide +kernel
theorem dX5_comes_138 : decode cX5_comes 138 = .ok (.iload_n 1, 1) := by decide +kernel
theorem dX5_comes_139 : decode cX5_comes 139 = .ok (.aload_n 0, 1) := by decide +kernel
theorem dX5_comes_140 : decode cX5_comes 140 = .ok (.getfield 46, 3) := by decide +kernel
theorem dX5_comes_143 : decode cX5_comes 143 = .ok (.aload_n 0, 1) := by decide +kernel
theorem dX5_comes_144 : decode cX5_comes 144 = .ok (.getfield 124, 3) := by decide +kernel
theorem dX5_comes_147 : decode cX5_comes 147 = .ok (.iaload, 1) := by decide +kernel
theorem dX5_comes_148 : decode cX5_comes 148 = .ok (.iastore, 1) := by decide +kernel
theorem dX5_comes_149 : decode cX5_comes 149 = .ok (.aload_n 0, 1) := by decide +kernel
theorem dX5_comes_150 : decode cX5_comes 150 = .ok (.getfield 49, 3) := by decide +kernel
theorem dX5_comes_153 : decode cX5_comes 153 = .ok (.iload_n 1, 1) := by decide +kernel
theorem dX5_comes_154 : decode cX5_comes 154 = .ok (.aload_n 0, 1) := by decide +kernel
theorem dX5_comes_155 : decode cX5_comes 155 = .ok (.getfield 49, 3) := by decide +kernel
theorem dX5_comes_158 : decode cX5_comes 158 = .ok (.aload_n 0, 1) := by decide +kernel
theorem dX5_comes_159 : decode cX5_comes 159 = .ok (.getfield 124, 3) := by decide +kernel
theorem dX5_comes_162 : decode cX5_comes 162 = .ok (.iaload, 1) := by decide +kernel
theorem dX5_comes_163 : decode cX5_comes 163 = .ok (.iastore, 1) := by decide +kernel
theorem dX5_comes_164 : decode cX5_comes 164 = .ok (.aload_n 0, 1) := by decide +kernel
theorem dX5_comes_165 : decode cX5_comes 165 = .ok (.getfield 52, 3) := by decide +kernel
theorem dX5_comes_168 : decode cX5_comes 168 = .ok (.iload_n 1, 1) := by decide +kernel
theorem dX5_comes_169 : decode cX5_comes 169 = .ok (.aload_n 0, 1) := by decide +kernel
theorem dX5_comes_170 : decode cX5_comes 170 = .ok (.getfield 52, 3) := by decide +kernel
theorem dX5_comes_173 : decode cX5_comes 173 = .ok (.aload_n 0, 1) := by decide +kernel
theorem dX5_comes_174 : decode cX5_comes 174 = .ok (.getfield 124, 3) := by decide +kernel
theorem dX5_comes_177 : decode cX5_comes 177 = .ok (.iaload, 1) := by decide +kernel
theorem dX5_comes_178 : decode cX5_comes 178 = .ok (.iastore, 1) := by decide +kernel
theorem dX5_comes_179 : decode cX5_comes 179 = .ok (.return_, 1) := by decide +kernel
set_option maxRecDepth 20000 in
theorem ggX5_passes_X5_next : GoodIn wsX5_passes wsX5_next := goodIn_r _ [19, 20, 21, 1, 22, 23, 24, 18, 25, 26, 27, 28, 69, 70, 71, 72, 73, 74, 75, 76, 77, 78, 79, 80, 81, 82, 83, 84, 85, 86, 87, 88, 89, 90, 91, 92, 93, 94, 95, 96, 97, 98, 99, 100, 101, 102] (by decide +kernel) (by decide +kernel)
set_option maxRecDepth 20000 in
theorem gX5_passes_X5_next : GoodIn wsX5_passes (wsV RX5 134 RX5 yX5_next wsX5_next) := goodIn_app (goodIn_of _ (by decide +kernel)) ggX5_passes_X5_next
set_option maxRecDepth 20000 in
theorem ggX5_passes_X5_comes : GoodIn wsX5_passes wsX5_comes := goodIn_r _ [32, 27, 26, 4, 28, 5, 11, 12, 20, 21, 33, 34, 18, 35, 69, 70, 71, 72, 73, 74, 75, 76, 77, 78, 79, 80, 81, 82, 83, 84, 85, 86, 87, 88, 89, 90, 91, 92, 93, 94, 95, 96, 97, 98, 99, 100, 101, 102] (by decide +kernel) (by decide +kernel)
set_option maxRecDepth 20000 in
theorem gX5_passes_X5_comes : GoodIn wsX5_passes (wsV RX5 138 RX5 yX5_comes wsX5_comes) := goodIn_app (goodIn_of _ (by decide +kernel)) ggX5_passes_X5_comes
set_option maxRecDepth 20000 in
theorem ggX5_passes_X5_held : GoodIn wsX5_passes wsX5_held := goodIn_r _ [35] (by decide +kernel) (by decide +kernel)
set_option maxRecDepth 20000 in
theorem gX5_passes_X5_held : GoodIn wsX5_passes (va_wsS RX5 130 yX5_held wsX5_held) := goodIn_app (goodIn_of _ (by decide +kernel)) ggX5_passes_X5_held
set_option maxRecDepth 20000 in
theorem ggX5_passes_X5_meanOf : GoodIn wsX5_passes wsX5_meanOf := goodIn_r _ [39, 2, 40, 9, 41, 42, 43, 18, 44, 7, 10, 45, 46, 47, 48, 49, 50, 51, 52, 53, 54, 55, 56, 57, 58, 59, 60, 1, 61, 62, 63, 64, 8, 65, 66, 67, 68, 69, 70, 71, 72, 73, 74, 75, 76, 77, 78, 79, 80, 81, 82, 83, 84, 85, 86, 87, 88, 89, 90, 91, 92, 93, 94, 95, 96, 97, 98, 99, 100, 101, 102] (by decide +kernel) (by decide +kernel)
set_option maxRecDepth 20000 in
theorem gX5_passes_X5_meanOf : GoodIn wsX5_passes (wsV RX5 142 RX5 yX5_meanOf wsX5_meanOf) := goodIn_app (goodIn_of _ (by decide +kernel)) ggX5_passes_X5_meanOf
theorem dX5_passes_0 : decode cX5_passes 0 = .ok (.aload_n 0, 1) := by decide +kernel
theorem dX5_passes_1 : decode cX5_passes 1 = .ok (.dup, 1) := by decide +kernel
theorem dX5_passes_2 : decode cX5_passes 2 = .ok (.getfield 106, 3) := by decide +kernel
theorem dX5_passes_5 : decode cX5_passes 5 = .ok (.iconst 1, 1) := by decide +kernel
theorem dX5_passes_6 : decode cX5_passes 6 = .ok (.iadd, 1) := by decide +kernel
theorem dX5_passes_7 : decode cX5_passes 7 = .ok (.putfield 106, 3) := by decide +kernel
theorem dX5_passes_10 : decode cX5_passes 10 = .ok (.aload_n 0, 1) := by decide +kernel
theorem dX5_passes_11 : decode cX5_passes 11 = .ok (.invokevirtual 134, 3) := by decide +kernel
theorem dX5_passes_14 : decode cX5_passes 14 = .ok (.istore_n 1, 1) := by decide +kernel
theorem dX5_passes_15 : decode cX5_passes 15 = .ok (.iload_n 1, 1) := by decide +kernel
theorem dX5_passes_16 : decode cX5_passes 16 = .ok (.iconst (-1), 1) := by decide +kernel
theorem dX5_passes_17 : decode cX5_passes 17 = .ok (.if_icmp .eq 16, 3) := by decide +kernel
theorem dX5_passes_20 : decode cX5_passes 20 = .ok (.aload_n 0, 1) := by decide +kernel
theorem dX5_passes_21 : decode cX5_passes 21 = .ok (.iload_n 1, 1) := by decide +kernel
theorem dX5_passes_22 : decode cX5_passes 22 = .ok (.invokevirtual 138, 3) := by decide +kernel
theorem dX5_passes_25 : decode cX5_passes 25 = .ok (.aload_n 0, 1) := by decide +kernel
theorem dX5_passes_26 : decode cX5_passes 26 = .ok (.invokevirtual 134, 3) := by decide +kernel
theorem dX5_passes_29 : decode cX5_passes 29 = .ok (.istore_n 1, 1) := by decide +kernel
theorem dX5_passes_30 : decode cX5_passes 30 = .ok (.goto (-15), 3) := by decide +kernel
theorem dX5_passes_33 : decode cX5_passes 33 = .ok (.iconst 0, 1) := by decide +kernel
theorem dX5_passes_34 : decode cX5_passes 34 = .ok (.istore_n 1, 1) := by decide +kernel
theorem dX5_passes_35 : decode cX5_passes 35 = .ok (.iload_n 1, 1) := by decide +kernel
theorem dX5_passes_36 : decode cX5_passes 36 = .ok (.aload_n 0, 1) := by decide +kernel
theorem dX5_passes_37 : decode cX5_passes 37 = .ok (.getfield 96, 3) := by decide +kernel
theorem dX5_passes_40 : decode cX5_passes 40 = .ok (.if_icmp .ge 78, 3) := by decide +kernel
theorem dX5_passes_43 : decode cX5_passes 43 = .ok (.aload_n 0, 1) := by decide +kernel
theorem dX5_passes_44 : decode cX5_passes 44 = .ok (.getfield 19, 3) := by decide +kernel
theorem dX5_passes_47 : decode cX5_passes 47 = .ok (.iload_n 1, 1) := by decide +kernel
theorem dX5_passes_48 : decode cX5_passes 48 = .ok (.dup2, 1) := by decide +kernel
theorem dX5_passes_49 : decode cX5_passes 49 = .ok (.iaload, 1) := by decide +kernel
theorem dX5_passes_50 : decode cX5_passes 50 = .ok (.aload_n 0, 1) := by decide +kernel
theorem dX5_passes_51 : decode cX5_passes 51 = .ok (.getfield 7, 3) := by decide +kernel
theorem dX5_passes_54 : decode cX5_passes 54 = .ok (.iload_n 1, 1) := by decide +kernel
theorem dX5_passes_55 : decode cX5_passes 55 = .ok (.iaload, 1) := by decide +kernel
theorem dX5_passes_56 : decode cX5_passes 56 = .ok (.aload_n 0, 1) := by decide +kernel
theorem dX5_passes_57 : decode cX5_passes 57 = .ok (.getfield 16, 3) := by decide +kernel
theorem dX5_passes_60 : decode cX5_passes 60 = .ok (.iload_n 1, 1) := by decide +kernel
theorem dX5_passes_61 : decode cX5_passes 61 = .ok (.iaload, 1) := by decide +kernel
theorem dX5_passes_62 : decode cX5_passes 62 = .ok (.bipush 100, 2) := by decide +kernel
theorem dX5_passes_64 : decode cX5_passes 64 = .ok (.idiv, 1) := by decide +kernel
theorem dX5_passes_65 : decode cX5_passes 65 = .ok (.iadd, 1) := by decide +kernel
theorem dX5_passes_66 : decode cX5_passes 66 = .ok (.iadd, 1) := by decide +kernel
theorem dX5_passes_67 : decode cX5_passes 67 = .ok (.iastore, 1) := by decide +kernel
theorem dX5_passes_68 : decode cX5_passes 68 = .ok (.aload_n 0, 1) := by decide +kernel
theorem dX5_passes_69 : decode cX5_passes 69 = .ok (.getfield 7, 3) := by decide +kernel
theorem dX5_passes_72 : decode cX5_passes 72 = .ok (.iload_n 1, 1) := by decide +kernel
theorem dX5_passes_73 : decode cX5_passes 73 = .ok (.aload_n 0, 1) := by decide +kernel
theorem dX5_passes_74 : decode cX5_passes 74 = .ok (.getfield 106, 3) := by decide +kernel
theorem dX5_passes_77 : decode cX5_passes 77 = .ok (.bipush 10, 2) := by decide +kernel
theorem dX5_passes_79 : decode cX5_passes 79 = .ok (.irem, 1) := by decide +kernel
theorem dX5_passes_80 : decode cX5_passes 80 = .ok (.ifCond .ne 25, 3) := by decide +kernel
theorem dX5_passes_83 : decode cX5_passes 83 = .ok (.aload_n 0, 1) := by decide +kernel
theorem dX5_passes_84 : decode cX5_passes 84 = .ok (.getfield 7, 3) := by decide +kernel
theorem dX5_passes_87 : decode cX5_passes 87 = .ok (.iload_n 1, 1) := by decide +kernel
theorem dX5_passes_88 : decode cX5_passes 88 = .ok (.iaload, 1) := by decide +kernel
theorem dX5_passes_89 : decode cX5_passes 89 = .ok (.aload_n 0, 1) := by decide +kernel
theorem dX5_passes_90 : decode cX5_passes 90 = .ok (.getfield 13, 3) := by decide +kernel
theorem dX5_passes_93 : decode cX5_passes 93 = .ok (.iload_n 1, 1) := by decide +kernel
theorem dX5_passes_94 : decode cX5_passes 94 = .ok (.iaload, 1) := by decide +kernel
theorem dX5_passes_95 : decode cX5_passes 95 = .ok (.iadd, 1) := by decide +kernel
theorem dX5_passes_96 : decode cX5_passes 96 = .ok (.sipush 5000, 3) := by decide +kernel
theorem dX5_passes_99 : decode cX5_passes 99 = .ok (.invokestatic 130, 3) := by decide +kernel
theorem dX5_passes_102 : decode cX5_passes 102 = .ok (.goto 9, 3) := by decide +kernel
theorem dX5_passes_105 : decode cX5_passes 105 = .ok (.aload_n 0, 1) := by decide +kernel
theorem dX5_passes_106 : decode cX5_passes 106 = .ok (.getfield 7, 3) := by decide +kernel
theorem dX5_passes_109 : decode cX5_passes 109 = .ok (.iload_n 1, 1) := by decide +kernel
theorem dX5_passes_110 : decode cX5_passes 110 = .ok (.iaload, 1) := by decide +kernel
theorem dX5_passes_111 : decode cX5_passes 111 = .ok (.iastore, 1) := by decide +kernel
theorem dX5_passes_112 : decode cX5_passes 112 = .ok (.iinc 1 1, 3) := by decide +kernel
theorem dX5_passes_115 : decode cX5_passes 115 = .ok (.goto (-80), 3) := by decide +kernel
theorem dX5_passes_118 : decode cX5_passes 118 = .ok (.iconst 0, 1) := by decide +kernel
theorem dX5_passes_119 : decode cX5_passes 119 = .ok (.istore_n 1, 1) := by decide +kernel
theorem dX5_passes_120 : decode cX5_passes 120 = .ok (.iload_n 1, 1) := by decide +kernel
theorem dX5_passes_121 : decode cX5_passes 121 = .ok (.aload_n 0, 1) := by decide +kernel
theorem dX5_passes_122 : decode cX5_passes 122 = .ok (.getfield 103, 3) := by decide +kernel
theorem dX5_passes_125 : decode cX5_passes 125 = .ok (.if_icmp .ge 66, 3) := by decide +kernel
theorem dX5_passes_128 : decode cX5_passes 128 = .ok (.aload_n 0, 1) := by decide +kernel
theorem dX5_passes_129 : decode cX5_passes 129 = .ok (.getfield 40, 3) := by decide +kernel
theorem dX5_passes_132 : decode cX5_passes 132 = .ok (.bipush 8, 2) := by decide +kernel
theorem dX5_passes_134 : decode cX5_passes 134 = .ok (.aload_n 0, 1) := by decide +kernel
theorem dX5_passes_135 : decode cX5_passes 135 = .ok (.getfield 106, 3) := by decide +kernel
theorem dX5_passes_138 : decode cX5_passes 138 = .ok (.iconst 1, 1) := by decide +kernel
theorem dX5_passes_139 : decode cX5_passes 139 = .ok (.isub, 1) := by decide +kernel
theorem dX5_passes_140 : decode cX5_passes 140 = .ok (.imul, 1) := by decide +kernel
theorem dX5_passes_141 : decode cX5_passes 141 = .ok (.iload_n 1, 1) := by decide +kernel
theorem dX5_passes_142 : decode cX5_passes 142 = .ok (.iadd, 1) := by decide +kernel
theorem dX5_passes_143 : decode cX5_passes 143 = .ok (.aload_n 0, 1) := by decide +kernel
theorem dX5_passes_144 : decode cX5_passes 144 = .ok (.getfield 19, 3) := by decide +kernel
theorem dX5_passes_147 : decode cX5_passes 147 = .ok (.aload_n 0, 1) := by decide +kernel
theorem dX5_passes_148 : decode cX5_passes 148 = .ok (.getfield 25, 3) := by decide +kernel
theorem dX5_passes_151 : decode cX5_passes 151 = .ok (.iload_n 1, 1) := by decide +kernel
theorem dX5_passes_152 : decode cX5_passes 152 = .ok (.iaload, 1) := by decide +kernel
theorem dX5_passes_153 : decode cX5_passes 153 = .ok (.iaload, 1) := by decide +kernel
theorem dX5_passes_154 : decode cX5_passes 154 = .ok (.aload_n 0, 1) := by decide +kernel
theorem dX5_passes_155 : decode cX5_passes 155 = .ok (.getfield 19, 3) := by decide +kernel
theorem dX5_passes_158 : decode cX5_passes 158 = .ok (.aload_n 0, 1) := by decide +kernel
theorem dX5_passes_159 : decode cX5_passes 159 = .ok (.getfield 28, 3) := by decide +kernel
theorem dX5_passes_162 : decode cX5_passes 162 = .ok (.iload_n 1, 1) := by decide +kernel
theorem dX5_passes_163 : decode cX5_passes 163 = .ok (.iaload, 1) := by decide +kernel
theorem dX5_passes_164 : decode cX5_passes 164 = .ok (.iaload, 1) := by decide +kernel
theorem dX5_passes_165 : decode cX5_passes 165 = .ok (.isub, 1) := by decide +kernel
theorem dX5_passes_166 : decode cX5_passes 166 = .ok (.aload_n 0, 1) := by decide +kernel
theorem dX5_passes_167 : decode cX5_passes 167 = .ok (.getfield 31, 3) := by decide +kernel
theorem dX5_passes_170 : decode cX5_passes 170 = .ok (.iload_n 1, 1) := by decide +kernel
theorem dX5_passes_171 : decode cX5_passes 171 = .ok (.iaload, 1) := by decide +kernel
theorem dX5_passes_172 : decode cX5_passes 172 = .ok (.iadd, 1) := by decide +kernel
theorem dX5_passes_173 : decode cX5_passes 173 = .ok (.sipush 1000, 3) := by decide +kernel
theorem dX5_passes_176 : decode cX5_passes 176 = .ok (.aload_n 0, 1) := by decide +kernel
theorem dX5_passes_177 : decode cX5_passes 177 = .ok (.getfield 34, 3) := by decide +kernel
theorem dX5_passes_180 : decode cX5_passes 180 = .ok (.iload_n 1, 1) := by decide +kernel
theorem dX5_passes_181 : decode cX5_passes 181 = .ok (.iaload, 1) := by decide +kernel
theorem dX5_passes_182 : decode cX5_passes 182 = .ok (.imul, 1) := by decide +kernel
theorem dX5_passes_183 : decode cX5_passes 183 = .ok (.iadd, 1) := by decide +kernel
theorem dX5_passes_184 : decode cX5_passes 184 = .ok (.iastore, 1) := by decide +kernel
theorem dX5_passes_185 : decode cX5_passes 185 = .ok (.iinc 1 1, 3) := by decide +kernel
theorem dX5_passes_188 : decode cX5_passes 188 = .ok (.goto (-68), 3) := by decide +kernel
theorem dX5_passes_191 : decode cX5_passes 191 = .ok (.aload_n 0, 1) := by decide +kernel
theorem dX5_passes_192 : decode cX5_passes 192 = .ok (.getfield 67, 3) := by decide +kernel
theorem dX5_passes_195 : decode cX5_passes 195 = .ok (.aload_n 0, 1) := by decide +kernel
theorem dX5_passes_196 : decode cX5_passes 196 = .ok (.getfield 106, 3) := by decide +kernel
theorem dX5_passes_199 : decode cX5_passes 199 = .ok (.aload_n 0, 1) := by decide +kernel
theorem dX5_passes_200 : decode cX5_passes 200 = .ok (.getfield 67, 3) := by decide +kernel
theorem dX5_passes_203 : decode cX5_passes 203 = .ok (.aload_n 0, 1) := by decide +kernel
theorem dX5_passes_204 : decode cX5_passes 204 = .ok (.getfield 106, 3) := by decide +kernel
theorem dX5_passes_207 : decode cX5_passes 207 = .ok (.iconst 1, 1) := by decide +kernel
theorem dX5_passes_208 : decode cX5_passes 208 = .ok (.isub, 1) := by decide +kernel
theorem dX5_passes_209 : decode cX5_passes 209 = .ok (.iaload, 1) := by decide +kernel
theorem dX5_passes_210 : decode cX5_passes 210 = .ok (.aload_n 0, 1) := by decide +kernel
theorem dX5_passes_211 : decode cX5_passes 211 = .ok (.aload_n 0, 1) := by decide +kernel
theorem dX5_passes_212 : decode cX5_passes 212 = .ok (.getfield 106, 3) := by decide +kernel
theorem dX5_passes_215 : decode cX5_passes 215 = .ok (.invokevirtual 142, 3) := by decide +kernel
theorem dX5_passes_218 : decode cX5_passes 218 = .ok (.aload_n 0, 1) := by decide +kernel
theorem dX5_passes_219 : decode cX5_passes 219 = .ok (.getfield 67, 3) := by decide +kernel
theorem dX5_passes_222 : decode cX5_passes 222 = .ok (.aload_n 0, 1) := by decide +kernel
theorem dX5_passes_223 : decode cX5_passes 223 = .ok (.getfield 106, 3) := by decide +kernel
theorem dX5_passes_226 : decode cX5_passes 226 = .ok (.iconst 1, 1) := by decide +kernel
theorem dX5_passes_227 : decode cX5_passes 227 = .ok (.isub, 1) := by decide +kernel
theorem dX5_passes_228 : decode cX5_passes 228 = .ok (.iaload, 1) := by decide +kernel
theorem dX5_passes_229 : decode cX5_passes 229 = .ok (.isub, 1) := by decide +kernel
theorem dX5_passes_230 : decode cX5_passes 230 = .ok (.aload_n 0, 1) := by decide +kernel
theorem dX5_passes_231 : decode cX5_passes 231 = .ok (.getfield 90, 3) := by decide +kernel
theorem dX5_passes_234 : decode cX5_passes 234 = .ok (.invokestatic 130, 3) := by decide +kernel
theorem dX5_passes_237 : decode cX5_passes 237 = .ok (.iadd, 1) := by decide +kernel
theorem dX5_passes_238 : decode cX5_passes 238 = .ok (.iastore, 1) := by decide +kernel
theorem dX5_passes_239 : decode cX5_passes 239 = .ok (.return_, 1) := by decide +kernel
set_option maxRecDepth 20000 in
theorem ggX5_pass_X5_in : GoodIn wsX5_pass wsX5_in := goodIn_r _ [5] (by decide +kernel) (by decide +kernel)
set_option maxRecDepth 20000 in
theorem gX5_pass_X5_in : GoodIn wsX5_pass (va_wsS RX5 99 yX5_in wsX5_in) := goodIn_app (goodIn_of _ (by decide +kernel)) ggX5_pass_X5_in
set_option maxRecDepth 20000 in
theorem ggX5_pass_X5_goes : GoodIn wsX5_pass wsX5_goes := goodIn_r _ [9, 10, 78, 79, 80, 81, 82, 83, 84, 85, 86, 87, 88, 89, 90, 91, 92, 93, 94, 95, 96, 97, 98, 99, 100, 101, 102, 103, 104, 105, 106, 107, 108, 109, 110, 111] (by decide +kernel) (by decide +kernel)
set_option maxRecDepth 20000 in
theorem gX5_pass_X5_goes : GoodIn wsX5_pass (wsV RX5 109 RX5 yX5_goes wsX5_goes) := goodIn_app (goodIn_of _ (by decide +kernel)) ggX5_pass_X5_goes
set_option maxRecDepth 20000 in
theorem ggX5_pass_X5_passes : GoodIn wsX5_pass wsX5_passes := goodIn_r _ [14, 1, 15, 16, 17, 18, 19, 20, 21, 22, 23, 24, 25, 26, 27, 28, 29, 30, 4, 31, 32, 33, 34, 35, 36, 37, 38, 39, 40, 41, 42, 43, 44, 45, 46, 47, 48, 49, 50, 51, 52, 53, 54, 55, 56, 57, 58, 59, 60, 61, 62, 63, 64, 65, 2, 3, 5, 66, 67, 68, 69, 70, 71, 72, 73, 74, 75, 76, 77, 78, 79, 80, 81, 82, 83, 84, 85, 86, 87, 88, 89, 90, 91, 92, 93, 94, 95, 96, 97, 98, 99, 100, 101, 102, 103, 104, 105, 106, 107, 108, 109, 110, 111] (by decide +kernel) (by decide +kernel)
set_option maxRecDepth 20000 in
theorem gX5_pass_X5_passes : GoodIn wsX5_pass (wsV RX5 146 RX5 yX5_passes wsX5_passes) := goodIn_app (goodIn_of _ (by decide +kernel)) ggX5_pass_X5_passes
theorem dX5_pass_0 : decode cX5_pass 0 = .ok (.aload_n 0, 1) := by decide +kernel
theorem dX5_pass_1 : decode cX5_pass 1 = .ok (.iload_n 1, 1) := by decide +kernel
theorem dX5_pass_2 : decode cX5_pass 2 = .ok (.iconst 1, 1) := by decide +kernel
theorem dX5_pass_3 : decode cX5_pass 3 = .ok (.bipush 50, 2) := by decide +kernel
theorem dX5_pass_5 : decode cX5_pass 5 = .ok (.invokestatic 99, 3) := by decide +kernel
theorem dX5_pass_8 : decode cX5_pass 8 = .ok (.aload_n 0, 1) := by decide +kernel
theorem dX5_pass_9 : decode cX5_pass 9 = .ok (.getfield 106, 3) := by decide +kernel
theorem dX5_pass_12 : decode cX5_pass 12 = .ok (.iload_n 1, 1) := by decide +kernel
theorem dX5_pass_13 : decode cX5_pass 13 = .ok (.iadd, 1) := by decide +kernel
theorem dX5_pass_14 : decode cX5_pass 14 = .ok (.sipush 500, 3) := by decide +kernel
theorem dX5_pass_17 : decode cX5_pass 17 = .ok (.if_icmp .gt 7, 3) := by decide +kernel
theorem dX5_pass_20 : decode cX5_pass 20 = .ok (.iconst 1, 1) := by decide +kernel
theorem dX5_pass_21 : decode cX5_pass 21 = .ok (.goto 4, 3) := by decide +kernel
theorem dX5_pass_24 : decode cX5_pass 24 = .ok (.iconst 0, 1) := by decide +kernel
theorem dX5_pass_25 : decode cX5_pass 25 = .ok (.iconst 1, 1) := by decide +kernel
theorem dX5_pass_26 : decode cX5_pass 26 = .ok (.invokevirtual 109, 3) := by decide +kernel
theorem dX5_pass_29 : decode cX5_pass 29 = .ok (.ifCond .ne 5, 3) := by decide +kernel
theorem dX5_pass_32 : decode cX5_pass 32 = .ok (.iconst 0, 1) := by decide +kernel
theorem dX5_pass_33 : decode cX5_pass 33 = .ok (.ireturn, 1) := by decide +kernel
theorem dX5_pass_34 : decode cX5_pass 34 = .ok (.iconst 0, 1) := by decide +kernel
theorem dX5_pass_35 : decode cX5_pass 35 = .ok (.istore_n 2, 1) := by decide +kernel
theorem dX5_pass_36 : decode cX5_pass 36 = .ok (.iload_n 2, 1) := by decide +kernel
theorem dX5_pass_37 : decode cX5_pass 37 = .ok (.iload_n 1, 1) := by decide +kernel
theorem dX5_pass_38 : decode cX5_pass 38 = .ok (.if_icmp .ge 13, 3) := by decide +kernel
theorem dX5_pass_41 : decode cX5_pass 41 = .ok (.aload_n 0, 1) := by decide +kernel
theorem dX5_pass_42 : decode cX5_pass 42 = .ok (.invokevirtual 146, 3) := by decide +kernel
theorem dX5_pass_45 : decode cX5_pass 45 = .ok (.iinc 2 1, 3) := by decide +kernel
theorem dX5_pass_48 : decode cX5_pass 48 = .ok (.goto (-12), 3) := by decide +kernel
theorem dX5_pass_51 : decode cX5_pass 51 = .ok (.aload_n 0, 1) := by decide +kernel
theorem dX5_pass_52 : decode cX5_pass 52 = .ok (.getfield 106, 3) := by decide +kernel
theorem dX5_pass_55 : decode cX5_pass 55 = .ok (.ireturn, 1) := by decide +kernel
set_option maxRecDepth 20000 in
theorem ggX5_hasMeasured_X5_isLink : GoodIn wsX5_hasMeasured wsX5_isLink := goodIn_r _ [6, 7, 8, 9, 5, 10, 16, 17, 18, 19, 20, 21, 22, 23, 24, 25, 26, 27, 28, 29, 30, 31, 32, 33, 34, 35, 36, 37, 38, 39, 40, 41, 42, 43, 44, 45, 46, 47, 48, 49] (by decide +kernel) (by decide +kernel)
set_option maxRecDepth 20000 in
theorem gX5_hasMeasured_X5_isLink : GoodIn wsX5_hasMeasured (wsV RX5 117 RX5 yX5_isLink wsX5_isLink) := goodIn_app (goodIn_of _ (by decide +kernel)) ggX5_hasMeasured_X5_isLink
set_option maxRecDepth 20000 in
theorem ggX5_hasMeasured_X5_isDay : GoodIn wsX5_hasMeasured wsX5_isDay := goodIn_r _ [14, 15, 8, 9, 5, 10, 16, 17, 18, 19, 20, 21, 22, 23, 24, 25, 26, 27, 28, 29, 30, 31, 32, 33, 34, 35, 36, 37, 38, 39, 40, 41, 42, 43, 44, 45, 46, 47, 48, 49] (by decide +kernel) (by decide +kernel)
set_option maxRecDepth 20000 in
theorem gX5_hasMeasured_X5_isDay : GoodIn wsX5_hasMeasured (wsV RX5 149 RX5 yX5_isDay wsX5_isDay) := goodIn_app (goodIn_of _ (by decide +kernel)) ggX5_hasMeasured_X5_isDay
theorem dX5_hasMeasured_0 : decode cX5_hasMeasured 0 = .ok (.aload_n 0, 1) := by decide +kernel
theorem dX5_hasMeasured_1 : decode cX5_hasMeasured 1 = .ok (.iload_n 1, 1) := by decide +kernel
theorem dX5_hasMeasured_2 : decode cX5_hasMeasured 2 = .ok (.invokevirtual 117, 3) := by decide +kernel
theorem dX5_hasMeasured_5 : decode cX5_hasMeasured 5 = .ok (.ifCond .eq 25, 3) := by decide +kernel
theorem dX5_hasMeasured_8 : decode cX5_hasMeasured 8 = .ok (.aload_n 0, 1) := by decide +kernel
theorem dX5_hasMeasured_9 : decode cX5_hasMeasured 9 = .ok (.iload_n 2, 1) := by decide +kernel
theorem dX5_hasMeasured_10 : decode cX5_hasMeasured 10 = .ok (.invokevirtual 149, 3) := by decide +kernel
theorem dX5_hasMeasured_13 : decode cX5_hasMeasured 13 = .ok (.ifCond .eq 17, 3) := by decide +kernel
theorem dX5_hasMeasured_16 : decode cX5_hasMeasured 16 = .ok (.iload_n 2, 1) := by decide +kernel
theorem dX5_hasMeasured_17 : decode cX5_hasMeasured 17 = .ok (.aload_n 0, 1) := by decide +kernel
theorem dX5_hasMeasured_18 : decode cX5_hasMeasured 18 = .ok (.getfield 37, 3) := by decide +kernel
theorem dX5_hasMeasured_21 : decode cX5_hasMeasured 21 = .ok (.iload_n 1, 1) := by decide +kernel
theorem dX5_hasMeasured_22 : decode cX5_hasMeasured 22 = .ok (.iaload, 1) := by decide +kernel
theorem dX5_hasMeasured_23 : decode cX5_hasMeasured 23 = .ok (.if_icmp .le 7, 3) := by decide +kernel
theorem dX5_hasMeasured_26 : decode cX5_hasMeasured 26 = .ok (.iconst 1, 1) := by decide +kernel
theorem dX5_hasMeasured_27 : decode cX5_hasMeasured 27 = .ok (.goto 4, 3) := by decide +kernel
theorem dX5_hasMeasured_30 : decode cX5_hasMeasured 30 = .ok (.iconst 0, 1) := by decide +kernel
theorem dX5_hasMeasured_31 : decode cX5_hasMeasured 31 = .ok (.ireturn, 1) := by decide +kernel
set_option maxRecDepth 20000 in
theorem ggX5_corrected_X5_in : GoodIn wsX5_corrected wsX5_in := goodIn_r _ [9] (by decide +kernel) (by decide +kernel)
set_option maxRecDepth 20000 in
theorem gX5_corrected_X5_in : GoodIn wsX5_corrected (va_wsS RX5 99 yX5_in wsX5_in) := goodIn_app (goodIn_of _ (by decide +kernel)) ggX5_corrected_X5_in
