theorem dL_vote_0 : decode cL_vote 0 = .ok (.aload_n 0, 1) := by decide +kernel
theorem dL_vote_1 : decode cL_vote 1 = .ok (.iload_n 1, 1) := by decide +kernel
theorem dL_vote_2 : decode cL_vote 2 = .ok (.iload_n 2, 1) := by decide +kernel
theorem dL_vote_3 : decode cL_vote 3 = .ok (.invokevirtual 47, 3) := by decide +kernel
theorem dL_vote_6 : decode cL_vote 6 = .ok (.ireturn, 1) := by decide +kernel
theorem dL_vote_7 : decode cL_vote 7 = .ok (.astore_n 3, 1) := by decide +kernel
theorem dL_vote_8 : decode cL_vote 8 = .ok (.ldc 28, 2) := by decide +kernel
theorem dL_vote_10 : decode cL_vote 10 = .ok (.ireturn, 1) := by decide +kernel
set_option maxRecDepth 20000 in
theorem ggL_adopt_X4_adopt : GoodIn wsL_adopt wsX4_adopt := goodIn_ca (goodIn_r _ [7, 8, 9, 10, 11, 12, 13, 14, 6, 15, 16, 17, 18, 19, 20, 21, 22, 23, 24, 25, 26, 27, 28, 29, 30, 31, 32, 33, 34, 35, 36, 37, 38, 39, 40, 41, 42, 43, 44, 45, 46, 47, 48, 49, 50, 51, 52, 53, 54, 55, 56, 57, 58, 59, 60, 61, 62, 63, 64, 65, 66, 67, 68, 69, 70, 71, 72, 73, 74, 75, 76, 77, 78, 79, 80, 81, 82, 83, 84, 85, 86, 87, 88, 89, 90, 91, 92, 93, 94, 95, 96, 97, 98, 99, 100, 101, 102, 103, 104, 105, 106, 107, 108, 109, 110, 111, 112, 113, 114, 115, 116, 117, 118, 119] (by decide +kernel) (by decide +kernel)) (goodIn_sub (fun _ h => List.mem_cons_of_mem _ (List.mem_append_right _ h)) (by decide +kernel))
set_option maxRecDepth 20000 in
theorem gL_adopt_X4_adopt : GoodIn wsL_adopt (wsV RL 51 RX4 yX4_adopt wsX4_adopt) := goodIn_app (goodIn_of _ (by decide +kernel)) ggL_adopt_X4_adopt
theorem dL_adopt_0 : decode cL_adopt 0 = .ok (.aload_n 0, 1) := by decide +kernel
theorem dL_adopt_1 : decode cL_adopt 1 = .ok (.invokevirtual 51, 3) := by decide +kernel
theorem dL_adopt_4 : decode cL_adopt 4 = .ok (.ifCond .eq 7, 3) := by decide +kernel
theorem dL_adopt_7 : decode cL_adopt 7 = .ok (.iconst 1, 1) := by decide +kernel
theorem dL_adopt_8 : decode cL_adopt 8 = .ok (.goto 4, 3) := by decide +kernel
theorem dL_adopt_11 : decode cL_adopt 11 = .ok (.iconst 0, 1) := by decide +kernel
theorem dL_adopt_12 : decode cL_adopt 12 = .ok (.ireturn, 1) := by decide +kernel
theorem dL_adopt_13 : decode cL_adopt 13 = .ok (.astore_n 1, 1) := by decide +kernel
theorem dL_adopt_14 : decode cL_adopt 14 = .ok (.ldc 21, 2) := by decide +kernel
theorem dL_adopt_16 : decode cL_adopt 16 = .ok (.ireturn, 1) := by decide +kernel
set_option maxRecDepth 20000 in
theorem ggL_of_X4_of : GoodIn wsL_of wsX4_of := goodIn_ca (goodIn_ca (goodIn_r _ [9, 10, 11, 12, 13, 14, 15, 16, 17, 18, 19, 20, 21, 22, 23, 24, 25, 26, 27, 28, 29, 30, 31, 32, 33, 34, 35, 36, 37, 38, 39, 40, 41, 42, 43, 44, 45, 46, 47, 48, 49, 50, 51] (by decide +kernel) (by decide +kernel)) (goodIn_sub (fun _ h => List.mem_cons_of_mem _ (List.mem_append_left _ (List.mem_append_right _ h))) (by decide +kernel))) (goodIn_sub (fun _ h => List.mem_cons_of_mem _ (List.mem_append_right _ h)) (by decide +kernel))
set_option maxRecDepth 20000 in
theorem gL_of_X4_of : GoodIn wsL_of (wsV RL 55 RX4 yX4_of wsX4_of) := goodIn_app (goodIn_of _ (by decide +kernel)) ggL_of_X4_of
theorem dL_of_0 : decode cL_of 0 = .ok (.aload_n 0, 1) := by decide +kernel
theorem dL_of_1 : decode cL_of 1 = .ok (.iload_n 1, 1) := by decide +kernel
theorem dL_of_2 : decode cL_of 2 = .ok (.iload_n 2, 1) := by decide +kernel
theorem dL_of_3 : decode cL_of 3 = .ok (.invokevirtual 55, 3) := by decide +kernel
theorem dL_of_6 : decode cL_of 6 = .ok (.ireturn, 1) := by decide +kernel
theorem dL_of_7 : decode cL_of 7 = .ok (.astore_n 3, 1) := by decide +kernel
theorem dL_of_8 : decode cL_of 8 = .ok (.ldc 28, 2) := by decide +kernel
theorem dL_of_10 : decode cL_of 10 = .ok (.ireturn, 1) := by decide +kernel
theorem dL_of_11 : decode cL_of 11 = .ok (.astore_n 3, 1) := by decide +kernel
theorem dL_of_12 : decode cL_of 12 = .ok (.ldc 18, 2) := by decide +kernel
theorem dL_of_14 : decode cL_of 14 = .ok (.ireturn, 1) := by decide +kernel
set_option maxRecDepth 20000 in
theorem ggL_measured_X4_measured : GoodIn wsL_measured wsX4_measured := goodIn_ca (goodIn_r _ [7, 8, 9, 10, 11, 12, 13, 6, 14, 15, 16, 17, 18, 19, 20, 21, 22, 23, 24, 25, 26, 27, 28, 29, 30, 31, 32, 33, 34, 35, 36, 37, 38, 39, 40, 41, 42, 43, 44, 45, 46, 47, 48, 49, 50, 51, 52, 53, 54, 55, 56, 57, 58, 59, 60, 61, 62] (by decide +kernel) (by decide +kernel)) (goodIn_sub (fun _ h => List.mem_cons_of_mem _ (List.mem_append_right _ h)) (by decide +kernel))
set_option maxRecDepth 20000 in
theorem gL_measured_X4_measured : GoodIn wsL_measured (wsV RL 58 RX4 yX4_measured wsX4_measured) := goodIn_app (goodIn_of _ (by decide +kernel)) ggL_measured_X4_measured
theorem dL_measured_0 : decode cL_measured 0 = .ok (.aload_n 0, 1) := by decide +kernel
theorem dL_measured_1 : decode cL_measured 1 = .ok (.iload_n 1, 1) := by decide +kernel
theorem dL_measured_2 : decode cL_measured 2 = .ok (.iload_n 2, 1) := by decide +kernel
theorem dL_measured_3 : decode cL_measured 3 = .ok (.iload_n 3, 1) := by decide +kernel
theorem dL_measured_4 : decode cL_measured 4 = .ok (.invokevirtual 58, 3) := by decide +kernel
theorem dL_measured_7 : decode cL_measured 7 = .ok (.ireturn, 1) := by decide +kernel
theorem dL_measured_8 : decode cL_measured 8 = .ok (.astore 4, 2) := by decide +kernel
theorem dL_measured_10 : decode cL_measured 10 = .ok (.ldc 28, 2) := by decide +kernel
theorem dL_measured_12 : decode cL_measured 12 = .ok (.ireturn, 1) := by decide +kernel
set_option maxRecDepth 20000 in
theorem ggL_closes_X4_closes : GoodIn wsL_closes wsX4_closes := goodIn_ca (goodIn_ca (goodIn_r _ [9, 10, 11, 12, 13, 14, 15, 16, 17, 18, 19, 20, 21, 22, 23, 24, 8, 25, 26, 27, 28, 29, 30, 31, 32, 33, 34, 35, 36, 37, 38, 39, 40, 41, 42, 43, 44, 45, 46, 47, 48, 49, 50, 51, 52, 53, 54, 55, 56, 57, 58, 59, 60, 61, 62, 63, 64, 65, 66, 67, 68, 69, 70, 71, 72, 73, 74, 75, 76, 77, 78, 79, 80, 81, 82, 83, 84, 85, 86, 87] (by decide +kernel) (by decide +kernel)) (goodIn_sub (fun _ h => List.mem_cons_of_mem _ (List.mem_append_left _ (List.mem_append_right _ h))) (by decide +kernel))) (goodIn_sub (fun _ h => List.mem_cons_of_mem _ (List.mem_append_right _ h)) (by decide +kernel))
set_option maxRecDepth 20000 in
theorem gL_closes_X4_closes : GoodIn wsL_closes (wsV RL 62 RX4 yX4_closes wsX4_closes) := goodIn_app (goodIn_of _ (by decide +kernel)) ggL_closes_X4_closes
theorem dL_closes_0 : decode cL_closes 0 = .ok (.aload_n 0, 1) := by decide +kernel
theorem dL_closes_1 : decode cL_closes 1 = .ok (.iload_n 1, 1) := by decide +kernel
theorem dL_closes_2 : decode cL_closes 2 = .ok (.iload_n 2, 1) := by decide +kernel
theorem dL_closes_3 : decode cL_closes 3 = .ok (.iload_n 3, 1) := by decide +kernel
theorem dL_closes_4 : decode cL_closes 4 = .ok (.iload 4, 2) := by decide +kernel
theorem dL_closes_6 : decode cL_closes 6 = .ok (.invokevirtual 62, 3) := by decide +kernel
theorem dL_closes_9 : decode cL_closes 9 = .ok (.ireturn, 1) := by decide +kernel
theorem dL_closes_10 : decode cL_closes 10 = .ok (.astore 5, 2) := by decide +kernel
theorem dL_closes_12 : decode cL_closes 12 = .ok (.ldc 28, 2) := by decide +kernel
theorem dL_closes_14 : decode cL_closes 14 = .ok (.ireturn, 1) := by decide +kernel
theorem dL_closes_15 : decode cL_closes 15 = .ok (.astore 5, 2) := by decide +kernel
theorem dL_closes_17 : decode cL_closes 17 = .ok (.ldc 18, 2) := by decide +kernel
theorem dL_closes_19 : decode cL_closes 19 = .ok (.ireturn, 1) := by decide +kernel
set_option maxRecDepth 20000 in
theorem ggL_open_X4_open : GoodIn wsL_open wsX4_open := goodIn_ca (goodIn_r _ [7, 8, 9, 10, 11, 12, 6, 13, 14, 15, 16, 17, 18, 19, 20, 21, 22, 23, 24, 25, 26, 27, 28, 29, 30, 31, 32, 33, 34, 35, 36, 37, 38, 39, 40, 41, 42, 43, 44, 45, 46, 47, 48, 49, 50, 51, 52, 53, 54, 55, 56, 57, 58, 59, 60, 61, 62, 63, 64, 65, 66, 67, 68, 69, 70, 71, 72, 73, 74, 75, 76, 77, 78, 79, 80, 81, 82, 83, 84, 85, 86, 87, 88, 89, 90, 91, 92, 93, 94, 95, 96, 97, 98, 99, 100, 101, 102, 103, 104, 105, 106, 107, 108, 109, 110, 111, 112, 113, 114, 115, 116, 117, 118, 119, 120] (by decide +kernel) (by decide +kernel)) (goodIn_sub (fun _ h => List.mem_cons_of_mem _ (List.mem_append_right _ h)) (by decide +kernel))
set_option maxRecDepth 20000 in
theorem gL_open_X4_open : GoodIn wsL_open (wsV RL 65 RX4 yX4_open wsX4_open) := goodIn_app (goodIn_of _ (by decide +kernel)) ggL_open_X4_open
theorem dL_open_0 : decode cL_open 0 = .ok (.aload_n 0, 1) := by decide +kernel
theorem dL_open_1 : decode cL_open 1 = .ok (.iload_n 1, 1) := by decide +kernel
theorem dL_open_2 : decode cL_open 2 = .ok (.invokevirtual 65, 3) := by decide +kernel
theorem dL_open_5 : decode cL_open 5 = .ok (.ireturn, 1) := by decide +kernel
theorem dL_open_6 : decode cL_open 6 = .ok (.astore_n 2, 1) := by decide +kernel
theorem dL_open_7 : decode cL_open 7 = .ok (.ldc 28, 2) := by decide +kernel
theorem dL_open_9 : decode cL_open 9 = .ok (.ireturn, 1) := by decide +kernel
set_option maxRecDepth 20000 in
theorem ggL_slips_X4_slips : GoodIn wsL_slips wsX4_slips := goodIn_ca (goodIn_r _ [7, 8, 9, 10, 11, 12, 13, 14, 15, 6, 16, 17, 18, 19, 20, 21, 22, 23, 24, 25, 26, 27, 28, 29, 30, 31, 32, 33, 34, 35, 36, 37, 38, 39, 40, 41, 42, 43, 44, 45, 46, 47, 48, 49, 50, 51, 52, 53, 54, 55, 56, 57, 58, 59, 60, 61, 62, 63, 64, 65, 66, 67, 68, 69, 70, 71, 72, 73, 74, 75, 76, 77, 78, 79, 80, 81, 82, 83, 84, 85, 86, 87, 88, 89, 90, 91, 92, 93, 94, 95, 96, 97, 98, 99, 100, 101, 102, 103, 104, 105, 106, 107, 108, 109, 110, 111, 112, 113, 114, 115, 116, 117, 118, 119, 120, 121, 122, 123, 124, 125, 126, 127, 128, 129, 130, 131, 132] (by decide +kernel) (by decide +kernel)) (goodIn_sub (fun _ h => List.mem_cons_of_mem _ (List.mem_append_right _ h)) (by decide +kernel))
set_option maxRecDepth 20000 in
theorem gL_slips_X4_slips : GoodIn wsL_slips (wsV RL 68 RX4 yX4_slips wsX4_slips) := goodIn_app (goodIn_of _ (by decide +kernel)) ggL_slips_X4_slips
theorem dL_slips_0 : decode cL_slips 0 = .ok (.aload_n 0, 1) := by decide +kernel
theorem dL_slips_1 : decode cL_slips 1 = .ok (.iload_n 1, 1) := by decide +kernel
theorem dL_slips_2 : decode cL_slips 2 = .ok (.invokevirtual 68, 3) := by decide +kernel
theorem dL_slips_5 : decode cL_slips 5 = .ok (.ireturn, 1) := by decide +kernel
theorem dL_slips_6 : decode cL_slips 6 = .ok (.astore_n 2, 1) := by decide +kernel
theorem dL_slips_7 : decode cL_slips 7 = .ok (.ldc 28, 2) := by decide +kernel
theorem dL_slips_9 : decode cL_slips 9 = .ok (.ireturn, 1) := by decide +kernel
set_option maxRecDepth 20000 in
theorem ggL_mean_X4_mean : GoodIn wsL_mean wsX4_mean := goodIn_ca (goodIn_r _ [7, 8, 9, 10, 11, 12, 13, 6, 14, 15, 16, 17, 18, 19, 20, 21, 22, 23, 24, 25, 26, 27, 28, 29, 30, 31, 32, 33, 34, 35, 36, 37, 38, 39, 40, 41, 42, 43, 44, 45, 46, 47, 48, 49, 50, 51, 52, 53, 54, 55, 56, 57, 58, 59, 60, 61, 62, 63, 64, 65, 66, 67, 68, 69, 70, 71, 72, 73, 74, 75, 76, 77, 78, 79, 80, 81, 82, 83, 84, 85, 86] (by decide +kernel) (by decide +kernel)) (goodIn_sub (fun _ h => List.mem_cons_of_mem _ (List.mem_append_right _ h)) (by decide +kernel))
set_option maxRecDepth 20000 in
theorem gL_mean_X4_mean : GoodIn wsL_mean (wsV RL 71 RX4 yX4_mean wsX4_mean) := goodIn_app (goodIn_of _ (by decide +kernel)) ggL_mean_X4_mean
theorem dL_mean_0 : decode cL_mean 0 = .ok (.aload_n 0, 1) := by decide +kernel
theorem dL_mean_1 : decode cL_mean 1 = .ok (.iload_n 1, 1) := by decide +kernel
theorem dL_mean_2 : decode cL_mean 2 = .ok (.invokevirtual 71, 3) := by decide +kernel
theorem dL_mean_5 : decode cL_mean 5 = .ok (.ireturn, 1) := by decide +kernel
theorem dL_mean_6 : decode cL_mean 6 = .ok (.astore_n 2, 1) := by decide +kernel
theorem dL_mean_7 : decode cL_mean 7 = .ok (.ldc 28, 2) := by decide +kernel
theorem dL_mean_9 : decode cL_mean 9 = .ok (.ireturn, 1) := by decide +kernel
set_option maxRecDepth 20000 in
theorem ggL_published_X4_published : GoodIn wsL_published wsX4_published := goodIn_ca (goodIn_r _ [7, 8, 9, 10, 11, 12, 13, 6, 14, 15, 16, 17, 18, 19, 20, 21, 22, 23, 24, 25, 26, 27, 28, 29, 30, 31, 32, 33, 34, 35, 36, 37, 38, 39, 40, 41, 42, 43, 44, 45, 46, 47, 48, 49, 50, 51, 52, 53, 54, 55, 56, 57, 58, 59, 60, 61, 62, 63, 64, 65, 66, 67, 68, 69, 70, 71, 72, 73, 74, 75, 76, 77, 78, 79, 80, 81, 82, 83, 84, 85, 86, 87, 88, 89, 90, 91, 92, 93, 94, 95, 96, 97, 98, 99, 100, 101, 102, 103, 104, 105, 106] (by decide +kernel) (by decide +kernel)) (goodIn_sub (fun _ h => List.mem_cons_of_mem _ (List.mem_append_right _ h)) (by decide +kernel))
set_option maxRecDepth 20000 in
theorem gL_published_X4_published : GoodIn wsL_published (wsV RL 74 RX4 yX4_published wsX4_published) := goodIn_app (goodIn_of _ (by decide +kernel)) ggL_published_X4_published
theorem dL_published_0 : decode cL_published 0 = .ok (.aload_n 0, 1) := by decide +kernel
theorem dL_published_1 : decode cL_published 1 = .ok (.iload_n 1, 1) := by decide +kernel
theorem dL_published_2 : decode cL_published 2 = .ok (.iload_n 2, 1) := by decide +kernel
theorem dL_published_3 : decode cL_published 3 = .ok (.invokevirtual 74, 3) := by decide +kernel
theorem dL_published_6 : decode cL_published 6 = .ok (.ireturn, 1) := by decide +kernel
theorem dL_published_7 : decode cL_published 7 = .ok (.astore_n 3, 1) := by decide +kernel
theorem dL_published_8 : decode cL_published 8 = .ok (.ldc 28, 2) := by decide +kernel
theorem dL_published_10 : decode cL_published 10 = .ok (.ireturn, 1) := by decide +kernel
set_option maxRecDepth 20000 in
theorem ggL_areMeasured_L_measured : GoodIn wsL_areMeasured wsL_measured := goodIn_ca (goodIn_r _ [5, 6, 1, 7, 8, 9, 10, 11, 12, 13, 14, 15, 16, 17, 18, 19, 20, 21, 22, 23, 24, 25, 26, 27, 28, 29, 30, 31, 32, 33, 34, 35, 36, 37, 38, 39, 40, 41, 42, 43, 44, 45, 46, 47, 48, 49, 50, 51, 52, 53, 54, 55, 56, 57, 58, 59, 60, 61, 62, 63, 64, 65, 66] (by decide +kernel) (by decide +kernel)) (goodIn_sub (fun _ h => List.mem_cons_of_mem _ (List.mem_append_right _ h)) (by decide +kernel))
set_option maxRecDepth 20000 in
theorem gL_areMeasured_L_measured : GoodIn wsL_areMeasured (va_wsS RL 80 yL_measured wsL_measured) := goodIn_app (goodIn_of _ (by decide +kernel)) ggL_areMeasured_L_measured
theorem dL_areMeasured_0 : decode cL_areMeasured 0 = .ok (.aload_n 0, 1) := by decide +kernel
theorem dL_areMeasured_1 : decode cL_areMeasured 1 = .ok (.aload_n 1, 1) := by decide +kernel
theorem dL_areMeasured_2 : decode cL_areMeasured 2 = .ok (.iconst 1, 1) := by decide +kernel
theorem dL_areMeasured_3 : decode cL_areMeasured 3 = .ok (.iaload, 1) := by decide +kernel
theorem dL_areMeasured_4 : decode cL_areMeasured 4 = .ok (.iload 4, 2) := by decide +kernel
theorem dL_areMeasured_6 : decode cL_areMeasured 6 = .ok (.iconst 1, 1) := by decide +kernel
theorem dL_areMeasured_7 : decode cL_areMeasured 7 = .ok (.invokestatic 80, 3) := by decide +kernel
theorem dL_areMeasured_10 : decode cL_areMeasured 10 = .ok (.ldc 28, 2) := by decide +kernel
theorem dL_areMeasured_12 : decode cL_areMeasured 12 = .ok (.if_icmp .ne 23, 3) := by decide +kernel
theorem dL_areMeasured_15 : decode cL_areMeasured 15 = .ok (.aload_n 0, 1) := by decide +kernel
theorem dL_areMeasured_16 : decode cL_areMeasured 16 = .ok (.iconst 0, 1) := by decide +kernel
theorem dL_areMeasured_17 : decode cL_areMeasured 17 = .ok (.aload_n 1, 1) := by decide +kernel
theorem dL_areMeasured_18 : decode cL_areMeasured 18 = .ok (.iconst 2, 1) := by decide +kernel
theorem dL_areMeasured_19 : decode cL_areMeasured 19 = .ok (.iaload, 1) := by decide +kernel
theorem dL_areMeasured_20 : decode cL_areMeasured 20 = .ok (.iconst 1, 1) := by decide +kernel
theorem dL_areMeasured_21 : decode cL_areMeasured 21 = .ok (.iadd, 1) := by decide +kernel
theorem dL_areMeasured_22 : decode cL_areMeasured 22 = .ok (.iconst 0, 1) := by decide +kernel
theorem dL_areMeasured_23 : decode cL_areMeasured 23 = .ok (.invokestatic 80, 3) := by decide +kernel
theorem dL_areMeasured_26 : decode cL_areMeasured 26 = .ok (.ldc 28, 2) := by decide +kernel
theorem dL_areMeasured_28 : decode cL_areMeasured 28 = .ok (.if_icmp .ne 7, 3) := by decide +kernel
theorem dL_areMeasured_31 : decode cL_areMeasured 31 = .ok (.iconst 1, 1) := by decide +kernel
theorem dL_areMeasured_32 : decode cL_areMeasured 32 = .ok (.goto 4, 3) := by decide +kernel
theorem dL_areMeasured_35 : decode cL_areMeasured 35 = .ok (.iconst 0, 1) := by decide +kernel
theorem dL_areMeasured_36 : decode cL_areMeasured 36 = .ok (.istore 5, 2) := by decide +kernel
theorem dL_areMeasured_38 : decode cL_areMeasured 38 = .ok (.iconst 0, 1) := by decide +kernel
theorem dL_areMeasured_39 : decode cL_areMeasured 39 = .ok (.istore 6, 2) := by decide +kernel
theorem dL_areMeasured_41 : decode cL_areMeasured 41 = .ok (.iload 6, 2) := by decide +kernel
theorem dL_areMeasured_43 : decode cL_areMeasured 43 = .ok (.aload_n 1, 1) := by decide +kernel
theorem dL_areMeasured_44 : decode cL_areMeasured 44 = .ok (.iconst 1, 1) := by decide +kernel
theorem dL_areMeasured_45 : decode cL_areMeasured 45 = .ok (.iaload, 1) := by decide +kernel
theorem dL_areMeasured_46 : decode cL_areMeasured 46 = .ok (.if_icmp .ge 171, 3) := by decide +kernel
theorem dL_areMeasured_49 : decode cL_areMeasured 49 = .ok (.iload 5, 2) := by decide +kernel
theorem dL_areMeasured_51 : decode cL_areMeasured 51 = .ok (.ifCond .eq 166, 3) := by decide +kernel
theorem dL_areMeasured_54 : decode cL_areMeasured 54 = .ok (.iconst 0, 1) := by decide +kernel
theorem dL_areMeasured_55 : decode cL_areMeasured 55 = .ok (.istore 7, 2) := by decide +kernel
theorem dL_areMeasured_57 : decode cL_areMeasured 57 = .ok (.iconst 0, 1) := by decide +kernel
theorem dL_areMeasured_58 : decode cL_areMeasured 58 = .ok (.istore 8, 2) := by decide +kernel
theorem dL_areMeasured_60 : decode cL_areMeasured 60 = .ok (.iload 8, 2) := by decide +kernel
theorem dL_areMeasured_62 : decode cL_areMeasured 62 = .ok (.aload_n 1, 1) := by decide +kernel
theorem dL_areMeasured_63 : decode cL_areMeasured 63 = .ok (.bipush 7, 2) := by decide +kernel
theorem dL_areMeasured_65 : decode cL_areMeasured 65 = .ok (.iaload, 1) := by decide +kernel
theorem dL_areMeasured_66 : decode cL_areMeasured 66 = .ok (.if_icmp .ge 63, 3) := by decide +kernel
theorem dL_areMeasured_69 : decode cL_areMeasured 69 = .ok (.iload 7, 2) := by decide +kernel
theorem dL_areMeasured_71 : decode cL_areMeasured 71 = .ok (.aload_n 3, 1) := by decide +kernel
theorem dL_areMeasured_72 : decode cL_areMeasured 72 = .ok (.iconst 4, 1) := by decide +kernel
theorem dL_areMeasured_73 : decode cL_areMeasured 73 = .ok (.iload 8, 2) := by decide +kernel
theorem dL_areMeasured_75 : decode cL_areMeasured 75 = .ok (.imul, 1) := by decide +kernel
theorem dL_areMeasured_76 : decode cL_areMeasured 76 = .ok (.iaload, 1) := by decide +kernel
theorem dL_areMeasured_77 : decode cL_areMeasured 77 = .ok (.iload 6, 2) := by decide +kernel
theorem dL_areMeasured_79 : decode cL_areMeasured 79 = .ok (.if_icmp .ne 40, 3) := by decide +kernel
theorem dL_areMeasured_82 : decode cL_areMeasured 82 = .ok (.iload 4, 2) := by decide +kernel
theorem dL_areMeasured_84 : decode cL_areMeasured 84 = .ok (.aload_n 3, 1) := by decide +kernel
theorem dL_areMeasured_85 : decode cL_areMeasured 85 = .ok (.iconst 4, 1) := by decide +kernel
theorem dL_areMeasured_86 : decode cL_areMeasured 86 = .ok (.iload 8, 2) := by decide +kernel
theorem dL_areMeasured_88 : decode cL_areMeasured 88 = .ok (.imul, 1) := by decide +kernel
theorem dL_areMeasured_89 : decode cL_areMeasured 89 = .ok (.iconst 1, 1) := by decide +kernel
theorem dL_areMeasured_90 : decode cL_areMeasured 90 = .ok (.iadd, 1) := by decide +kernel
theorem dL_areMeasured_91 : decode cL_areMeasured 91 = .ok (.iaload, 1) := by decide +kernel
theorem dL_areMeasured_92 : decode cL_areMeasured 92 = .ok (.if_icmp .lt 27, 3) := by decide +kernel
theorem dL_areMeasured_95 : decode cL_areMeasured 95 = .ok (.iload 4, 2) := by decide +kernel
theorem dL_areMeasured_97 : decode cL_areMeasured 97 = .ok (.aload_n 3, 1) := by decide +kernel
theorem dL_areMeasured_98 : decode cL_areMeasured 98 = .ok (.iconst 4, 1) := by decide +kernel
theorem dL_areMeasured_99 : decode cL_areMeasured 99 = .ok (.iload 8, 2) := by decide +kernel
theorem dL_areMeasured_101 : decode cL_areMeasured 101 = .ok (.imul, 1) := by decide +kernel
theorem dL_areMeasured_102 : decode cL_areMeasured 102 = .ok (.iconst 2, 1) := by decide +kernel
theorem dL_areMeasured_103 : decode cL_areMeasured 103 = .ok (.iadd, 1) := by decide +kernel
theorem dL_areMeasured_104 : decode cL_areMeasured 104 = .ok (.iaload, 1) := by decide +kernel
theorem dL_areMeasured_105 : decode cL_areMeasured 105 = .ok (.if_icmp .gt 14, 3) := by decide +kernel
theorem dL_areMeasured_108 : decode cL_areMeasured 108 = .ok (.aload_n 3, 1) := by decide +kernel
theorem dL_areMeasured_109 : decode cL_areMeasured 109 = .ok (.iconst 4, 1) := by decide +kernel
theorem dL_areMeasured_110 : decode cL_areMeasured 110 = .ok (.iload 8, 2) := by decide +kernel
theorem dL_areMeasured_112 : decode cL_areMeasured 112 = .ok (.imul, 1) := by decide +kernel
theorem dL_areMeasured_113 : decode cL_areMeasured 113 = .ok (.iconst 3, 1) := by decide +kernel
theorem dL_areMeasured_114 : decode cL_areMeasured 114 = .ok (.iadd, 1) := by decide +kernel
theorem dL_areMeasured_115 : decode cL_areMeasured 115 = .ok (.iaload, 1) := by decide +kernel
theorem dL_areMeasured_116 : decode cL_areMeasured 116 = .ok (.goto 4, 3) := by decide +kernel
theorem dL_areMeasured_119 : decode cL_areMeasured 119 = .ok (.iconst 0, 1) := by decide +kernel
theorem dL_areMeasured_120 : decode cL_areMeasured 120 = .ok (.iadd, 1) := by decide +kernel
theorem dL_areMeasured_121 : decode cL_areMeasured 121 = .ok (.istore 7, 2) := by decide +kernel
theorem dL_areMeasured_123 : decode cL_areMeasured 123 = .ok (.iinc 8 1, 3) := by decide +kernel
theorem dL_areMeasured_126 : decode cL_areMeasured 126 = .ok (.goto (-66), 3) := by decide +kernel
theorem dL_areMeasured_129 : decode cL_areMeasured 129 = .ok (.aload_n 0, 1) := by decide +kernel
theorem dL_areMeasured_130 : decode cL_areMeasured 130 = .ok (.iload 6, 2) := by decide +kernel
theorem dL_areMeasured_132 : decode cL_areMeasured 132 = .ok (.iload 4, 2) := by decide +kernel
theorem dL_areMeasured_134 : decode cL_areMeasured 134 = .ok (.iconst 0, 1) := by decide +kernel
theorem dL_areMeasured_135 : decode cL_areMeasured 135 = .ok (.invokestatic 80, 3) := by decide +kernel
theorem dL_areMeasured_138 : decode cL_areMeasured 138 = .ok (.istore 8, 2) := by decide +kernel
theorem dL_areMeasured_140 : decode cL_areMeasured 140 = .ok (.iload 4, 2) := by decide +kernel
theorem dL_areMeasured_142 : decode cL_areMeasured 142 = .ok (.aload_n 2, 1) := by decide +kernel
theorem dL_areMeasured_143 : decode cL_areMeasured 143 = .ok (.iconst 3, 1) := by decide +kernel
theorem dL_areMeasured_144 : decode cL_areMeasured 144 = .ok (.iload 6, 2) := by decide +kernel
theorem dL_areMeasured_146 : decode cL_areMeasured 146 = .ok (.imul, 1) := by decide +kernel
theorem dL_areMeasured_147 : decode cL_areMeasured 147 = .ok (.iconst 2, 1) := by decide +kernel
theorem dL_areMeasured_148 : decode cL_areMeasured 148 = .ok (.iadd, 1) := by decide +kernel
theorem dL_areMeasured_149 : decode cL_areMeasured 149 = .ok (.iaload, 1) := by decide +kernel
theorem dL_areMeasured_150 : decode cL_areMeasured 150 = .ok (.if_icmp .le 7, 3) := by decide +kernel
theorem dL_areMeasured_153 : decode cL_areMeasured 153 = .ok (.iconst 1, 1) := by decide +kernel
theorem dL_areMeasured_154 : decode cL_areMeasured 154 = .ok (.goto 4, 3) := by decide +kernel
theorem dL_areMeasured_157 : decode cL_areMeasured 157 = .ok (.iconst 0, 1) := by decide +kernel
theorem dL_areMeasured_158 : decode cL_areMeasured 158 = .ok (.istore 9, 2) := by decide +kernel
theorem dL_areMeasured_160 : decode cL_areMeasured 160 = .ok (.iload 9, 2) := by decide +kernel
theorem dL_areMeasured_162 : decode cL_areMeasured 162 = .ok (.iload 8, 2) := by decide +kernel
theorem dL_areMeasured_164 : decode cL_areMeasured 164 = .ok (.ldc 28, 2) := by decide +kernel
theorem dL_areMeasured_166 : decode cL_areMeasured 166 = .ok (.if_icmp .eq 7, 3) := by decide +kernel
theorem dL_areMeasured_169 : decode cL_areMeasured 169 = .ok (.iconst 1, 1) := by decide +kernel
theorem dL_areMeasured_170 : decode cL_areMeasured 170 = .ok (.goto 4, 3) := by decide +kernel
theorem dL_areMeasured_173 : decode cL_areMeasured 173 = .ok (.iconst 0, 1) := by decide +kernel
theorem dL_areMeasured_174 : decode cL_areMeasured 174 = .ok (.if_icmp .ne 34, 3) := by decide +kernel
theorem dL_areMeasured_177 : decode cL_areMeasured 177 = .ok (.aload_n 0, 1) := by decide +kernel
theorem dL_areMeasured_178 : decode cL_areMeasured 178 = .ok (.iload 6, 2) := by decide +kernel
theorem dL_areMeasured_180 : decode cL_areMeasured 180 = .ok (.iload 4, 2) := by decide +kernel
theorem dL_areMeasured_182 : decode cL_areMeasured 182 = .ok (.iconst 1, 1) := by decide +kernel
theorem dL_areMeasured_183 : decode cL_areMeasured 183 = .ok (.invokestatic 80, 3) := by decide +kernel
theorem dL_areMeasured_186 : decode cL_areMeasured 186 = .ok (.iload 9, 2) := by decide +kernel
theorem dL_areMeasured_188 : decode cL_areMeasured 188 = .ok (.ifCond .eq 11, 3) := by decide +kernel
theorem dL_areMeasured_191 : decode cL_areMeasured 191 = .ok (.iload 8, 2) := by decide +kernel
theorem dL_areMeasured_193 : decode cL_areMeasured 193 = .ok (.iload 7, 2) := by decide +kernel
theorem dL_areMeasured_195 : decode cL_areMeasured 195 = .ok (.isub, 1) := by decide +kernel
theorem dL_areMeasured_196 : decode cL_areMeasured 196 = .ok (.goto 5, 3) := by decide +kernel
theorem dL_areMeasured_199 : decode cL_areMeasured 199 = .ok (.ldc 28, 2) := by decide +kernel
theorem dL_areMeasured_201 : decode cL_areMeasured 201 = .ok (.if_icmp .ne 7, 3) := by decide +kernel
theorem dL_areMeasured_204 : decode cL_areMeasured 204 = .ok (.iconst 1, 1) := by decide +kernel
theorem dL_areMeasured_205 : decode cL_areMeasured 205 = .ok (.goto 4, 3) := by decide +kernel
theorem dL_areMeasured_208 : decode cL_areMeasured 208 = .ok (.iconst 0, 1) := by decide +kernel
theorem dL_areMeasured_209 : decode cL_areMeasured 209 = .ok (.istore 5, 2) := by decide +kernel
theorem dL_areMeasured_211 : decode cL_areMeasured 211 = .ok (.iinc 6 1, 3) := by decide +kernel
theorem dL_areMeasured_214 : decode cL_areMeasured 214 = .ok (.goto (-173), 3) := by decide +kernel
theorem dL_areMeasured_217 : decode cL_areMeasured 217 = .ok (.iload 5, 2) := by decide +kernel
theorem dL_areMeasured_219 : decode cL_areMeasured 219 = .ok (.ireturn, 1) := by decide +kernel
theorem dL_touch_0 : decode cL_touch 0 = .ok (.aload_n 0, 1) := by decide +kernel
theorem dL_touch_1 : decode cL_touch 1 = .ok (.iconst 3, 1) := by decide +kernel
theorem dL_touch_2 : decode cL_touch 2 = .ok (.iload_n 1, 1) := by decide +kernel
theorem dL_touch_3 : decode cL_touch 3 = .ok (.imul, 1) := by decide +kernel
theorem dL_touch_4 : decode cL_touch 4 = .ok (.iaload, 1) := by decide +kernel
theorem dL_touch_5 : decode cL_touch 5 = .ok (.aload_n 0, 1) := by decide +kernel
theorem dL_touch_6 : decode cL_touch 6 = .ok (.iconst 3, 1) := by decide +kernel
theorem dL_touch_7 : decode cL_touch 7 = .ok (.iload_n 2, 1) := by decide +kernel
theorem dL_touch_8 : decode cL_touch 8 = .ok (.imul, 1) := by decide +kernel
theorem dL_touch_9 : decode cL_touch 9 = .ok (.iaload, 1) := by decide +kernel
theorem dL_touch_10 : decode cL_touch 10 = .ok (.if_icmp .eq 50, 3) := by decide +kernel
theorem dL_touch_13 : decode cL_touch 13 = .ok (.aload_n 0, 1) := by decide +kernel
theorem dL_touch_14 : decode cL_touch 14 = .ok (.iconst 3, 1) := by decide +kernel
theorem dL_touch_15 : decode cL_touch 15 = .ok (.iload_n 1, 1) := by decide +kernel
theorem dL_touch_16 : decode cL_touch 16 = .ok (.imul, 1) := by decide +kernel
theorem dL_touch_17 : decode cL_touch 17 = .ok (.iaload, 1) := by decide +kernel
theorem dL_touch_18 : decode cL_touch 18 = .ok (.aload_n 0, 1) := by decide +kernel
theorem dL_touch_19 : decode cL_touch 19 = .ok (.iconst 3, 1) := by decide +kernel
theorem dL_touch_20 : decode cL_touch 20 = .ok (.iload_n 2, 1) := by decide +kernel
theorem dL_touch_21 : decode cL_touch 21 = .ok (.imul, 1) := by decide +kernel
theorem dL_touch_22 : decode cL_touch 22 = .ok (.iconst 1, 1) := by decide +kernel
theorem dL_touch_23 : decode cL_touch 23 = .ok (.iadd, 1) := by decide +kernel
theorem dL_touch_24 : decode cL_touch 24 = .ok (.iaload, 1) := by decide +kernel
theorem dL_touch_25 : decode cL_touch 25 = .ok (.if_icmp .eq 35, 3) := by decide +kernel
theorem dL_touch_28 : decode cL_touch 28 = .ok (.aload_n 0, 1) := by decide +kernel
theorem dL_touch_29 : decode cL_touch 29 = .ok (.iconst 3, 1) := by decide +kernel
theorem dL_touch_30 : decode cL_touch 30 = .ok (.iload_n 1, 1) := by decide +kernel
theorem dL_touch_31 : decode cL_touch 31 = .ok (.imul, 1) := by decide +kernel
theorem dL_touch_32 : decode cL_touch 32 = .ok (.iconst 1, 1) := by decide +kernel
theorem dL_touch_33 : decode cL_touch 33 = .ok (.iadd, 1) := by decide +kernel
theorem dL_touch_34 : decode cL_touch 34 = .ok (.iaload, 1) := by decide +kernel
theorem dL_touch_35 : decode cL_touch 35 = .ok (.aload_n 0, 1) := by decide +kernel
theorem dL_touch_36 : decode cL_touch 36 = .ok (.iconst 3, 1) := by decide +kernel
theorem dL_touch_37 : decode cL_touch 37 = .ok (.iload_n 2, 1) := by decide +kernel
theorem dL_touch_38 : decode cL_touch 38 = .ok (.imul, 1) := by decide +kernel
theorem dL_touch_39 : decode cL_touch 39 = .ok (.iaload, 1) := by decide +kernel
theorem dL_touch_40 : decode cL_touch 40 = .ok (.if_icmp .eq 20, 3) := by decide +kernel
theorem dL_touch_43 : decode cL_touch 43 = .ok (.aload_n 0, 1) := by decide +kernel
theorem dL_touch_44 : decode cL_touch 44 = .ok (.iconst 3, 1) := by decide +kernel
theorem dL_touch_45 : decode cL_touch 45 = .ok (.iload_n 1, 1) := by decide +kernel
theorem dL_touch_46 : decode cL_touch 46 = .ok (.imul, 1) := by decide +kernel
theorem dL_touch_47 : decode cL_touch 47 = .ok (.iconst 1, 1) := by decide +kernel
theorem dL_touch_48 : decode cL_touch 48 = .ok (.iadd, 1) := by decide +kernel
theorem dL_touch_49 : decode cL_touch 49 = .ok (.iaload, 1) := by decide +kernel
theorem dL_touch_50 : decode cL_touch 50 = .ok (.aload_n 0, 1) := by decide +kernel
theorem dL_touch_51 : decode cL_touch 51 = .ok (.iconst 3, 1) := by decide +kernel
theorem dL_touch_52 : decode cL_touch 52 = .ok (.iload_n 2, 1) := by decide +kernel
theorem dL_touch_53 : decode cL_touch 53 = .ok (.imul, 1) := by decide +kernel
theorem dL_touch_54 : decode cL_touch 54 = .ok (.iconst 1, 1) := by decide +kernel
theorem dL_touch_55 : decode cL_touch 55 = .ok (.iadd, 1) := by decide +kernel
theorem dL_touch_56 : decode cL_touch 56 = .ok (.iaload, 1) := by decide +kernel
theorem dL_touch_57 : decode cL_touch 57 = .ok (.if_icmp .ne 7, 3) := by decide +kernel
theorem dL_touch_60 : decode cL_touch 60 = .ok (.iconst 1, 1) := by decide +kernel
theorem dL_touch_61 : decode cL_touch 61 = .ok (.goto 4, 3) := by decide +kernel
theorem dL_touch_64 : decode cL_touch 64 = .ok (.iconst 0, 1) := by decide +kernel
theorem dL_touch_65 : decode cL_touch 65 = .ok (.ireturn, 1) := by decide +kernel
theorem dL_areAlike_0 : decode cL_areAlike 0 = .ok (.aload_n 0, 1) := by decide +kernel
theorem dL_areAlike_1 : decode cL_areAlike 1 = .ok (.iconst 3, 1) := by decide +kernel
theorem dL_areAlike_2 : decode cL_areAlike 2 = .ok (.iload_n 1, 1) := by decide +kernel
theorem dL_areAlike_3 : decode cL_areAlike 3 = .ok (.imul, 1) := by decide +kernel
theorem dL_areAlike_4 : decode cL_areAlike 4 = .ok (.iaload, 1) := by decide +kernel
theorem dL_areAlike_5 : decode cL_areAlike 5 = .ok (.aload_n 0, 1) := by decide +kernel
theorem dL_areAlike_6 : decode cL_areAlike 6 = .ok (.iconst 3, 1) := by decide +kernel
theorem dL_areAlike_7 : decode cL_areAlike 7 = .ok (.iload_n 1, 1) := by decide +kernel
theorem dL_areAlike_8 : decode cL_areAlike 8 = .ok (.imul, 1) := by decide +kernel
theorem dL_areAlike_9 : decode cL_areAlike 9 = .ok (.iconst 1, 1) := by decide +kernel
theorem dL_areAlike_10 : decode cL_areAlike 10 = .ok (.iadd, 1) := by decide +kernel
theorem dL_areAlike_11 : decode cL_areAlike 11 = .ok (.iaload, 1) := by decide +kernel
theorem dL_areAlike_12 : decode cL_areAlike 12 = .ok (.iadd, 1) := by decide +kernel
theorem dL_areAlike_13 : decode cL_areAlike 13 = .ok (.aload_n 0, 1) := by decide +kernel
theorem dL_areAlike_14 : decode cL_areAlike 14 = .ok (.iconst 3, 1) := by decide +kernel
theorem dL_areAlike_15 : decode cL_areAlike 15 = .ok (.iload_n 2, 1) := by decide +kernel
theorem dL_areAlike_16 : decode cL_areAlike 16 = .ok (.imul, 1) := by decide +kernel
theorem dL_areAlike_17 : decode cL_areAlike 17 = .ok (.iaload, 1) := by decide +kernel
theorem dL_areAlike_18 : decode cL_areAlike 18 = .ok (.aload_n 0, 1) := by decide +kernel
theorem dL_areAlike_19 : decode cL_areAlike 19 = .ok (.iconst 3, 1) := by decide +kernel
theorem dL_areAlike_20 : decode cL_areAlike 20 = .ok (.iload_n 2, 1) := by decide +kernel
theorem dL_areAlike_21 : decode cL_areAlike 21 = .ok (.imul, 1) := by decide +kernel
theorem dL_areAlike_22 : decode cL_areAlike 22 = .ok (.iconst 1, 1) := by decide +kernel
theorem dL_areAlike_23 : decode cL_areAlike 23 = .ok (.iadd, 1) := by decide +kernel
theorem dL_areAlike_24 : decode cL_areAlike 24 = .ok (.iaload, 1) := by decide +kernel
theorem dL_areAlike_25 : decode cL_areAlike 25 = .ok (.iadd, 1) := by decide +kernel
theorem dL_areAlike_26 : decode cL_areAlike 26 = .ok (.if_icmp .ne 35, 3) := by decide +kernel
theorem dL_areAlike_29 : decode cL_areAlike 29 = .ok (.aload_n 0, 1) := by decide +kernel
theorem dL_areAlike_30 : decode cL_areAlike 30 = .ok (.iconst 3, 1) := by decide +kernel
theorem dL_areAlike_31 : decode cL_areAlike 31 = .ok (.iload_n 1, 1) := by decide +kernel
theorem dL_areAlike_32 : decode cL_areAlike 32 = .ok (.imul, 1) := by decide +kernel
theorem dL_areAlike_33 : decode cL_areAlike 33 = .ok (.iaload, 1) := by decide +kernel
theorem dL_areAlike_34 : decode cL_areAlike 34 = .ok (.aload_n 0, 1) := by decide +kernel
theorem dL_areAlike_35 : decode cL_areAlike 35 = .ok (.iconst 3, 1) := by decide +kernel
theorem dL_areAlike_36 : decode cL_areAlike 36 = .ok (.iload_n 2, 1) := by decide +kernel
theorem dL_areAlike_37 : decode cL_areAlike 37 = .ok (.imul, 1) := by decide +kernel
theorem dL_areAlike_38 : decode cL_areAlike 38 = .ok (.iaload, 1) := by decide +kernel
theorem dL_areAlike_39 : decode cL_areAlike 39 = .ok (.if_icmp .eq 18, 3) := by decide +kernel
theorem dL_areAlike_42 : decode cL_areAlike 42 = .ok (.aload_n 0, 1) := by decide +kernel
theorem dL_areAlike_43 : decode cL_areAlike 43 = .ok (.iconst 3, 1) := by decide +kernel
theorem dL_areAlike_44 : decode cL_areAlike 44 = .ok (.iload_n 1, 1) := by decide +kernel
theorem dL_areAlike_45 : decode cL_areAlike 45 = .ok (.imul, 1) := by decide +kernel
theorem dL_areAlike_46 : decode cL_areAlike 46 = .ok (.iaload, 1) := by decide +kernel
theorem dL_areAlike_47 : decode cL_areAlike 47 = .ok (.aload_n 0, 1) := by decide +kernel
theorem dL_areAlike_48 : decode cL_areAlike 48 = .ok (.iconst 3, 1) := by decide +kernel
theorem dL_areAlike_49 : decode cL_areAlike 49 = .ok (.iload_n 2, 1) := by decide +kernel
theorem dL_areAlike_50 : decode cL_areAlike 50 = .ok (.imul, 1) := by decide +kernel
theorem dL_areAlike_51 : decode cL_areAlike 51 = .ok (.iconst 1, 1) := by decide +kernel
theorem dL_areAlike_52 : decode cL_areAlike 52 = .ok (.iadd, 1) := by decide +kernel
theorem dL_areAlike_53 : decode cL_areAlike 53 = .ok (.iaload, 1) := by decide +kernel
theorem dL_areAlike_54 : decode cL_areAlike 54 = .ok (.if_icmp .ne 7, 3) := by decide +kernel
theorem dL_areAlike_57 : decode cL_areAlike 57 = .ok (.iconst 1, 1) := by decide +kernel
theorem dL_areAlike_58 : decode cL_areAlike 58 = .ok (.goto 4, 3) := by decide +kernel
theorem dL_areAlike_61 : decode cL_areAlike 61 = .ok (.iconst 0, 1) := by decide +kernel
theorem dL_areAlike_62 : decode cL_areAlike 62 = .ok (.ireturn, 1) := by decide +kernel
set_option maxRecDepth 20000 in
theorem ggL_isRing_L_touch : GoodIn wsL_isRing wsL_touch := goodIn_r _ [4] (by decide +kernel) (by decide +kernel)
set_option maxRecDepth 20000 in
theorem gL_isRing_L_touch : GoodIn wsL_isRing (va_wsS RL 85 yL_touch wsL_touch) := goodIn_app (goodIn_of _ (by decide +kernel)) ggL_isRing_L_touch
set_option maxRecDepth 20000 in
theorem ggL_isRing_L_areAlike : GoodIn wsL_isRing wsL_areAlike := goodIn_r _ [7] (by decide +kernel) (by decide +kernel)
set_option maxRecDepth 20000 in
theorem gL_isRing_L_areAlike : GoodIn wsL_isRing (va_wsS RL 89 yL_areAlike wsL_areAlike) := goodIn_app (goodIn_of _ (by decide +kernel)) ggL_isRing_L_areAlike
theorem dL_isRing_0 : decode cL_isRing 0 = .ok (.iconst 1, 1) := by decide +kernel
theorem dL_isRing_1 : decode cL_isRing 1 = .ok (.aload_n 0, 1) := by decide +kernel
theorem dL_isRing_2 : decode cL_isRing 2 = .ok (.iconst 3, 1) := by decide +kernel
theorem dL_isRing_3 : decode cL_isRing 3 = .ok (.iload_n 1, 1) := by decide +kernel
theorem dL_isRing_4 : decode cL_isRing 4 = .ok (.imul, 1) := by decide +kernel
theorem dL_isRing_5 : decode cL_isRing 5 = .ok (.iaload, 1) := by decide +kernel
theorem dL_isRing_6 : decode cL_isRing 6 = .ok (.ishl, 1) := by decide +kernel
theorem dL_isRing_7 : decode cL_isRing 7 = .ok (.iconst 1, 1) := by decide +kernel
theorem dL_isRing_8 : decode cL_isRing 8 = .ok (.aload_n 0, 1) := by decide +kernel
theorem dL_isRing_9 : decode cL_isRing 9 = .ok (.iconst 3, 1) := by decide +kernel
theorem dL_isRing_10 : decode cL_isRing 10 = .ok (.iload_n 1, 1) := by decide +kernel
theorem dL_isRing_11 : decode cL_isRing 11 = .ok (.imul, 1) := by decide +kernel
theorem dL_isRing_12 : decode cL_isRing 12 = .ok (.iconst 1, 1) := by decide +kernel
theorem dL_isRing_13 : decode cL_isRing 13 = .ok (.iadd, 1) := by decide +kernel
theorem dL_isRing_14 : decode cL_isRing 14 = .ok (.iaload, 1) := by decide +kernel
theorem dL_isRing_15 : decode cL_isRing 15 = .ok (.ishl, 1) := by decide +kernel
theorem dL_isRing_16 : decode cL_isRing 16 = .ok (.ior, 1) := by decide +kernel
theorem dL_isRing_17 : decode cL_isRing 17 = .ok (.iconst 1, 1) := by decide +kernel
theorem dL_isRing_18 : decode cL_isRing 18 = .ok (.aload_n 0, 1) := by decide +kernel
theorem dL_isRing_19 : decode cL_isRing 19 = .ok (.iconst 3, 1) := by decide +kernel
theorem dL_isRing_20 : decode cL_isRing 20 = .ok (.iload_n 2, 1) := by decide +kernel
theorem dL_isRing_21 : decode cL_isRing 21 = .ok (.imul, 1) := by decide +kernel
theorem dL_isRing_22 : decode cL_isRing 22 = .ok (.iaload, 1) := by decide +kernel
theorem dL_isRing_23 : decode cL_isRing 23 = .ok (.ishl, 1) := by decide +kernel
theorem dL_isRing_24 : decode cL_isRing 24 = .ok (.ior, 1) := by decide +kernel
theorem dL_isRing_25 : decode cL_isRing 25 = .ok (.iconst 1, 1) := by decide +kernel
theorem dL_isRing_26 : decode cL_isRing 26 = .ok (.aload_n 0, 1) := by decide +kernel
theorem dL_isRing_27 : decode cL_isRing 27 = .ok (.iconst 3, 1) := by decide +kernel
theorem dL_isRing_28 : decode cL_isRing 28 = .ok (.iload_n 2, 1) := by decide +kernel
theorem dL_isRing_29 : decode cL_isRing 29 = .ok (.imul, 1) := by decide +kernel
theorem dL_isRing_30 : decode cL_isRing 30 = .ok (.iconst 1, 1) := by decide +kernel
theorem dL_isRing_31 : decode cL_isRing 31 = .ok (.iadd, 1) := by decide +kernel
theorem dL_isRing_32 : decode cL_isRing 32 = .ok (.iaload, 1) := by decide +kernel
theorem dL_isRing_33 : decode cL_isRing 33 = .ok (.ishl, 1) := by decide +kernel
theorem dL_isRing_34 : decode cL_isRing 34 = .ok (.ior, 1) := by decide +kernel
theorem dL_isRing_35 : decode cL_isRing 35 = .ok (.iconst 1, 1) := by decide +kernel
theorem dL_isRing_36 : decode cL_isRing 36 = .ok (.aload_n 0, 1) := by decide +kernel
theorem dL_isRing_37 : decode cL_isRing 37 = .ok (.iconst 3, 1) := by decide +kernel
theorem dL_isRing_38 : decode cL_isRing 38 = .ok (.iload_n 3, 1) := by decide +kernel
theorem dL_isRing_39 : decode cL_isRing 39 = .ok (.imul, 1) := by decide +kernel
theorem dL_isRing_40 : decode cL_isRing 40 = .ok (.iaload, 1) := by decide +kernel
theorem dL_isRing_41 : decode cL_isRing 41 = .ok (.ishl, 1) := by decide +kernel
theorem dL_isRing_42 : decode cL_isRing 42 = .ok (.ior, 1) := by decide +kernel
theorem dL_isRing_43 : decode cL_isRing 43 = .ok (.iconst 1, 1) := by decide +kernel
theorem dL_isRing_44 : decode cL_isRing 44 = .ok (.aload_n 0, 1) := by decide +kernel
theorem dL_isRing_45 : decode cL_isRing 45 = .ok (.iconst 3, 1) := by decide +kernel
theorem dL_isRing_46 : decode cL_isRing 46 = .ok (.iload_n 3, 1) := by decide +kernel
theorem dL_isRing_47 : decode cL_isRing 47 = .ok (.imul, 1) := by decide +kernel
theorem dL_isRing_48 : decode cL_isRing 48 = .ok (.iconst 1, 1) := by decide +kernel
theorem dL_isRing_49 : decode cL_isRing 49 = .ok (.iadd, 1) := by decide +kernel
theorem dL_isRing_50 : decode cL_isRing 50 = .ok (.iaload, 1) := by decide +kernel
theorem dL_isRing_51 : decode cL_isRing 51 = .ok (.ishl, 1) := by decide +kernel
theorem dL_isRing_52 : decode cL_isRing 52 = .ok (.ior, 1) := by decide +kernel
theorem dL_isRing_53 : decode cL_isRing 53 = .ok (.istore 4, 2) := by decide +kernel
theorem dL_isRing_55 : decode cL_isRing 55 = .ok (.iconst 0, 1) := by decide +kernel
theorem dL_isRing_56 : decode cL_isRing 56 = .ok (.istore 5, 2) := by decide +kernel
theorem dL_isRing_58 : decode cL_isRing 58 = .ok (.iconst 0, 1) := by decide +kernel
theorem dL_isRing_59 : decode cL_isRing 59 = .ok (.istore 6, 2) := by decide +kernel
theorem dL_isRing_61 : decode cL_isRing 61 = .ok (.iload 6, 2) := by decide +kernel
theorem dL_isRing_63 : decode cL_isRing 63 = .ok (.bipush 6, 2) := by decide +kernel
theorem dL_isRing_65 : decode cL_isRing 65 = .ok (.if_icmp .ge 21, 3) := by decide +kernel
theorem dL_isRing_68 : decode cL_isRing 68 = .ok (.iload 5, 2) := by decide +kernel
theorem dL_isRing_70 : decode cL_isRing 70 = .ok (.iload 4, 2) := by decide +kernel
theorem dL_isRing_72 : decode cL_isRing 72 = .ok (.iload 6, 2) := by decide +kernel
theorem dL_isRing_74 : decode cL_isRing 74 = .ok (.ishr, 1) := by decide +kernel
theorem dL_isRing_75 : decode cL_isRing 75 = .ok (.iconst 1, 1) := by decide +kernel
theorem dL_isRing_76 : decode cL_isRing 76 = .ok (.iand, 1) := by decide +kernel
theorem dL_isRing_77 : decode cL_isRing 77 = .ok (.iadd, 1) := by decide +kernel
theorem dL_isRing_78 : decode cL_isRing 78 = .ok (.istore 5, 2) := by decide +kernel
theorem dL_isRing_80 : decode cL_isRing 80 = .ok (.iinc 6 1, 3) := by decide +kernel
theorem dL_isRing_83 : decode cL_isRing 83 = .ok (.goto (-22), 3) := by decide +kernel
theorem dL_isRing_86 : decode cL_isRing 86 = .ok (.iload 5, 2) := by decide +kernel
theorem dL_isRing_88 : decode cL_isRing 88 = .ok (.iconst 3, 1) := by decide +kernel
theorem dL_isRing_89 : decode cL_isRing 89 = .ok (.if_icmp .ne 61, 3) := by decide +kernel
theorem dL_isRing_92 : decode cL_isRing 92 = .ok (.aload_n 0, 1) := by decide +kernel
theorem dL_isRing_93 : decode cL_isRing 93 = .ok (.iload_n 1, 1) := by decide +kernel
theorem dL_isRing_94 : decode cL_isRing 94 = .ok (.iload_n 2, 1) := by decide +kernel
theorem dL_isRing_95 : decode cL_isRing 95 = .ok (.invokestatic 85, 3) := by decide +kernel
theorem dL_isRing_98 : decode cL_isRing 98 = .ok (.ifCond .eq 52, 3) := by decide +kernel
theorem dL_isRing_101 : decode cL_isRing 101 = .ok (.aload_n 0, 1) := by decide +kernel
theorem dL_isRing_102 : decode cL_isRing 102 = .ok (.iload_n 2, 1) := by decide +kernel
theorem dL_isRing_103 : decode cL_isRing 103 = .ok (.iload_n 3, 1) := by decide +kernel
theorem dL_isRing_104 : decode cL_isRing 104 = .ok (.invokestatic 85, 3) := by decide +kernel
theorem dL_isRing_107 : decode cL_isRing 107 = .ok (.ifCond .eq 43, 3) := by decide +kernel
theorem dL_isRing_110 : decode cL_isRing 110 = .ok (.aload_n 0, 1) := by decide +kernel
theorem dL_isRing_111 : decode cL_isRing 111 = .ok (.iload_n 1, 1) := by decide +kernel
theorem dL_isRing_112 : decode cL_isRing 112 = .ok (.iload_n 3, 1) := by decide +kernel
theorem dL_isRing_113 : decode cL_isRing 113 = .ok (.invokestatic 85, 3) := by decide +kernel
theorem dL_isRing_116 : decode cL_isRing 116 = .ok (.ifCond .eq 34, 3) := by decide +kernel
theorem dL_isRing_119 : decode cL_isRing 119 = .ok (.aload_n 0, 1) := by decide +kernel
theorem dL_isRing_120 : decode cL_isRing 120 = .ok (.iload_n 1, 1) := by decide +kernel
theorem dL_isRing_121 : decode cL_isRing 121 = .ok (.iload_n 2, 1) := by decide +kernel
theorem dL_isRing_122 : decode cL_isRing 122 = .ok (.invokestatic 89, 3) := by decide +kernel
theorem dL_isRing_125 : decode cL_isRing 125 = .ok (.ifCond .ne 25, 3) := by decide +kernel
theorem dL_isRing_128 : decode cL_isRing 128 = .ok (.aload_n 0, 1) := by decide +kernel
theorem dL_isRing_129 : decode cL_isRing 129 = .ok (.iload_n 2, 1) := by decide +kernel
theorem dL_isRing_130 : decode cL_isRing 130 = .ok (.iload_n 3, 1) := by decide +kernel
theorem dL_isRing_131 : decode cL_isRing 131 = .ok (.invokestatic 89, 3) := by decide +kernel
theorem dL_isRing_134 : decode cL_isRing 134 = .ok (.ifCond .ne 16, 3) := by decide +kernel
theorem dL_isRing_137 : decode cL_isRing 137 = .ok (.aload_n 0, 1) := by decide +kernel
theorem dL_isRing_138 : decode cL_isRing 138 = .ok (.iload_n 1, 1) := by decide +kernel
theorem dL_isRing_139 : decode cL_isRing 139 = .ok (.iload_n 3, 1) := by decide +kernel
theorem dL_isRing_140 : decode cL_isRing 140 = .ok (.invokestatic 89, 3) := by decide +kernel
theorem dL_isRing_143 : decode cL_isRing 143 = .ok (.ifCond .ne 7, 3) := by decide +kernel
theorem dL_isRing_146 : decode cL_isRing 146 = .ok (.iconst 1, 1) := by decide +kernel
theorem dL_isRing_147 : decode cL_isRing 147 = .ok (.goto 4, 3) := by decide +kernel
theorem dL_isRing_150 : decode cL_isRing 150 = .ok (.iconst 0, 1) := by decide +kernel
theorem dL_isRing_151 : decode cL_isRing 151 = .ok (.ireturn, 1) := by decide +kernel
set_option maxRecDepth 20000 in
theorem ggL_areRings_L_closes : GoodIn wsL_areRings wsL_closes := goodIn_ca (goodIn_ca (goodIn_r _ [6, 7, 8, 1, 2, 9, 10, 11, 12, 13, 14, 15, 16, 17, 18, 19, 20, 21, 22, 23, 24, 25, 26, 27, 28, 29, 30, 31, 32, 33, 34, 35, 36, 37, 38, 39, 40, 41, 42, 43, 44, 45, 46, 47, 48, 49, 50, 51, 52, 53, 54, 55, 56, 57, 58, 59, 60, 61, 62, 63, 64, 65, 66, 67, 68, 69, 70, 71, 72, 158, 159, 160, 161, 162, 163, 164, 165, 166, 167, 168, 169, 170, 171, 172, 173, 174, 175, 176] (by decide +kernel) (by decide +kernel)) (goodIn_sub (fun _ h => List.mem_cons_of_mem _ (List.mem_append_left _ (List.mem_append_right _ h))) (by decide +kernel))) (goodIn_sub (fun _ h => List.mem_cons_of_mem _ (List.mem_append_right _ h)) (by decide +kernel))
set_option maxRecDepth 20000 in
theorem gL_areRings_L_closes : GoodIn wsL_areRings (va_wsS RL 92 yL_closes wsL_closes) := goodIn_app (goodIn_of _ (by decide +kernel)) ggL_areRings_L_closes
set_option maxRecDepth 20000 in
theorem ggL_areRings_L_isRing : GoodIn wsL_areRings wsL_isRing := goodIn_r _ [75, 76, 77, 5, 78, 79, 80, 81] (by decide +kernel) (by decide +kernel)
set_option maxRecDepth 20000 in
theorem gL_areRings_L_isRing : GoodIn wsL_areRings (va_wsS RL 95 yL_isRing wsL_isRing) := goodIn_app (goodIn_of _ (by decide +kernel)) ggL_areRings_L_isRing
set_option maxRecDepth 20000 in
theorem ggL_areRings_L_open : GoodIn wsL_areRings wsL_open := goodIn_ca (goodIn_r _ [84, 7, 1, 85, 86, 87, 12, 88, 14, 15, 30, 31, 32, 33, 34, 35, 36, 37, 89, 90, 91, 92, 93, 18, 94, 95, 96, 97, 98, 99, 100, 101, 102, 103, 104, 41, 105, 43, 106, 45, 46, 47, 48, 107, 108, 109, 110, 111, 50, 51, 52, 53, 54, 55, 56, 57, 58, 112, 113, 114, 115, 116, 117, 118, 119, 120, 121, 122, 70, 71, 72, 123, 60, 61, 62, 63, 64, 65, 66, 67, 68, 69, 124, 125, 126, 127, 128, 129, 21, 130, 158, 159, 160, 161, 162, 163, 164, 165, 166, 167, 177, 178, 179, 180, 181, 182, 183, 184, 185, 186, 187, 188, 168, 169, 170, 171, 172, 173, 174, 175, 176] (by decide +kernel) (by decide +kernel)) (goodIn_sub (fun _ h => List.mem_cons_of_mem _ (List.mem_append_left _ (List.mem_append_right _ h))) (by decide +kernel))
set_option maxRecDepth 20000 in
theorem gL_areRings_L_open : GoodIn wsL_areRings (va_wsS RL 99 yL_open wsL_open) := goodIn_app (goodIn_of _ (by decide +kernel)) ggL_areRings_L_open
set_option maxRecDepth 20000 in
theorem ggL_areRings_L_slips : GoodIn wsL_areRings wsL_slips := goodIn_ca (goodIn_r _ [133, 7, 1, 134, 135, 136, 12, 137, 14, 15, 93, 18, 94, 30, 31, 32, 33, 34, 35, 36, 37, 95, 96, 97, 98, 99, 100, 101, 102, 103, 104, 41, 105, 43, 106, 45, 46, 47, 48, 107, 108, 109, 110, 111, 50, 51, 52, 53, 54, 55, 56, 57, 58, 112, 113, 114, 115, 116, 117, 118, 119, 120, 121, 122, 70, 71, 72, 123, 60, 61, 62, 63, 64, 65, 66, 67, 68, 69, 138, 139, 140, 141, 142, 143, 144, 145, 146, 147, 148, 149, 128, 129, 21, 130, 150, 151, 152, 153, 154, 155, 156, 157, 158, 159, 160, 161, 162, 163, 164, 165, 166, 167, 177, 178, 179, 180, 181, 182, 183, 184, 185, 186, 187, 188, 168, 169, 170, 171, 172, 173, 174, 175, 176] (by decide +kernel) (by decide +kernel)) (goodIn_sub (fun _ h => List.mem_cons_of_mem _ (List.mem_append_left _ (List.mem_append_right _ h))) (by decide +kernel))
set_option maxRecDepth 20000 in
theorem gL_areRings_L_slips : GoodIn wsL_areRings (va_wsS RL 102 yL_slips wsL_slips) := goodIn_app (goodIn_of _ (by decide +kernel)) ggL_areRings_L_slips
theorem dL_areRings_0 : decode cL_areRings 0 = .ok (.iconst 0, 1) := by decide +kernel
theorem dL_areRings_1 : decode cL_areRings 1 = .ok (.istore 5, 2) := by decide +kernel
theorem dL_areRings_3 : decode cL_areRings 3 = .ok (.iconst 1, 1) := by decide +kernel
theorem dL_areRings_4 : decode cL_areRings 4 = .ok (.istore 6, 2) := by decide +kernel
theorem dL_areRings_6 : decode cL_areRings 6 = .ok (.iconst 0, 1) := by decide +kernel
theorem dL_areRings_7 : decode cL_areRings 7 = .ok (.istore 7, 2) := by decide +kernel
theorem dL_areRings_9 : decode cL_areRings 9 = .ok (.iload 7, 2) := by decide +kernel
theorem dL_areRings_11 : decode cL_areRings 11 = .ok (.aload_n 1, 1) := by decide +kernel
theorem dL_areRings_12 : decode cL_areRings 12 = .ok (.iconst 1, 1) := by decide +kernel
theorem dL_areRings_13 : decode cL_areRings 13 = .ok (.iaload, 1) := by decide +kernel
theorem dL_areRings_14 : decode cL_areRings 14 = .ok (.aload_n 1, 1) := by decide +kernel
theorem dL_areRings_15 : decode cL_areRings 15 = .ok (.iconst 1, 1) := by decide +kernel
theorem dL_areRings_16 : decode cL_areRings 16 = .ok (.iaload, 1) := by decide +kernel
theorem dL_areRings_17 : decode cL_areRings 17 = .ok (.imul, 1) := by decide +kernel
theorem dL_areRings_18 : decode cL_areRings 18 = .ok (.aload_n 1, 1) := by decide +kernel
theorem dL_areRings_19 : decode cL_areRings 19 = .ok (.iconst 1, 1) := by decide +kernel
theorem dL_areRings_20 : decode cL_areRings 20 = .ok (.iaload, 1) := by decide +kernel
theorem dL_areRings_21 : decode cL_areRings 21 = .ok (.imul, 1) := by decide +kernel
theorem dL_areRings_22 : decode cL_areRings 22 = .ok (.if_icmp .ge 246, 3) := by decide +kernel
theorem dL_areRings_25 : decode cL_areRings 25 = .ok (.iload 6, 2) := by decide +kernel
theorem dL_areRings_27 : decode cL_areRings 27 = .ok (.ifCond .eq 241, 3) := by decide +kernel
theorem dL_areRings_30 : decode cL_areRings 30 = .ok (.iload 7, 2) := by decide +kernel
theorem dL_areRings_32 : decode cL_areRings 32 = .ok (.aload_n 1, 1) := by decide +kernel
theorem dL_areRings_33 : decode cL_areRings 33 = .ok (.iconst 1, 1) := by decide +kernel
theorem dL_areRings_34 : decode cL_areRings 34 = .ok (.iaload, 1) := by decide +kernel
theorem dL_areRings_35 : decode cL_areRings 35 = .ok (.irem, 1) := by decide +kernel
theorem dL_areRings_36 : decode cL_areRings 36 = .ok (.istore 8, 2) := by decide +kernel
theorem dL_areRings_38 : decode cL_areRings 38 = .ok (.iload 7, 2) := by decide +kernel
theorem dL_areRings_40 : decode cL_areRings 40 = .ok (.aload_n 1, 1) := by decide +kernel
theorem dL_areRings_41 : decode cL_areRings 41 = .ok (.iconst 1, 1) := by decide +kernel
theorem dL_areRings_42 : decode cL_areRings 42 = .ok (.iaload, 1) := by decide +kernel
theorem dL_areRings_43 : decode cL_areRings 43 = .ok (.idiv, 1) := by decide +kernel
theorem dL_areRings_44 : decode cL_areRings 44 = .ok (.aload_n 1, 1) := by decide +kernel
theorem dL_areRings_45 : decode cL_areRings 45 = .ok (.iconst 1, 1) := by decide +kernel
theorem dL_areRings_46 : decode cL_areRings 46 = .ok (.iaload, 1) := by decide +kernel
theorem dL_areRings_47 : decode cL_areRings 47 = .ok (.irem, 1) := by decide +kernel
theorem dL_areRings_48 : decode cL_areRings 48 = .ok (.istore 9, 2) := by decide +kernel
theorem dL_areRings_50 : decode cL_areRings 50 = .ok (.iload 7, 2) := by decide +kernel
theorem dL_areRings_52 : decode cL_areRings 52 = .ok (.aload_n 1, 1) := by decide +kernel
theorem dL_areRings_53 : decode cL_areRings 53 = .ok (.iconst 1, 1) := by decide +kernel
theorem dL_areRings_54 : decode cL_areRings 54 = .ok (.iaload, 1) := by decide +kernel
theorem dL_areRings_55 : decode cL_areRings 55 = .ok (.idiv, 1) := by decide +kernel
theorem dL_areRings_56 : decode cL_areRings 56 = .ok (.aload_n 1, 1) := by decide +kernel
theorem dL_areRings_57 : decode cL_areRings 57 = .ok (.iconst 1, 1) := by decide +kernel
theorem dL_areRings_58 : decode cL_areRings 58 = .ok (.iaload, 1) := by decide +kernel
theorem dL_areRings_59 : decode cL_areRings 59 = .ok (.idiv, 1) := by decide +kernel
theorem dL_areRings_60 : decode cL_areRings 60 = .ok (.istore 10, 2) := by decide +kernel
theorem dL_areRings_62 : decode cL_areRings 62 = .ok (.iload 8, 2) := by decide +kernel
theorem dL_areRings_64 : decode cL_areRings 64 = .ok (.iload 9, 2) := by decide +kernel
theorem dL_areRings_66 : decode cL_areRings 66 = .ok (.if_icmp .ge 196, 3) := by decide +kernel
theorem dL_areRings_69 : decode cL_areRings 69 = .ok (.iload 9, 2) := by decide +kernel
theorem dL_areRings_71 : decode cL_areRings 71 = .ok (.iload 10, 2) := by decide +kernel
theorem dL_areRings_73 : decode cL_areRings 73 = .ok (.if_icmp .ge 189, 3) := by decide +kernel
theorem dL_areRings_76 : decode cL_areRings 76 = .ok (.iload_n 3, 1) := by decide +kernel
theorem dL_areRings_77 : decode cL_areRings 77 = .ok (.aload_n 2, 1) := by decide +kernel
theorem dL_areRings_78 : decode cL_areRings 78 = .ok (.iconst 3, 1) := by decide +kernel
theorem dL_areRings_79 : decode cL_areRings 79 = .ok (.iload 8, 2) := by decide +kernel
theorem dL_areRings_81 : decode cL_areRings 81 = .ok (.imul, 1) := by decide +kernel
theorem dL_areRings_82 : decode cL_areRings 82 = .ok (.iconst 2, 1) := by decide +kernel
theorem dL_areRings_83 : decode cL_areRings 83 = .ok (.iadd, 1) := by decide +kernel
theorem dL_areRings_84 : decode cL_areRings 84 = .ok (.iaload, 1) := by decide +kernel
theorem dL_areRings_85 : decode cL_areRings 85 = .ok (.if_icmp .le 31, 3) := by decide +kernel
theorem dL_areRings_88 : decode cL_areRings 88 = .ok (.iload_n 3, 1) := by decide +kernel
theorem dL_areRings_89 : decode cL_areRings 89 = .ok (.aload_n 2, 1) := by decide +kernel
theorem dL_areRings_90 : decode cL_areRings 90 = .ok (.iconst 3, 1) := by decide +kernel
theorem dL_areRings_91 : decode cL_areRings 91 = .ok (.iload 9, 2) := by decide +kernel
theorem dL_areRings_93 : decode cL_areRings 93 = .ok (.imul, 1) := by decide +kernel
theorem dL_areRings_94 : decode cL_areRings 94 = .ok (.iconst 2, 1) := by decide +kernel
theorem dL_areRings_95 : decode cL_areRings 95 = .ok (.iadd, 1) := by decide +kernel
theorem dL_areRings_96 : decode cL_areRings 96 = .ok (.iaload, 1) := by decide +kernel
theorem dL_areRings_97 : decode cL_areRings 97 = .ok (.if_icmp .le 19, 3) := by decide +kernel
theorem dL_areRings_100 : decode cL_areRings 100 = .ok (.iload_n 3, 1) := by decide +kernel
theorem dL_areRings_101 : decode cL_areRings 101 = .ok (.aload_n 2, 1) := by decide +kernel
theorem dL_areRings_102 : decode cL_areRings 102 = .ok (.iconst 3, 1) := by decide +kernel
theorem dL_areRings_103 : decode cL_areRings 103 = .ok (.iload 10, 2) := by decide +kernel
theorem dL_areRings_105 : decode cL_areRings 105 = .ok (.imul, 1) := by decide +kernel
theorem dL_areRings_106 : decode cL_areRings 106 = .ok (.iconst 2, 1) := by decide +kernel
theorem dL_areRings_107 : decode cL_areRings 107 = .ok (.iadd, 1) := by decide +kernel
theorem dL_areRings_108 : decode cL_areRings 108 = .ok (.iaload, 1) := by decide +kernel
theorem dL_areRings_109 : decode cL_areRings 109 = .ok (.if_icmp .le 7, 3) := by decide +kernel
theorem dL_areRings_112 : decode cL_areRings 112 = .ok (.iconst 1, 1) := by decide +kernel
theorem dL_areRings_113 : decode cL_areRings 113 = .ok (.goto 4, 3) := by decide +kernel
theorem dL_areRings_116 : decode cL_areRings 116 = .ok (.iconst 0, 1) := by decide +kernel
theorem dL_areRings_117 : decode cL_areRings 117 = .ok (.istore 11, 2) := by decide +kernel
theorem dL_areRings_119 : decode cL_areRings 119 = .ok (.aload_n 0, 1) := by decide +kernel
theorem dL_areRings_120 : decode cL_areRings 120 = .ok (.iload 8, 2) := by decide +kernel
theorem dL_areRings_122 : decode cL_areRings 122 = .ok (.iload 9, 2) := by decide +kernel
theorem dL_areRings_124 : decode cL_areRings 124 = .ok (.iload 10, 2) := by decide +kernel
theorem dL_areRings_126 : decode cL_areRings 126 = .ok (.iload_n 3, 1) := by decide +kernel
theorem dL_areRings_127 : decode cL_areRings 127 = .ok (.invokestatic 92, 3) := by decide +kernel
theorem dL_areRings_130 : decode cL_areRings 130 = .ok (.istore 12, 2) := by decide +kernel
theorem dL_areRings_132 : decode cL_areRings 132 = .ok (.iload 11, 2) := by decide +kernel
theorem dL_areRings_134 : decode cL_areRings 134 = .ok (.ifCond .ne 18, 3) := by decide +kernel
theorem dL_areRings_137 : decode cL_areRings 137 = .ok (.iload 12, 2) := by decide +kernel
theorem dL_areRings_139 : decode cL_areRings 139 = .ok (.ldc 28, 2) := by decide +kernel
theorem dL_areRings_141 : decode cL_areRings 141 = .ok (.if_icmp .ne 7, 3) := by decide +kernel
theorem dL_areRings_144 : decode cL_areRings 144 = .ok (.iconst 1, 1) := by decide +kernel
theorem dL_areRings_145 : decode cL_areRings 145 = .ok (.goto 72, 3) := by decide +kernel
theorem dL_areRings_148 : decode cL_areRings 148 = .ok (.iconst 0, 1) := by decide +kernel
theorem dL_areRings_149 : decode cL_areRings 149 = .ok (.goto 68, 3) := by decide +kernel
theorem dL_areRings_152 : decode cL_areRings 152 = .ok (.aload_n 2, 1) := by decide +kernel
theorem dL_areRings_153 : decode cL_areRings 153 = .ok (.iload 8, 2) := by decide +kernel
theorem dL_areRings_155 : decode cL_areRings 155 = .ok (.iload 9, 2) := by decide +kernel
theorem dL_areRings_157 : decode cL_areRings 157 = .ok (.iload 10, 2) := by decide +kernel
theorem dL_areRings_159 : decode cL_areRings 159 = .ok (.invokestatic 95, 3) := by decide +kernel
theorem dL_areRings_162 : decode cL_areRings 162 = .ok (.ifCond .ne 18, 3) := by decide +kernel
theorem dL_areRings_165 : decode cL_areRings 165 = .ok (.iload 12, 2) := by decide +kernel
theorem dL_areRings_167 : decode cL_areRings 167 = .ok (.ldc 18, 2) := by decide +kernel
theorem dL_areRings_169 : decode cL_areRings 169 = .ok (.if_icmp .ne 7, 3) := by decide +kernel
theorem dL_areRings_172 : decode cL_areRings 172 = .ok (.iconst 1, 1) := by decide +kernel
theorem dL_areRings_173 : decode cL_areRings 173 = .ok (.goto 44, 3) := by decide +kernel
theorem dL_areRings_176 : decode cL_areRings 176 = .ok (.iconst 0, 1) := by decide +kernel
theorem dL_areRings_177 : decode cL_areRings 177 = .ok (.goto 40, 3) := by decide +kernel
theorem dL_areRings_180 : decode cL_areRings 180 = .ok (.aload_n 0, 1) := by decide +kernel
theorem dL_areRings_181 : decode cL_areRings 181 = .ok (.iload 10, 2) := by decide +kernel
theorem dL_areRings_183 : decode cL_areRings 183 = .ok (.iload 8, 2) := by decide +kernel
theorem dL_areRings_185 : decode cL_areRings 185 = .ok (.iload 9, 2) := by decide +kernel
theorem dL_areRings_187 : decode cL_areRings 187 = .ok (.iload_n 3, 1) := by decide +kernel
theorem dL_areRings_188 : decode cL_areRings 188 = .ok (.invokestatic 92, 3) := by decide +kernel
theorem dL_areRings_191 : decode cL_areRings 191 = .ok (.iload 12, 2) := by decide +kernel
theorem dL_areRings_193 : decode cL_areRings 193 = .ok (.if_icmp .ne 23, 3) := by decide +kernel
theorem dL_areRings_196 : decode cL_areRings 196 = .ok (.aload_n 0, 1) := by decide +kernel
theorem dL_areRings_197 : decode cL_areRings 197 = .ok (.iload 10, 2) := by decide +kernel
theorem dL_areRings_199 : decode cL_areRings 199 = .ok (.iload 9, 2) := by decide +kernel
theorem dL_areRings_201 : decode cL_areRings 201 = .ok (.iload 8, 2) := by decide +kernel
theorem dL_areRings_203 : decode cL_areRings 203 = .ok (.iload_n 3, 1) := by decide +kernel
theorem dL_areRings_204 : decode cL_areRings 204 = .ok (.invokestatic 92, 3) := by decide +kernel
theorem dL_areRings_207 : decode cL_areRings 207 = .ok (.iload 12, 2) := by decide +kernel
theorem dL_areRings_209 : decode cL_areRings 209 = .ok (.if_icmp .ne 7, 3) := by decide +kernel
theorem dL_areRings_212 : decode cL_areRings 212 = .ok (.iconst 1, 1) := by decide +kernel
theorem dL_areRings_213 : decode cL_areRings 213 = .ok (.goto 4, 3) := by decide +kernel
theorem dL_areRings_216 : decode cL_areRings 216 = .ok (.iconst 0, 1) := by decide +kernel
theorem dL_areRings_217 : decode cL_areRings 217 = .ok (.istore 6, 2) := by decide +kernel
theorem dL_areRings_219 : decode cL_areRings 219 = .ok (.iload 5, 2) := by decide +kernel
theorem dL_areRings_221 : decode cL_areRings 221 = .ok (.iload 11, 2) := by decide +kernel
theorem dL_areRings_223 : decode cL_areRings 223 = .ok (.ifCond .eq 35, 3) := by decide +kernel
theorem dL_areRings_226 : decode cL_areRings 226 = .ok (.aload_n 2, 1) := by decide +kernel
theorem dL_areRings_227 : decode cL_areRings 227 = .ok (.iload 8, 2) := by decide +kernel
theorem dL_areRings_229 : decode cL_areRings 229 = .ok (.iload 9, 2) := by decide +kernel
theorem dL_areRings_231 : decode cL_areRings 231 = .ok (.iload 10, 2) := by decide +kernel
theorem dL_areRings_233 : decode cL_areRings 233 = .ok (.invokestatic 95, 3) := by decide +kernel
theorem dL_areRings_236 : decode cL_areRings 236 = .ok (.ifCond .eq 22, 3) := by decide +kernel
theorem dL_areRings_239 : decode cL_areRings 239 = .ok (.iload 12, 2) := by decide +kernel
theorem dL_areRings_241 : decode cL_areRings 241 = .ok (.iload 4, 2) := by decide +kernel
theorem dL_areRings_243 : decode cL_areRings 243 = .ok (.if_icmp .gt 11, 3) := by decide +kernel
theorem dL_areRings_246 : decode cL_areRings 246 = .ok (.iload 12, 2) := by decide +kernel
theorem dL_areRings_248 : decode cL_areRings 248 = .ok (.iload 4, 2) := by decide +kernel
theorem dL_areRings_250 : decode cL_areRings 250 = .ok (.ineg, 1) := by decide +kernel
theorem dL_areRings_251 : decode cL_areRings 251 = .ok (.if_icmp .ge 7, 3) := by decide +kernel
theorem dL_areRings_254 : decode cL_areRings 254 = .ok (.iconst 1, 1) := by decide +kernel
theorem dL_areRings_255 : decode cL_areRings 255 = .ok (.goto 4, 3) := by decide +kernel
theorem dL_areRings_258 : decode cL_areRings 258 = .ok (.iconst 0, 1) := by decide +kernel
theorem dL_areRings_259 : decode cL_areRings 259 = .ok (.iadd, 1) := by decide +kernel
theorem dL_areRings_260 : decode cL_areRings 260 = .ok (.istore 5, 2) := by decide +kernel
theorem dL_areRings_262 : decode cL_areRings 262 = .ok (.iinc 7 1, 3) := by decide +kernel
theorem dL_areRings_265 : decode cL_areRings 265 = .ok (.goto (-256), 3) := by decide +kernel
theorem dL_areRings_268 : decode cL_areRings 268 = .ok (.aload_n 1, 1) := by decide +kernel
theorem dL_areRings_269 : decode cL_areRings 269 = .ok (.bipush 6, 2) := by decide +kernel
theorem dL_areRings_271 : decode cL_areRings 271 = .ok (.dup2, 1) := by decide +kernel
theorem dL_areRings_272 : decode cL_areRings 272 = .ok (.iaload, 1) := by decide +kernel
theorem dL_areRings_273 : decode cL_areRings 273 = .ok (.iconst 1, 1) := by decide +kernel
theorem dL_areRings_274 : decode cL_areRings 274 = .ok (.iadd, 1) := by decide +kernel
theorem dL_areRings_275 : decode cL_areRings 275 = .ok (.iastore, 1) := by decide +kernel
theorem dL_areRings_276 : decode cL_areRings 276 = .ok (.iload 6, 2) := by decide +kernel
theorem dL_areRings_278 : decode cL_areRings 278 = .ok (.ifCond .eq 30, 3) := by decide +kernel
theorem dL_areRings_281 : decode cL_areRings 281 = .ok (.aload_n 0, 1) := by decide +kernel
theorem dL_areRings_282 : decode cL_areRings 282 = .ok (.iload_n 3, 1) := by decide +kernel
theorem dL_areRings_283 : decode cL_areRings 283 = .ok (.invokestatic 99, 3) := by decide +kernel
theorem dL_areRings_286 : decode cL_areRings 286 = .ok (.iload 5, 2) := by decide +kernel
theorem dL_areRings_288 : decode cL_areRings 288 = .ok (.if_icmp .ne 20, 3) := by decide +kernel
theorem dL_areRings_291 : decode cL_areRings 291 = .ok (.aload_n 1, 1) := by decide +kernel
theorem dL_areRings_292 : decode cL_areRings 292 = .ok (.bipush 6, 2) := by decide +kernel
theorem dL_areRings_294 : decode cL_areRings 294 = .ok (.iaload, 1) := by decide +kernel
theorem dL_areRings_295 : decode cL_areRings 295 = .ok (.bipush 6, 2) := by decide +kernel
theorem dL_areRings_297 : decode cL_areRings 297 = .ok (.if_icmp .gt 11, 3) := by decide +kernel
theorem dL_areRings_300 : decode cL_areRings 300 = .ok (.aload_n 1, 1) := by decide +kernel
theorem dL_areRings_301 : decode cL_areRings 301 = .ok (.iconst 1, 1) := by decide +kernel
theorem dL_areRings_302 : decode cL_areRings 302 = .ok (.iaload, 1) := by decide +kernel
theorem dL_areRings_303 : decode cL_areRings 303 = .ok (.bipush 6, 2) := by decide +kernel
theorem dL_areRings_305 : decode cL_areRings 305 = .ok (.if_icmp .le 24, 3) := by decide +kernel
theorem dL_areRings_308 : decode cL_areRings 308 = .ok (.iload 6, 2) := by decide +kernel
theorem dL_areRings_310 : decode cL_areRings 310 = .ok (.ifCond .eq 17, 3) := by decide +kernel
theorem dL_areRings_313 : decode cL_areRings 313 = .ok (.aload_n 0, 1) := by decide +kernel
theorem dL_areRings_314 : decode cL_areRings 314 = .ok (.iload_n 3, 1) := by decide +kernel
theorem dL_areRings_315 : decode cL_areRings 315 = .ok (.invokestatic 99, 3) := by decide +kernel
theorem dL_areRings_318 : decode cL_areRings 318 = .ok (.iload 5, 2) := by decide +kernel
theorem dL_areRings_320 : decode cL_areRings 320 = .ok (.if_icmp .ne 7, 3) := by decide +kernel
theorem dL_areRings_323 : decode cL_areRings 323 = .ok (.iconst 1, 1) := by decide +kernel
theorem dL_areRings_324 : decode cL_areRings 324 = .ok (.goto 4, 3) := by decide +kernel
theorem dL_areRings_327 : decode cL_areRings 327 = .ok (.iconst 0, 1) := by decide +kernel
theorem dL_areRings_328 : decode cL_areRings 328 = .ok (.ireturn, 1) := by decide +kernel
theorem dL_areRings_329 : decode cL_areRings 329 = .ok (.iconst 0, 1) := by decide +kernel
theorem dL_areRings_330 : decode cL_areRings 330 = .ok (.istore 7, 2) := by decide +kernel
theorem dL_areRings_332 : decode cL_areRings 332 = .ok (.iconst 1, 1) := by decide +kernel
theorem dL_areRings_333 : decode cL_areRings 333 = .ok (.istore 8, 2) := by decide +kernel
theorem dL_areRings_335 : decode cL_areRings 335 = .ok (.iconst 0, 1) := by decide +kernel
theorem dL_areRings_336 : decode cL_areRings 336 = .ok (.istore 9, 2) := by decide +kernel
theorem dL_areRings_338 : decode cL_areRings 338 = .ok (.iload 9, 2) := by decide +kernel
theorem dL_areRings_340 : decode cL_areRings 340 = .ok (.aload_n 1, 1) := by decide +kernel
theorem dL_areRings_341 : decode cL_areRings 341 = .ok (.iconst 1, 1) := by decide +kernel
theorem dL_areRings_342 : decode cL_areRings 342 = .ok (.iaload, 1) := by decide +kernel
theorem dL_areRings_343 : decode cL_areRings 343 = .ok (.if_icmp .ge 22, 3) := by decide +kernel
theorem dL_areRings_346 : decode cL_areRings 346 = .ok (.iload 7, 2) := by decide +kernel
theorem dL_areRings_348 : decode cL_areRings 348 = .ok (.iload 8, 2) := by decide +kernel
theorem dL_areRings_350 : decode cL_areRings 350 = .ok (.iadd, 1) := by decide +kernel
theorem dL_areRings_351 : decode cL_areRings 351 = .ok (.istore 7, 2) := by decide +kernel
theorem dL_areRings_353 : decode cL_areRings 353 = .ok (.iload 8, 2) := by decide +kernel
theorem dL_areRings_355 : decode cL_areRings 355 = .ok (.iconst 3, 1) := by decide +kernel
theorem dL_areRings_356 : decode cL_areRings 356 = .ok (.imul, 1) := by decide +kernel
theorem dL_areRings_357 : decode cL_areRings 357 = .ok (.istore 8, 2) := by decide +kernel
theorem dL_areRings_359 : decode cL_areRings 359 = .ok (.iinc 9 1, 3) := by decide +kernel
theorem dL_areRings_362 : decode cL_areRings 362 = .ok (.goto (-24), 3) := by decide +kernel
theorem dL_areRings_365 : decode cL_areRings 365 = .ok (.aload_n 0, 1) := by decide +kernel
theorem dL_areRings_366 : decode cL_areRings 366 = .ok (.iload_n 3, 1) := by decide +kernel
theorem dL_areRings_367 : decode cL_areRings 367 = .ok (.invokestatic 102, 3) := by decide +kernel
theorem dL_areRings_370 : decode cL_areRings 370 = .ok (.istore 9, 2) := by decide +kernel
theorem dL_areRings_372 : decode cL_areRings 372 = .ok (.iload 9, 2) := by decide +kernel
theorem dL_areRings_374 : decode cL_areRings 374 = .ok (.iconst (-1), 1) := by decide +kernel
theorem dL_areRings_375 : decode cL_areRings 375 = .ok (.if_icmp .lt 39, 3) := by decide +kernel
theorem dL_areRings_378 : decode cL_areRings 378 = .ok (.iload 9, 2) := by decide +kernel
theorem dL_areRings_380 : decode cL_areRings 380 = .ok (.iload 8, 2) := by decide +kernel
theorem dL_areRings_382 : decode cL_areRings 382 = .ok (.if_icmp .ge 32, 3) := by decide +kernel
theorem dL_areRings_385 : decode cL_areRings 385 = .ok (.iload 9, 2) := by decide +kernel
theorem dL_areRings_387 : decode cL_areRings 387 = .ok (.iload 7, 2) := by decide +kernel
theorem dL_areRings_389 : decode cL_areRings 389 = .ok (.if_icmp .ne 7, 3) := by decide +kernel
theorem dL_areRings_392 : decode cL_areRings 392 = .ok (.iconst 1, 1) := by decide +kernel
theorem dL_areRings_393 : decode cL_areRings 393 = .ok (.goto 4, 3) := by decide +kernel
theorem dL_areRings_396 : decode cL_areRings 396 = .ok (.iconst 0, 1) := by decide +kernel
theorem dL_areRings_397 : decode cL_areRings 397 = .ok (.iload 5, 2) := by decide +kernel
theorem dL_areRings_399 : decode cL_areRings 399 = .ok (.ifCond .ne 7, 3) := by decide +kernel
theorem dL_areRings_402 : decode cL_areRings 402 = .ok (.iconst 1, 1) := by decide +kernel
theorem dL_areRings_403 : decode cL_areRings 403 = .ok (.goto 4, 3) := by decide +kernel
theorem dL_areRings_406 : decode cL_areRings 406 = .ok (.iconst 0, 1) := by decide +kernel
theorem dL_areRings_407 : decode cL_areRings 407 = .ok (.if_icmp .ne 7, 3) := by decide +kernel
theorem dL_areRings_410 : decode cL_areRings 410 = .ok (.iconst 1, 1) := by decide +kernel
theorem dL_areRings_411 : decode cL_areRings 411 = .ok (.goto 4, 3) := by decide +kernel
theorem dL_areRings_414 : decode cL_areRings 414 = .ok (.iconst 0, 1) := by decide +kernel
theorem dL_areRings_415 : decode cL_areRings 415 = .ok (.ireturn, 1) := by decide +kernel
set_option maxRecDepth 20000 in
theorem ggL_isSteady_L_published : GoodIn wsL_isSteady wsL_published := goodIn_ca (goodIn_r _ [5, 6, 1, 7, 8, 9, 10, 11, 12, 13, 14, 15, 16, 17, 18, 19, 20, 21, 22, 23, 24, 25, 26, 27, 28, 29, 30, 31, 32, 33, 34, 35, 36, 37, 38, 39, 40, 41, 42, 43, 44, 45, 46, 47, 48, 49, 50, 51, 52, 53, 54, 55, 56, 57, 58, 59, 60, 61, 62, 63, 64, 65, 66, 67, 68, 69, 70, 71, 72, 73, 74, 75, 76, 77, 78, 79, 80, 81, 82, 83, 84, 85, 93, 94, 95, 96, 97, 98, 99, 100, 101, 102, 103, 104, 105, 106, 107, 108, 109, 110, 111, 112, 113, 114, 115, 116, 117] (by decide +kernel) (by decide +kernel)) (goodIn_sub (fun _ h => List.mem_cons_of_mem _ (List.mem_append_right _ h)) (by decide +kernel))
set_option maxRecDepth 20000 in
theorem gL_isSteady_L_published : GoodIn wsL_isSteady (va_wsS RL 104 yL_published wsL_published) := goodIn_app (goodIn_of _ (by decide +kernel)) ggL_isSteady_L_published
set_option maxRecDepth 20000 in
theorem ggL_isSteady_L_mean : GoodIn wsL_isSteady wsL_mean := goodIn_ca (goodIn_r _ [88, 6, 1, 89, 90, 91, 10, 92, 12, 13, 36, 15, 16, 17, 18, 19, 20, 21, 22, 38, 39, 40, 41, 42, 43, 32, 33, 34, 35, 37, 44, 45, 46, 47, 48, 49, 50, 51, 52, 53, 54, 55, 56, 57, 58, 59, 60, 61, 62, 63, 64, 65, 66, 67, 68, 69, 70, 71, 72, 73, 74, 75, 93, 94, 95, 96, 97, 98, 99, 100, 101, 102, 103, 104, 105, 106, 107, 108, 109, 110, 111, 112, 113, 114, 115, 116, 117] (by decide +kernel) (by decide +kernel)) (goodIn_sub (fun _ h => List.mem_cons_of_mem _ (List.mem_append_right _ h)) (by decide +kernel))
set_option maxRecDepth 20000 in
theorem gL_isSteady_L_mean : GoodIn wsL_isSteady (va_wsS RL 107 yL_mean wsL_mean) := goodIn_app (goodIn_of _ (by decide +kernel)) ggL_isSteady_L_mean
theorem dL_isSteady_0 : decode cL_isSteady 0 = .ok (.iload_n 2, 1) := by decide +kernel
theorem dL_isSteady_1 : decode cL_isSteady 1 = .ok (.iconst 1, 1) := by decide +kernel
theorem dL_isSteady_2 : decode cL_isSteady 2 = .ok (.if_icmp .ne 7, 3) := by decide +kernel
theorem dL_isSteady_5 : decode cL_isSteady 5 = .ok (.iconst 0, 1) := by decide +kernel
theorem dL_isSteady_6 : decode cL_isSteady 6 = .ok (.goto 11, 3) := by decide +kernel
theorem dL_isSteady_9 : decode cL_isSteady 9 = .ok (.aload_n 0, 1) := by decide +kernel
theorem dL_isSteady_10 : decode cL_isSteady 10 = .ok (.iload_n 2, 1) := by decide +kernel
theorem dL_isSteady_11 : decode cL_isSteady 11 = .ok (.iconst 1, 1) := by decide +kernel
theorem dL_isSteady_12 : decode cL_isSteady 12 = .ok (.isub, 1) := by decide +kernel
theorem dL_isSteady_13 : decode cL_isSteady 13 = .ok (.iconst 1, 1) := by decide +kernel
theorem dL_isSteady_14 : decode cL_isSteady 14 = .ok (.invokestatic 104, 3) := by decide +kernel
theorem dL_isSteady_17 : decode cL_isSteady 17 = .ok (.istore 4, 2) := by decide +kernel
theorem dL_isSteady_19 : decode cL_isSteady 19 = .ok (.aload_n 0, 1) := by decide +kernel
theorem dL_isSteady_20 : decode cL_isSteady 20 = .ok (.iload_n 2, 1) := by decide +kernel
theorem dL_isSteady_21 : decode cL_isSteady 21 = .ok (.iconst 1, 1) := by decide +kernel
theorem dL_isSteady_22 : decode cL_isSteady 22 = .ok (.invokestatic 104, 3) := by decide +kernel
theorem dL_isSteady_25 : decode cL_isSteady 25 = .ok (.istore 5, 2) := by decide +kernel
theorem dL_isSteady_27 : decode cL_isSteady 27 = .ok (.aload_n 0, 1) := by decide +kernel
theorem dL_isSteady_28 : decode cL_isSteady 28 = .ok (.iload_n 2, 1) := by decide +kernel
theorem dL_isSteady_29 : decode cL_isSteady 29 = .ok (.invokestatic 107, 3) := by decide +kernel
theorem dL_isSteady_32 : decode cL_isSteady 32 = .ok (.istore 6, 2) := by decide +kernel
theorem dL_isSteady_34 : decode cL_isSteady 34 = .ok (.iload 5, 2) := by decide +kernel
theorem dL_isSteady_36 : decode cL_isSteady 36 = .ok (.iload 4, 2) := by decide +kernel
theorem dL_isSteady_38 : decode cL_isSteady 38 = .ok (.isub, 1) := by decide +kernel
theorem dL_isSteady_39 : decode cL_isSteady 39 = .ok (.istore 7, 2) := by decide +kernel
theorem dL_isSteady_41 : decode cL_isSteady 41 = .ok (.aload_n 0, 1) := by decide +kernel
theorem dL_isSteady_42 : decode cL_isSteady 42 = .ok (.iload_n 2, 1) := by decide +kernel
theorem dL_isSteady_43 : decode cL_isSteady 43 = .ok (.iconst 0, 1) := by decide +kernel
theorem dL_isSteady_44 : decode cL_isSteady 44 = .ok (.invokestatic 104, 3) := by decide +kernel
theorem dL_isSteady_47 : decode cL_isSteady 47 = .ok (.iload_n 2, 1) := by decide +kernel
theorem dL_isSteady_48 : decode cL_isSteady 48 = .ok (.iconst 1, 1) := by decide +kernel
theorem dL_isSteady_49 : decode cL_isSteady 49 = .ok (.if_icmp .ne 7, 3) := by decide +kernel
theorem dL_isSteady_52 : decode cL_isSteady 52 = .ok (.iconst 0, 1) := by decide +kernel
theorem dL_isSteady_53 : decode cL_isSteady 53 = .ok (.goto 11, 3) := by decide +kernel
theorem dL_isSteady_56 : decode cL_isSteady 56 = .ok (.aload_n 0, 1) := by decide +kernel
theorem dL_isSteady_57 : decode cL_isSteady 57 = .ok (.iload_n 2, 1) := by decide +kernel
theorem dL_isSteady_58 : decode cL_isSteady 58 = .ok (.iconst 1, 1) := by decide +kernel
theorem dL_isSteady_59 : decode cL_isSteady 59 = .ok (.isub, 1) := by decide +kernel
theorem dL_isSteady_60 : decode cL_isSteady 60 = .ok (.iconst 0, 1) := by decide +kernel
theorem dL_isSteady_61 : decode cL_isSteady 61 = .ok (.invokestatic 104, 3) := by decide +kernel
theorem dL_isSteady_64 : decode cL_isSteady 64 = .ok (.isub, 1) := by decide +kernel
theorem dL_isSteady_65 : decode cL_isSteady 65 = .ok (.istore 8, 2) := by decide +kernel
theorem dL_isSteady_67 : decode cL_isSteady 67 = .ok (.iload 6, 2) := by decide +kernel
theorem dL_isSteady_69 : decode cL_isSteady 69 = .ok (.iload 4, 2) := by decide +kernel
theorem dL_isSteady_71 : decode cL_isSteady 71 = .ok (.isub, 1) := by decide +kernel
theorem dL_isSteady_72 : decode cL_isSteady 72 = .ok (.iload_n 3, 1) := by decide +kernel
theorem dL_isSteady_73 : decode cL_isSteady 73 = .ok (.if_icmp .gt 27, 3) := by decide +kernel
theorem dL_isSteady_76 : decode cL_isSteady 76 = .ok (.iload 4, 2) := by decide +kernel
theorem dL_isSteady_78 : decode cL_isSteady 78 = .ok (.iload 6, 2) := by decide +kernel
theorem dL_isSteady_80 : decode cL_isSteady 80 = .ok (.isub, 1) := by decide +kernel
theorem dL_isSteady_81 : decode cL_isSteady 81 = .ok (.iload_n 3, 1) := by decide +kernel
theorem dL_isSteady_82 : decode cL_isSteady 82 = .ok (.if_icmp .gt 18, 3) := by decide +kernel
theorem dL_isSteady_85 : decode cL_isSteady 85 = .ok (.iload 5, 2) := by decide +kernel
theorem dL_isSteady_87 : decode cL_isSteady 87 = .ok (.iload 6, 2) := by decide +kernel
theorem dL_isSteady_89 : decode cL_isSteady 89 = .ok (.if_icmp .ne 7, 3) := by decide +kernel
theorem dL_isSteady_92 : decode cL_isSteady 92 = .ok (.iconst 1, 1) := by decide +kernel
theorem dL_isSteady_93 : decode cL_isSteady 93 = .ok (.goto 30, 3) := by decide +kernel
theorem dL_isSteady_96 : decode cL_isSteady 96 = .ok (.iconst 0, 1) := by decide +kernel
theorem dL_isSteady_97 : decode cL_isSteady 97 = .ok (.goto 26, 3) := by decide +kernel
theorem dL_isSteady_100 : decode cL_isSteady 100 = .ok (.iload 7, 2) := by decide +kernel
theorem dL_isSteady_102 : decode cL_isSteady 102 = .ok (.iload 6, 2) := by decide +kernel
theorem dL_isSteady_104 : decode cL_isSteady 104 = .ok (.iload 4, 2) := by decide +kernel
theorem dL_isSteady_106 : decode cL_isSteady 106 = .ok (.if_icmp .le 7, 3) := by decide +kernel
theorem dL_isSteady_109 : decode cL_isSteady 109 = .ok (.iload_n 3, 1) := by decide +kernel
theorem dL_isSteady_110 : decode cL_isSteady 110 = .ok (.goto 5, 3) := by decide +kernel
theorem dL_isSteady_113 : decode cL_isSteady 113 = .ok (.iload_n 3, 1) := by decide +kernel
theorem dL_isSteady_114 : decode cL_isSteady 114 = .ok (.ineg, 1) := by decide +kernel
theorem dL_isSteady_115 : decode cL_isSteady 115 = .ok (.if_icmp .ne 7, 3) := by decide +kernel
theorem dL_isSteady_118 : decode cL_isSteady 118 = .ok (.iconst 1, 1) := by decide +kernel
theorem dL_isSteady_119 : decode cL_isSteady 119 = .ok (.goto 4, 3) := by decide +kernel
theorem dL_isSteady_122 : decode cL_isSteady 122 = .ok (.iconst 0, 1) := by decide +kernel
theorem dL_isSteady_123 : decode cL_isSteady 123 = .ok (.istore 9, 2) := by decide +kernel
theorem dL_isSteady_125 : decode cL_isSteady 125 = .ok (.iload 9, 2) := by decide +kernel
theorem dL_isSteady_127 : decode cL_isSteady 127 = .ok (.ifCond .eq 49, 3) := by decide +kernel
theorem dL_isSteady_130 : decode cL_isSteady 130 = .ok (.iload 8, 2) := by decide +kernel
theorem dL_isSteady_132 : decode cL_isSteady 132 = .ok (.sipush 1000, 3) := by decide +kernel
theorem dL_isSteady_135 : decode cL_isSteady 135 = .ok (.if_icmp .gt 41, 3) := by decide +kernel
theorem dL_isSteady_138 : decode cL_isSteady 138 = .ok (.iload 8, 2) := by decide +kernel
theorem dL_isSteady_140 : decode cL_isSteady 140 = .ok (.sipush (-1000), 3) := by decide +kernel
theorem dL_isSteady_143 : decode cL_isSteady 143 = .ok (.if_icmp .lt 33, 3) := by decide +kernel
theorem dL_isSteady_146 : decode cL_isSteady 146 = .ok (.aload_n 0, 1) := by decide +kernel
theorem dL_isSteady_147 : decode cL_isSteady 147 = .ok (.aload_n 1, 1) := by decide +kernel
theorem dL_isSteady_148 : decode cL_isSteady 148 = .ok (.iconst 2, 1) := by decide +kernel
theorem dL_isSteady_149 : decode cL_isSteady 149 = .ok (.iaload, 1) := by decide +kernel
theorem dL_isSteady_150 : decode cL_isSteady 150 = .ok (.iconst 1, 1) := by decide +kernel
theorem dL_isSteady_151 : decode cL_isSteady 151 = .ok (.iadd, 1) := by decide +kernel
theorem dL_isSteady_152 : decode cL_isSteady 152 = .ok (.iconst 1, 1) := by decide +kernel
theorem dL_isSteady_153 : decode cL_isSteady 153 = .ok (.invokestatic 104, 3) := by decide +kernel
theorem dL_isSteady_156 : decode cL_isSteady 156 = .ok (.ldc 28, 2) := by decide +kernel
theorem dL_isSteady_158 : decode cL_isSteady 158 = .ok (.if_icmp .ne 18, 3) := by decide +kernel
theorem dL_isSteady_161 : decode cL_isSteady 161 = .ok (.aload_n 0, 1) := by decide +kernel
theorem dL_isSteady_162 : decode cL_isSteady 162 = .ok (.iconst 0, 1) := by decide +kernel
theorem dL_isSteady_163 : decode cL_isSteady 163 = .ok (.iconst 0, 1) := by decide +kernel
theorem dL_isSteady_164 : decode cL_isSteady 164 = .ok (.invokestatic 104, 3) := by decide +kernel
theorem dL_isSteady_167 : decode cL_isSteady 167 = .ok (.ldc 28, 2) := by decide +kernel
theorem dL_isSteady_169 : decode cL_isSteady 169 = .ok (.if_icmp .ne 7, 3) := by decide +kernel
theorem dL_isSteady_172 : decode cL_isSteady 172 = .ok (.iconst 1, 1) := by decide +kernel
theorem dL_isSteady_173 : decode cL_isSteady 173 = .ok (.goto 4, 3) := by decide +kernel
theorem dL_isSteady_176 : decode cL_isSteady 176 = .ok (.iconst 0, 1) := by decide +kernel
theorem dL_isSteady_177 : decode cL_isSteady 177 = .ok (.ireturn, 1) := by decide +kernel
set_option maxRecDepth 20000 in
theorem ggL_makes_L_low : GoodIn wsL_makes wsL_low := goodIn_r _ [6, 7] (by decide +kernel) (by decide +kernel)
set_option maxRecDepth 20000 in
theorem gL_makes_L_low : GoodIn wsL_makes (va_wsS RL 109 yL_low wsL_low) := goodIn_app (goodIn_of _ (by decide +kernel)) ggL_makes_L_low
set_option maxRecDepth 20000 in
theorem ggL_makes_L_clock : GoodIn wsL_makes wsL_clock := goodIn_ca (goodIn_ca (goodIn_r _ [10, 11, 12, 2, 1, 13, 14, 15, 16, 17, 18, 19, 20, 21, 22, 23, 24, 25, 26, 27, 28, 29, 30, 31, 32, 33, 34, 35, 36, 37, 38, 90, 91, 92, 93, 94, 95, 96, 97, 98, 99, 100, 101, 102, 103, 104, 105] (by decide +kernel) (by decide +kernel)) (goodIn_sub (fun _ h => List.mem_cons_of_mem _ (List.mem_append_left _ (List.mem_append_left _ (List.mem_append_right _ h)))) (by decide +kernel))) (goodIn_sub (fun _ h => List.mem_cons_of_mem _ (List.mem_append_left _ (List.mem_append_right _ h))) (by decide +kernel))
set_option maxRecDepth 20000 in
theorem gL_makes_L_clock : GoodIn wsL_makes (va_wsS RL 112 yL_clock wsL_clock) := goodIn_app (goodIn_of _ (by decide +kernel)) ggL_makes_L_clock
set_option maxRecDepth 20000 in
theorem ggL_makes_L_of : GoodIn wsL_makes wsL_of := goodIn_ca (goodIn_ca (goodIn_r _ [41, 42, 11, 43, 2, 44, 45, 46, 16, 47, 48, 49, 18, 19, 22, 50, 51, 52, 29, 53, 31, 54, 55, 56, 57, 58, 59, 60, 61, 62, 36, 63, 64, 65, 66, 37, 90, 91, 92, 93, 94, 95, 96, 97, 98, 99, 100, 101, 102, 103, 104, 105] (by decide +kernel) (by decide +kernel)) (goodIn_sub (fun _ h => List.mem_cons_of_mem _ (List.mem_append_right _ h)) (by decide +kernel))) (goodIn_sub (fun _ h => List.mem_cons_of_mem _ (List.mem_append_left _ (List.mem_append_left _ (List.mem_append_right _ h)))) (by decide +kernel))
set_option maxRecDepth 20000 in
theorem gL_makes_L_of : GoodIn wsL_makes (va_wsS RL 115 yL_of wsL_of) := goodIn_app (goodIn_of _ (by decide +kernel)) ggL_makes_L_of
set_option maxRecDepth 20000 in
theorem ggL_makes_L_link : GoodIn wsL_makes wsL_link := goodIn_ca (goodIn_ca (goodIn_ca (goodIn_r _ [69, 42, 11, 12, 43, 2, 1, 70, 71, 72, 16, 73, 48, 49, 18, 19, 20, 21, 22, 74, 75, 50, 51, 52, 29, 53, 31, 23, 24, 25, 76, 77, 78, 79, 80, 81, 82, 83, 84, 85, 86, 87, 88, 89, 90, 91, 92, 93, 94, 95, 96, 97, 98, 99, 100, 101, 102, 103, 104, 105, 106, 107, 108, 109, 110, 111, 112, 113, 114] (by decide +kernel) (by decide +kernel)) (goodIn_sub (fun _ h => List.mem_cons_of_mem _ (List.mem_append_right _ h)) (by decide +kernel))) (goodIn_sub (fun _ h => List.mem_cons_of_mem _ (List.mem_append_left _ (List.mem_append_left _ (List.mem_append_right _ h)))) (by decide +kernel))) (goodIn_sub (fun _ h => List.mem_cons_of_mem _ (List.mem_append_left _ (List.mem_append_right _ h))) (by decide +kernel))
set_option maxRecDepth 20000 in
theorem gL_makes_L_link : GoodIn wsL_makes (va_wsS RL 117 yL_link wsL_link) := goodIn_app (goodIn_of _ (by decide +kernel)) ggL_makes_L_link
