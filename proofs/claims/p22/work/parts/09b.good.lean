set_option maxRecDepth 20000 in
theorem ggL_sets_L_low : GoodIn wsL_sets wsL_low := goodIn_r _ [6, 7] (by decide +kernel) (by decide +kernel)
set_option maxRecDepth 20000 in
theorem gL_sets_L_low : GoodIn wsL_sets (va_wsS RL 109 yL_low wsL_low) := goodIn_app (goodIn_of _ (by decide +kernel)) ggL_sets_L_low
set_option maxRecDepth 20000 in
theorem ggL_sets_L_event_1 : GoodIn wsL_sets ((.codeWith yL_event cL_event 6 (some .int) [(0, 9, 10, 26), (0, 9, 15, 16), (0, 9, 20, 19)]) :: wsL_event_r1) := goodIn_r _ [10, 11, 12, 13, 1, 14, 2, 15, 16, 17, 18, 19, 20, 21, 22, 23, 24, 25, 26, 27, 28, 29, 30, 31, 32] (by decide +kernel) (by decide +kernel)
set_option maxRecDepth 20000 in
theorem ggL_sets_L_event_2 : GoodIn wsL_sets wsL_event_r2 := goodIn_r _ [33, 34, 35, 36, 37, 38, 39, 40, 41, 42, 43, 44, 45, 46, 47, 48, 49, 50, 51, 52, 53, 54, 55, 56] (by decide +kernel) (by decide +kernel)
set_option maxRecDepth 20000 in
theorem ggL_sets_L_event_3 : GoodIn wsL_sets wsL_event_r3 := goodIn_r _ [57, 58] (by decide +kernel) (by decide +kernel)
set_option maxRecDepth 20000 in
theorem ggL_sets_L_event_x4 : GoodIn wsL_sets wsX40 := goodIn_r _ [196, 197, 198, 199, 200, 201, 202, 203, 204, 205] (by decide +kernel) (by decide +kernel)
set_option maxRecDepth 20000 in
theorem ggL_sets_L_event_x1 : GoodIn wsL_sets wsX10 := goodIn_r _ [206, 207, 208, 209, 210, 211] (by decide +kernel) (by decide +kernel)
set_option maxRecDepth 20000 in
theorem ggL_sets_L_event_x2 : GoodIn wsL_sets wsX20 := goodIn_r _ [212, 213, 214, 215, 216, 217, 218, 219, 220] (by decide +kernel) (by decide +kernel)
set_option maxRecDepth 20000 in
theorem ggL_sets_L_event_x0 : GoodIn wsL_sets wsX00 := goodIn_r _ [221, 222] (by decide +kernel) (by decide +kernel)
set_option maxRecDepth 20000 in
theorem ggL_sets_L_event : GoodIn wsL_sets wsL_event := goodIn_ca (goodIn_ca (goodIn_ca (goodIn_ca (goodIn_ca (goodIn_ca (goodIn_ca (goodIn_ca ggL_sets_L_event_1 (goodIn_app ggL_sets_L_event_2 ggL_sets_L_event_3)) ggL_sets_L_event_x4) ggL_sets_L_event_x1) ggL_sets_L_event_x2) ggL_sets_L_event_x0) (goodIn_sub (fun _ h => List.mem_cons_of_mem _ (List.mem_append_left _ (List.mem_append_left _ (List.mem_append_right _ h)))) (by decide +kernel))) (goodIn_sub (fun _ h => List.mem_cons_of_mem _ (List.mem_append_left _ (List.mem_append_right _ h))) (by decide +kernel))) (goodIn_sub (fun _ h => List.mem_cons_of_mem _ (List.mem_append_right _ h)) (by decide +kernel))
set_option maxRecDepth 20000 in
theorem gL_sets_L_event : GoodIn wsL_sets (va_wsS RL 120 yL_event wsL_event) := goodIn_app (goodIn_of _ (by decide +kernel)) ggL_sets_L_event
set_option maxRecDepth 20000 in
theorem ggL_sets_X4_events : GoodIn wsL_sets wsX4_events := goodIn_r _ [62, 29, 48, 49, 50, 51, 52, 53, 196, 197, 198, 199, 200, 201, 202, 203, 204, 205, 221, 222] (by decide +kernel) (by decide +kernel)
set_option maxRecDepth 20000 in
theorem gL_sets_X4_events : GoodIn wsL_sets (wsV RL 122 RX4 yX4_events wsX4_events) := goodIn_app (goodIn_of _ (by decide +kernel)) ggL_sets_X4_events
set_option maxRecDepth 20000 in
theorem ggL_sets_L_calibrate_1 : GoodIn wsL_sets ((.codeWith yL_calibrate cL_calibrate 6 (some .int) [(0, 9, 10, 26), (0, 9, 15, 16), (0, 9, 20, 19)]) :: wsL_calibrate_r1) := goodIn_r _ [65, 11, 12, 13, 1, 14, 2, 66, 67, 68, 18, 69, 22, 23, 20, 21, 24, 25, 28, 39, 40, 41, 42, 43, 44] (by decide +kernel) (by decide +kernel)
set_option maxRecDepth 20000 in
theorem ggL_sets_L_calibrate_2 : GoodIn wsL_sets wsL_calibrate_r2 := goodIn_r _ [30, 31, 32, 70, 71, 72, 73, 74, 75, 76, 77, 78, 79] (by decide +kernel) (by decide +kernel)
set_option maxRecDepth 20000 in
theorem ggL_sets_L_calibrate_x4 : GoodIn wsL_sets wsX40 := goodIn_r _ [196, 197, 198, 199, 200, 201, 202, 203, 204, 205] (by decide +kernel) (by decide +kernel)
set_option maxRecDepth 20000 in
theorem ggL_sets_L_calibrate_x2 : GoodIn wsL_sets wsX20 := goodIn_r _ [212, 213, 214, 215, 216, 217, 218, 219, 220] (by decide +kernel) (by decide +kernel)
set_option maxRecDepth 20000 in
theorem ggL_sets_L_calibrate : GoodIn wsL_sets wsL_calibrate := goodIn_ca (goodIn_ca (goodIn_ca (goodIn_ca (goodIn_ca (goodIn_ca ggL_sets_L_calibrate_1 ggL_sets_L_calibrate_2) ggL_sets_L_calibrate_x4) ggL_sets_L_calibrate_x2) (goodIn_sub (fun _ h => List.mem_cons_of_mem _ (List.mem_append_left _ (List.mem_append_right _ h))) (by decide +kernel))) (goodIn_sub (fun _ h => List.mem_cons_of_mem _ (List.mem_append_left _ (List.mem_append_left _ (List.mem_append_right _ h)))) (by decide +kernel))) (goodIn_sub (fun _ h => List.mem_cons_of_mem _ (List.mem_append_right _ h)) (by decide +kernel))
set_option maxRecDepth 20000 in
theorem gL_sets_L_calibrate : GoodIn wsL_sets (va_wsS RL 126 yL_calibrate wsL_calibrate) := goodIn_app (goodIn_of _ (by decide +kernel)) ggL_sets_L_calibrate
set_option maxRecDepth 20000 in
theorem ggL_sets_L_tell_1 : GoodIn wsL_sets ((.codeWith yL_tell cL_tell 5 (some .int) [(0, 7, 8, 26), (0, 7, 13, 16)]) :: wsL_tell_r1) := goodIn_r _ [82, 11, 12, 1, 14, 83, 84, 85, 18, 86, 22, 23, 20, 21, 27, 33, 34, 35, 36, 37, 38, 30, 31, 32, 87] (by decide +kernel) (by decide +kernel)
set_option maxRecDepth 20000 in
theorem ggL_sets_L_tell_2 : GoodIn wsL_sets wsL_tell_r2 := goodIn_r _ [88, 89, 90, 91, 92, 93, 94, 95, 96] (by decide +kernel) (by decide +kernel)
set_option maxRecDepth 20000 in
theorem ggL_sets_L_tell_x4 : GoodIn wsL_sets wsX40 := goodIn_r _ [196, 197, 198, 199, 200, 201, 202, 203, 204, 205] (by decide +kernel) (by decide +kernel)
set_option maxRecDepth 20000 in
theorem ggL_sets_L_tell_x1 : GoodIn wsL_sets wsX10 := goodIn_r _ [206, 207, 208, 209, 210, 211] (by decide +kernel) (by decide +kernel)
set_option maxRecDepth 20000 in
theorem ggL_sets_L_tell : GoodIn wsL_sets wsL_tell := goodIn_ca (goodIn_ca (goodIn_ca (goodIn_ca (goodIn_ca ggL_sets_L_tell_1 ggL_sets_L_tell_2) ggL_sets_L_tell_x4) ggL_sets_L_tell_x1) (goodIn_sub (fun _ h => List.mem_cons_of_mem _ (List.mem_append_left _ (List.mem_append_right _ h))) (by decide +kernel))) (goodIn_sub (fun _ h => List.mem_cons_of_mem _ (List.mem_append_left _ (List.mem_append_left _ (List.mem_append_right _ h)))) (by decide +kernel))
set_option maxRecDepth 20000 in
theorem gL_sets_L_tell : GoodIn wsL_sets (va_wsS RL 128 yL_tell wsL_tell) := goodIn_app (goodIn_of _ (by decide +kernel)) ggL_sets_L_tell
set_option maxRecDepth 20000 in
theorem ggL_sets_L_vote : GoodIn wsL_sets wsL_vote := goodIn_ca (goodIn_r _ [99, 11, 1, 100, 101, 102, 18, 103, 22, 23, 104, 30, 31, 32, 105, 106, 107, 108, 196, 197, 198, 199, 200, 201, 202, 203, 204, 205] (by decide +kernel) (by decide +kernel)) (goodIn_sub (fun _ h => List.mem_cons_of_mem _ (List.mem_append_left _ (List.mem_append_right _ h))) (by decide +kernel))
set_option maxRecDepth 20000 in
theorem gL_sets_L_vote : GoodIn wsL_sets (va_wsS RL 130 yL_vote wsL_vote) := goodIn_app (goodIn_of _ (by decide +kernel)) ggL_sets_L_vote
set_option maxRecDepth 20000 in
theorem ggL_sets_L_adopt_1 : GoodIn wsL_sets ((.codeWith yL_adopt cL_adopt 2 (some .int) [(0, 12, 13, 19)]) :: wsL_adopt_r1) := goodIn_r _ [111, 13, 2, 112, 113, 114, 18, 115, 24, 25, 116, 26, 105, 106, 107, 108, 104, 117, 118, 119, 120, 121, 28, 122, 123] (by decide +kernel) (by decide +kernel)
set_option maxRecDepth 20000 in
theorem ggL_sets_L_adopt_2 : GoodIn wsL_sets wsL_adopt_r2 := goodIn_r _ [124, 125, 126, 127, 128, 129, 130, 131, 132, 42, 133, 44, 134, 135, 136, 137, 138, 139, 140, 141, 142, 143, 144, 145] (by decide +kernel) (by decide +kernel)
set_option maxRecDepth 20000 in
theorem ggL_sets_L_adopt_3 : GoodIn wsL_sets wsL_adopt_r3 := goodIn_r _ [146, 147, 148, 149, 150, 151, 152, 153, 154, 155, 156, 157, 158, 159, 160, 161, 162, 163, 164, 165, 166, 167, 168, 169] (by decide +kernel) (by decide +kernel)
set_option maxRecDepth 20000 in
theorem ggL_sets_L_adopt_4 : GoodIn wsL_sets wsL_adopt_r4 := goodIn_r _ [170, 171, 172, 173, 174, 175, 79, 176, 177, 178, 179, 180, 181, 182, 183, 184] (by decide +kernel) (by decide +kernel)
set_option maxRecDepth 20000 in
theorem ggL_sets_L_adopt_x4 : GoodIn wsL_sets wsX40 := goodIn_r _ [196, 197, 198, 199, 200, 201, 202, 203, 204, 205] (by decide +kernel) (by decide +kernel)
set_option maxRecDepth 20000 in
theorem ggL_sets_L_adopt_x3 : GoodIn wsL_sets wsX30 := goodIn_r _ [223, 224, 225, 226, 227, 228, 229, 230, 231, 232, 233, 234] (by decide +kernel) (by decide +kernel)
set_option maxRecDepth 20000 in
theorem ggL_sets_L_adopt_x2 : GoodIn wsL_sets wsX20 := goodIn_r _ [212, 213, 214, 215, 216, 217, 218, 219, 220] (by decide +kernel) (by decide +kernel)
set_option maxRecDepth 20000 in
theorem ggL_sets_L_adopt : GoodIn wsL_sets wsL_adopt := goodIn_ca (goodIn_ca (goodIn_ca (goodIn_ca (goodIn_ca ggL_sets_L_adopt_1 (goodIn_app ggL_sets_L_adopt_2 (goodIn_app ggL_sets_L_adopt_3 ggL_sets_L_adopt_4))) ggL_sets_L_adopt_x4) ggL_sets_L_adopt_x3) ggL_sets_L_adopt_x2) (goodIn_sub (fun _ h => List.mem_cons_of_mem _ (List.mem_append_right _ h)) (by decide +kernel))
set_option maxRecDepth 20000 in
theorem gL_sets_L_adopt : GoodIn wsL_sets (va_wsS RL 132 yL_adopt wsL_adopt) := goodIn_app (goodIn_of _ (by decide +kernel)) ggL_sets_L_adopt
set_option maxRecDepth 20000 in
theorem ggL_sets_L_open_1 : GoodIn wsL_sets ((.codeWith yL_open cL_open 3 (some .int) [(0, 5, 6, 26)]) :: wsL_open_r1) := goodIn_r _ [187, 11, 1, 188, 189, 190, 18, 191, 22, 23, 192, 193, 194, 195, 26, 30, 31, 32, 117, 118, 119, 120, 121, 28, 122] (by decide +kernel) (by decide +kernel)
set_option maxRecDepth 20000 in
theorem ggL_sets_L_open_2 : GoodIn wsL_sets wsL_open_r2 := goodIn_r _ [123, 124, 125, 126, 127, 128, 129, 130, 131, 132, 42, 133, 44, 134, 135, 136, 137, 138, 139, 140, 141, 142, 143, 144] (by decide +kernel) (by decide +kernel)
set_option maxRecDepth 20000 in
theorem ggL_sets_L_open_3 : GoodIn wsL_sets wsL_open_r3 := goodIn_r _ [145, 146, 147, 148, 149, 150, 151, 152, 153, 154, 155, 156, 157, 158, 159, 160, 161, 162, 163, 164, 165, 166, 167, 168] (by decide +kernel) (by decide +kernel)
set_option maxRecDepth 20000 in
theorem ggL_sets_L_open_4 : GoodIn wsL_sets wsL_open_r4 := goodIn_r _ [169, 170, 171, 172, 173, 174, 175, 79, 176, 177, 178, 179, 180, 181, 182, 183, 184] (by decide +kernel) (by decide +kernel)
set_option maxRecDepth 20000 in
theorem ggL_sets_L_open_x4 : GoodIn wsL_sets wsX40 := goodIn_r _ [196, 197, 198, 199, 200, 201, 202, 203, 204, 205] (by decide +kernel) (by decide +kernel)
set_option maxRecDepth 20000 in
theorem ggL_sets_L_open_x3 : GoodIn wsL_sets wsX30 := goodIn_r _ [223, 224, 225, 226, 227, 228, 229, 230, 231, 232, 233, 234] (by decide +kernel) (by decide +kernel)
set_option maxRecDepth 20000 in
theorem ggL_sets_L_open_x2 : GoodIn wsL_sets wsX20 := goodIn_r _ [212, 213, 214, 215, 216, 217, 218, 219, 220] (by decide +kernel) (by decide +kernel)
set_option maxRecDepth 20000 in
theorem ggL_sets_L_open : GoodIn wsL_sets wsL_open := goodIn_ca (goodIn_ca (goodIn_ca (goodIn_ca (goodIn_ca ggL_sets_L_open_1 (goodIn_app ggL_sets_L_open_2 (goodIn_app ggL_sets_L_open_3 ggL_sets_L_open_4))) ggL_sets_L_open_x4) ggL_sets_L_open_x3) ggL_sets_L_open_x2) (goodIn_sub (fun _ h => List.mem_cons_of_mem _ (List.mem_append_left _ (List.mem_append_right _ h))) (by decide +kernel))
set_option maxRecDepth 20000 in
theorem gL_sets_L_open : GoodIn wsL_sets (va_wsS RL 99 yL_open wsL_open) := goodIn_app (goodIn_of _ (by decide +kernel)) ggL_sets_L_open
