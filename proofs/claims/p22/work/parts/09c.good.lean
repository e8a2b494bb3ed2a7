set_option maxRecDepth 20000 in
theorem ggL_acts_L_low : GoodIn wsL_acts wsL_low := goodIn_r _ [4, 5] (by decide +kernel) (by decide +kernel)
set_option maxRecDepth 20000 in
theorem gL_acts_L_low : GoodIn wsL_acts (va_wsS RL 109 yL_low wsL_low) := goodIn_app (goodIn_of _ (by decide +kernel)) ggL_acts_L_low
set_option maxRecDepth 20000 in
theorem ggL_acts_L_makes_1 : GoodIn wsL_acts ((.code yL_makes cL_makes 8 (some .boolean)) :: wsL_makes_r1) := goodIn_r _ [8, 9, 10, 1, 2, 3, 4, 5, 11, 12, 13, 14, 15, 16, 17, 18, 19, 20, 21, 22, 23, 24, 25, 26, 27] (by decide +kernel) (by decide +kernel)
set_option maxRecDepth 20000 in
theorem ggL_acts_L_makes_2 : GoodIn wsL_acts wsL_makes_r2 := goodIn_r _ [28, 29, 30, 31, 32, 33, 34, 35, 36, 37, 38, 39, 40, 41, 42, 43, 44, 45, 46, 47, 48, 49, 50, 51] (by decide +kernel) (by decide +kernel)
set_option maxRecDepth 20000 in
theorem ggL_acts_L_makes_3 : GoodIn wsL_acts wsL_makes_r3 := goodIn_r _ [52, 53, 54, 55, 56, 57, 58, 59, 60, 61, 62, 63, 64, 65, 66, 67, 68, 69, 70, 71, 72, 73, 74, 75] (by decide +kernel) (by decide +kernel)
set_option maxRecDepth 20000 in
theorem ggL_acts_L_makes_4 : GoodIn wsL_acts wsL_makes_r4 := goodIn_r _ [76, 77, 78, 79, 80, 81, 82, 83, 84, 85, 86, 87, 88, 89, 90, 91, 92] (by decide +kernel) (by decide +kernel)
set_option maxRecDepth 20000 in
theorem ggL_acts_L_makes_x4 : GoodIn wsL_acts wsX40 := goodIn_r _ [437, 438, 439, 440, 441, 442, 443, 444, 445, 446] (by decide +kernel) (by decide +kernel)
set_option maxRecDepth 20000 in
theorem ggL_acts_L_makes_x1 : GoodIn wsL_acts wsX10 := goodIn_r _ [447, 448, 449, 450, 451, 452] (by decide +kernel) (by decide +kernel)
set_option maxRecDepth 20000 in
theorem ggL_acts_L_makes_x2 : GoodIn wsL_acts wsX20 := goodIn_r _ [453, 454, 455, 456, 457, 458, 459, 460, 461] (by decide +kernel) (by decide +kernel)
set_option maxRecDepth 20000 in
theorem ggL_acts_L_makes : GoodIn wsL_acts wsL_makes := goodIn_ca (goodIn_ca (goodIn_ca (goodIn_ca (goodIn_ca (goodIn_ca (goodIn_ca ggL_acts_L_makes_1 (goodIn_app ggL_acts_L_makes_2 (goodIn_app ggL_acts_L_makes_3 ggL_acts_L_makes_4))) ggL_acts_L_makes_x4) ggL_acts_L_makes_x1) ggL_acts_L_makes_x2) (goodIn_sub (fun _ h => List.mem_cons_of_mem _ (List.mem_append_left _ (List.mem_append_left _ (List.mem_append_right _ h)))) (by decide +kernel))) (goodIn_sub (fun _ h => List.mem_cons_of_mem _ (List.mem_append_left _ (List.mem_append_right _ h))) (by decide +kernel))) (goodIn_sub (fun _ h => List.mem_cons_of_mem _ (List.mem_append_right _ h)) (by decide +kernel))
set_option maxRecDepth 20000 in
theorem gL_acts_L_makes : GoodIn wsL_acts (va_wsS RL 135 yL_makes wsL_makes) := goodIn_app (goodIn_of _ (by decide +kernel)) ggL_acts_L_makes
set_option maxRecDepth 20000 in
theorem ggL_acts_L_bounds : GoodIn wsL_acts wsL_bounds := goodIn_ca (goodIn_r _ [254, 14, 10, 255, 256, 257, 19, 258, 21, 22, 184, 259, 26, 27, 28, 437, 438, 439, 440, 441, 442, 443, 444, 445, 446] (by decide +kernel) (by decide +kernel)) (goodIn_sub (fun _ h => List.mem_cons_of_mem _ (List.mem_append_left _ (List.mem_append_left _ (List.mem_append_right _ h)))) (by decide +kernel))
set_option maxRecDepth 20000 in
theorem gL_acts_L_bounds : GoodIn wsL_acts (va_wsS RL 143 yL_bounds wsL_bounds) := goodIn_app (goodIn_of _ (by decide +kernel)) ggL_acts_L_bounds
set_option maxRecDepth 20000 in
theorem ggL_acts_X4_events : GoodIn wsL_acts wsX4_events := goodIn_r _ [125, 103, 111, 112, 113, 114, 115, 116, 437, 438, 439, 440, 441, 442, 443, 444, 445, 446, 462, 463] (by decide +kernel) (by decide +kernel)
set_option maxRecDepth 20000 in
theorem gL_acts_X4_events : GoodIn wsL_acts (wsV RL 122 RX4 yX4_events wsX4_events) := goodIn_app (goodIn_of _ (by decide +kernel)) ggL_acts_X4_events
set_option maxRecDepth 20000 in
theorem ggL_acts_X4_day : GoodIn wsL_acts wsX4_day := goodIn_r _ [349, 78, 437, 438, 439, 440, 441, 442, 443, 444, 445, 446] (by decide +kernel) (by decide +kernel)
set_option maxRecDepth 20000 in
theorem gL_acts_X4_day : GoodIn wsL_acts (wsV RL 147 RX4 yX4_day wsX4_day) := goodIn_app (goodIn_of _ (by decide +kernel)) ggL_acts_X4_day
set_option maxRecDepth 20000 in
theorem ggL_acts_L_areMeasured : GoodIn wsL_acts wsL_areMeasured := goodIn_ca (goodIn_r _ [352, 46, 353, 354, 3, 355, 45, 356, 357, 358, 19, 359, 51, 52, 77, 360, 361, 362, 363, 248, 249, 250, 251, 78, 26, 27, 28, 104, 105, 106, 82, 107, 84, 340, 194, 195, 196, 92, 364, 228, 229, 230, 231, 142, 365, 366, 367, 368, 437, 438, 439, 440, 441, 442, 443, 444, 445, 446, 453, 454, 455, 456, 457, 458, 459, 460, 461] (by decide +kernel) (by decide +kernel)) (goodIn_sub (fun _ h => List.mem_cons_of_mem _ (List.mem_append_right _ h)) (by decide +kernel))
set_option maxRecDepth 20000 in
theorem gL_acts_L_areMeasured : GoodIn wsL_acts (va_wsS RL 150 yL_areMeasured wsL_areMeasured) := goodIn_app (goodIn_of _ (by decide +kernel)) ggL_acts_L_areMeasured
