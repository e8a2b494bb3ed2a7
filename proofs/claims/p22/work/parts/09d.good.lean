set_option maxRecDepth 20000 in
theorem ggL_acts_L_sets_1 : GoodIn wsL_acts ((.code yL_sets cL_sets 12 (some .boolean)) :: wsL_sets_r1) := goodIn_r _ [95, 46, 9, 1, 2, 3, 4, 5, 96, 97, 98, 45, 14, 15, 10, 99, 100, 101, 19, 102, 21, 22, 51, 52, 23] (by decide +kernel) (by decide +kernel)
set_option maxRecDepth 20000 in
theorem ggL_acts_L_sets_2 : GoodIn wsL_acts wsL_sets_r2 := goodIn_r _ [24, 78, 25, 77, 103, 26, 27, 28, 53, 54, 55, 32, 56, 34, 104, 105, 106, 82, 107, 84, 108, 109, 110, 111] (by decide +kernel) (by decide +kernel)
set_option maxRecDepth 20000 in
theorem ggL_acts_L_sets_3 : GoodIn wsL_acts wsL_sets_r3 := goodIn_r _ [112, 113, 114, 115, 116, 117, 118, 119, 120, 121, 122, 123, 124, 125, 126, 127, 128, 129, 130, 131, 132, 133, 134, 135] (by decide +kernel) (by decide +kernel)
set_option maxRecDepth 20000 in
theorem ggL_acts_L_sets_4 : GoodIn wsL_acts wsL_sets_r4 := goodIn_r _ [136, 137, 138, 139, 140, 141, 142, 143, 144, 145, 146, 147, 148, 149, 150, 151, 152, 153, 41, 154, 155, 156, 157, 158] (by decide +kernel) (by decide +kernel)
set_option maxRecDepth 20000 in
theorem ggL_acts_L_sets_5 : GoodIn wsL_acts wsL_sets_r5 := goodIn_r _ [159, 160, 161, 162, 163, 164, 165, 166, 167, 168, 169, 170, 171, 172, 173, 174, 175, 176, 177, 178, 179, 180, 181, 182] (by decide +kernel) (by decide +kernel)
set_option maxRecDepth 20000 in
theorem ggL_acts_L_sets_6 : GoodIn wsL_acts wsL_sets_r6 := goodIn_r _ [183, 184, 185, 186, 187, 188, 189, 190, 191, 192, 80, 81, 83, 193, 194, 195, 196, 92, 197, 198, 199, 200, 201, 202] (by decide +kernel) (by decide +kernel)
set_option maxRecDepth 20000 in
theorem ggL_acts_L_sets_7 : GoodIn wsL_acts wsL_sets_r7 := goodIn_r _ [203, 204, 205, 206, 207, 208, 89, 90, 209, 210, 211, 212, 213, 214, 215, 216, 217, 218, 219, 220, 221, 222, 223, 224] (by decide +kernel) (by decide +kernel)
set_option maxRecDepth 20000 in
theorem ggL_acts_L_sets_8 : GoodIn wsL_acts wsL_sets_r8 := goodIn_r _ [225, 226, 227, 228, 229, 230, 231, 232, 233, 234, 235, 236, 237, 238, 239, 240, 241, 242, 243, 244, 245, 246, 247, 248] (by decide +kernel) (by decide +kernel)
set_option maxRecDepth 20000 in
theorem ggL_acts_L_sets_9 : GoodIn wsL_acts wsL_sets_r9 := goodIn_r _ [249, 250, 251] (by decide +kernel) (by decide +kernel)
set_option maxRecDepth 20000 in
theorem ggL_acts_L_sets_x4 : GoodIn wsL_acts wsX40 := goodIn_r _ [437, 438, 439, 440, 441, 442, 443, 444, 445, 446] (by decide +kernel) (by decide +kernel)
set_option maxRecDepth 20000 in
theorem ggL_acts_L_sets_x1 : GoodIn wsL_acts wsX10 := goodIn_r _ [447, 448, 449, 450, 451, 452] (by decide +kernel) (by decide +kernel)
set_option maxRecDepth 20000 in
theorem ggL_acts_L_sets_x2 : GoodIn wsL_acts wsX20 := goodIn_r _ [453, 454, 455, 456, 457, 458, 459, 460, 461] (by decide +kernel) (by decide +kernel)
set_option maxRecDepth 20000 in
theorem ggL_acts_L_sets_x0 : GoodIn wsL_acts wsX00 := goodIn_r _ [462, 463] (by decide +kernel) (by decide +kernel)
set_option maxRecDepth 20000 in
theorem ggL_acts_L_sets_x3 : GoodIn wsL_acts wsX30 := goodIn_r _ [464, 465, 466, 467, 468, 469, 470, 471, 472, 473, 474, 475] (by decide +kernel) (by decide +kernel)
set_option maxRecDepth 20000 in
theorem ggL_acts_L_sets : GoodIn wsL_acts wsL_sets := goodIn_ca (goodIn_ca (goodIn_ca (goodIn_ca (goodIn_ca (goodIn_ca (goodIn_ca (goodIn_ca (goodIn_ca ggL_acts_L_sets_1 (goodIn_app ggL_acts_L_sets_2 (goodIn_app ggL_acts_L_sets_3 (goodIn_app ggL_acts_L_sets_4 (goodIn_app ggL_acts_L_sets_5 (goodIn_app ggL_acts_L_sets_6 (goodIn_app ggL_acts_L_sets_7 (goodIn_app ggL_acts_L_sets_8 ggL_acts_L_sets_9)))))))) ggL_acts_L_sets_x4) ggL_acts_L_sets_x1) ggL_acts_L_sets_x2) ggL_acts_L_sets_x0) ggL_acts_L_sets_x3) (goodIn_sub (fun _ h => List.mem_cons_of_mem _ (List.mem_append_left _ (List.mem_append_left _ (List.mem_append_right _ h)))) (by decide +kernel))) (goodIn_sub (fun _ h => List.mem_cons_of_mem _ (List.mem_append_right _ h)) (by decide +kernel))) (goodIn_sub (fun _ h => List.mem_cons_of_mem _ (List.mem_append_left _ (List.mem_append_right _ h))) (by decide +kernel))
set_option maxRecDepth 20000 in
theorem gL_acts_L_sets : GoodIn wsL_acts (va_wsS RL 139 yL_sets wsL_sets) := goodIn_app (goodIn_of _ (by decide +kernel)) ggL_acts_L_sets
