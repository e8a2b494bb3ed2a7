set_option maxRecDepth 20000 in
theorem ggL_law_X4_init : GoodIn wsL_law wsX4_init := goodIn_r _ [6, 7, 8, 9, 10, 11, 12, 13, 14, 15, 16, 17, 18, 19, 20, 21, 22, 23, 24, 25, 3, 26, 27, 28, 29, 30, 31, 32, 33, 34, 35, 36, 37, 38, 39, 40, 41, 42, 43, 44, 45, 46, 47, 48, 49, 50, 51, 52, 53, 54, 55, 56, 57, 58, 59, 60, 61, 62, 63, 64, 65, 66, 67, 68, 69, 70, 71, 72, 73, 74, 485, 486, 487, 488, 489, 490, 475, 476, 477, 478, 479, 480, 481, 482, 483, 484, 491, 492, 493, 494, 495, 496, 497, 498, 499, 500, 501, 502, 503, 504, 505, 506, 507, 508, 509, 510, 511, 512, 513] (by decide +kernel) (by decide +kernel)
set_option maxRecDepth 20000 in
theorem gL_law_X4_init : GoodIn wsL_law (wsX4_init) := ggL_law_X4_init
set_option maxRecDepth 20000 in
theorem ggL_law_X4_day : GoodIn wsL_law wsX4_day := goodIn_r _ [78, 29, 475, 476, 477, 478, 479, 480, 481, 482, 483, 484] (by decide +kernel) (by decide +kernel)
set_option maxRecDepth 20000 in
theorem gL_law_X4_day : GoodIn wsL_law (wsV RL 147 RX4 yX4_day wsX4_day) := goodIn_app (goodIn_of _ (by decide +kernel)) ggL_law_X4_day
set_option maxRecDepth 20000 in
theorem ggL_law_L_at : GoodIn wsL_law wsL_at := goodIn_r _ [82, 83, 84] (by decide +kernel) (by decide +kernel)
set_option maxRecDepth 20000 in
theorem gL_law_L_at : GoodIn wsL_law (va_wsS RL 162 yL_at wsL_at) := goodIn_app (goodIn_of _ (by decide +kernel)) ggL_law_L_at
set_option maxRecDepth 20000 in
theorem ggL_law_L_areMeasured : GoodIn wsL_law wsL_areMeasured := goodIn_ca (goodIn_r _ [394, 125, 395, 396, 81, 397, 124, 398, 399, 400, 2, 401, 130, 131, 17, 402, 403, 404, 405, 297, 298, 299, 300, 29, 110, 111, 112, 173, 174, 175, 16, 176, 54, 386, 250, 251, 252, 49, 406, 278, 279, 280, 52, 53, 407, 408, 409, 410, 475, 476, 477, 478, 479, 480, 481, 482, 483, 484, 491, 492, 493, 494, 495, 496, 497, 498, 499] (by decide +kernel) (by decide +kernel)) (goodIn_sub (fun _ h => List.mem_append_right _ h) (by decide +kernel))
set_option maxRecDepth 20000 in
theorem gL_law_L_areMeasured : GoodIn wsL_law (va_wsS RL 150 yL_areMeasured wsL_areMeasured) := goodIn_app (goodIn_of _ (by decide +kernel)) ggL_law_L_areMeasured
set_option maxRecDepth 20000 in
theorem ggL_law_L_areRings_1 : GoodIn wsL_law ((.code yL_areRings cL_areRings 13 (some .boolean)) :: wsL_areRings_r1) := goodIn_r _ [413, 125, 96, 414, 415, 81, 416, 124, 100, 417, 418, 419, 2, 420, 130, 131, 106, 107, 17, 346, 347, 288, 348, 349, 350] (by decide +kernel) (by decide +kernel)
set_option maxRecDepth 20000 in
theorem ggL_law_L_areRings_2 : GoodIn wsL_law wsL_areRings_r2 := goodIn_r _ [351, 402, 403, 404, 405, 297, 298, 299, 300, 29, 110, 111, 112, 173, 174, 175, 16, 176, 54, 386, 250, 251, 252, 49] (by decide +kernel) (by decide +kernel)
set_option maxRecDepth 20000 in
theorem ggL_law_L_areRings_3 : GoodIn wsL_law wsL_areRings_r3 := goodIn_r _ [421, 258, 259, 260, 261, 262, 263, 264, 45, 46, 422, 274, 275, 276, 277, 278, 279, 280, 52, 53, 281, 270, 271, 272] (by decide +kernel) (by decide +kernel)
set_option maxRecDepth 20000 in
theorem ggL_law_L_areRings_4 : GoodIn wsL_law wsL_areRings_r4 := goodIn_r _ [423, 424, 425, 426, 427, 428, 429, 430, 431, 290, 291, 292, 293, 294, 295, 296, 240, 241, 242, 243, 25, 30, 244, 245] (by decide +kernel) (by decide +kernel)
set_option maxRecDepth 20000 in
theorem ggL_law_L_areRings_5 : GoodIn wsL_law wsL_areRings_r5 := goodIn_r _ [246, 24, 247, 69, 70, 248, 156, 157, 158, 249, 253, 254, 255, 256, 257, 265, 266, 267, 268, 63, 64, 65, 66, 67] (by decide +kernel) (by decide +kernel)
set_option maxRecDepth 20000 in
theorem ggL_law_L_areRings_6 : GoodIn wsL_law wsL_areRings_r6 := goodIn_r _ [68, 269, 273, 282, 283, 284, 285, 286, 287, 289, 432, 433, 434, 435, 436, 437, 438, 155, 439, 440, 441, 442, 72, 73] (by decide +kernel) (by decide +kernel)
set_option maxRecDepth 20000 in
theorem ggL_law_L_areRings_7 : GoodIn wsL_law wsL_areRings_r7 := goodIn_r _ [74, 443, 444, 445, 71, 446, 447, 448, 449, 450, 451, 452, 453] (by decide +kernel) (by decide +kernel)
set_option maxRecDepth 20000 in
theorem ggL_law_L_areRings_x4 : GoodIn wsL_law wsX40 := goodIn_r _ [475, 476, 477, 478, 479, 480, 481, 482, 483, 484] (by decide +kernel) (by decide +kernel)
set_option maxRecDepth 20000 in
theorem ggL_law_L_areRings_x2 : GoodIn wsL_law wsX20 := goodIn_r _ [491, 492, 493, 494, 495, 496, 497, 498, 499] (by decide +kernel) (by decide +kernel)
set_option maxRecDepth 20000 in
theorem ggL_law_L_areRings_x3 : GoodIn wsL_law wsX30 := goodIn_r _ [502, 503, 504, 505, 506, 507, 508, 509, 510, 511, 512, 513] (by decide +kernel) (by decide +kernel)
set_option maxRecDepth 20000 in
theorem ggL_law_L_areRings : GoodIn wsL_law wsL_areRings := goodIn_ca (goodIn_ca (goodIn_ca (goodIn_ca (goodIn_ca (goodIn_ca ggL_law_L_areRings_1 (goodIn_app ggL_law_L_areRings_2 (goodIn_app ggL_law_L_areRings_3 (goodIn_app ggL_law_L_areRings_4 (goodIn_app ggL_law_L_areRings_5 (goodIn_app ggL_law_L_areRings_6 ggL_law_L_areRings_7)))))) ggL_law_L_areRings_x4) ggL_law_L_areRings_x2) ggL_law_L_areRings_x3) (goodIn_sub (fun _ h => List.mem_append_right _ h) (by decide +kernel))) (goodIn_sub (fun _ h => List.mem_append_left _ (List.mem_append_left _ (List.mem_append_right _ h))) (by decide +kernel))
set_option maxRecDepth 20000 in
theorem gL_law_L_areRings : GoodIn wsL_law (va_wsS RL 154 yL_areRings wsL_areRings) := goodIn_app (goodIn_of _ (by decide +kernel)) ggL_law_L_areRings
set_option maxRecDepth 20000 in
theorem ggL_law_L_isSteady_1 : GoodIn wsL_law ((.code yL_isSteady cL_isSteady 10 (some .boolean)) :: wsL_isSteady_r1) := goodIn_r _ [456, 125, 457, 458, 81, 459, 124, 460, 461, 462, 2, 463, 130, 131, 26, 297, 298, 299, 300, 29, 110, 111, 112, 464, 465] (by decide +kernel) (by decide +kernel)
set_option maxRecDepth 20000 in
theorem ggL_law_L_isSteady_2 : GoodIn wsL_law wsL_isSteady_r2 := goodIn_r _ [466, 467, 374, 375, 376, 377, 31, 378, 379, 380, 381, 13, 17, 113, 114, 115, 12, 116, 41, 214, 215, 216, 217, 38] (by decide +kernel) (by decide +kernel)
set_option maxRecDepth 20000 in
theorem ggL_law_L_isSteady_3 : GoodIn wsL_law wsL_isSteady_r3 := goodIn_r _ [155, 156, 157, 16, 158, 54, 382, 383, 384, 385, 45, 46, 386, 250, 251, 252, 49, 387, 388, 389, 390, 277, 278, 279] (by decide +kernel) (by decide +kernel)
set_option maxRecDepth 20000 in
theorem ggL_law_L_isSteady_4 : GoodIn wsL_law wsL_isSteady_r4 := goodIn_r _ [280, 52, 53, 391, 344, 345, 346, 347, 288, 348, 349, 350, 351, 468, 469, 470, 471, 472, 473, 474] (by decide +kernel) (by decide +kernel)
set_option maxRecDepth 20000 in
theorem ggL_law_L_isSteady_x4 : GoodIn wsL_law wsX40 := goodIn_r _ [475, 476, 477, 478, 479, 480, 481, 482, 483, 484] (by decide +kernel) (by decide +kernel)
set_option maxRecDepth 20000 in
theorem ggL_law_L_isSteady_x1 : GoodIn wsL_law wsX10 := goodIn_r _ [485, 486, 487, 488, 489, 490] (by decide +kernel) (by decide +kernel)
set_option maxRecDepth 20000 in
theorem ggL_law_L_isSteady_x2 : GoodIn wsL_law wsX20 := goodIn_r _ [491, 492, 493, 494, 495, 496, 497, 498, 499] (by decide +kernel) (by decide +kernel)
set_option maxRecDepth 20000 in
theorem ggL_law_L_isSteady : GoodIn wsL_law wsL_isSteady := goodIn_ca (goodIn_ca (goodIn_ca (goodIn_ca (goodIn_ca ggL_law_L_isSteady_1 (goodIn_app ggL_law_L_isSteady_2 (goodIn_app ggL_law_L_isSteady_3 ggL_law_L_isSteady_4))) ggL_law_L_isSteady_x4) ggL_law_L_isSteady_x1) ggL_law_L_isSteady_x2) (goodIn_sub (fun _ h => List.mem_append_right _ h) (by decide +kernel))
set_option maxRecDepth 20000 in
theorem gL_law_L_isSteady : GoodIn wsL_law (va_wsS RL 157 yL_isSteady wsL_isSteady) := goodIn_app (goodIn_of _ (by decide +kernel)) ggL_law_L_isSteady
