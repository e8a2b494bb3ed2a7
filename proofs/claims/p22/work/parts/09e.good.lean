set_option maxRecDepth 20000 in
theorem ggL_acts_L_pass_1 : GoodIn wsL_acts ((.codeWith yL_pass cL_pass 3 (some .int) [(0, 5, 6, 16), (0, 5, 10, 19)]) :: wsL_pass_r1) := goodIn_r _ [262, 14, 15, 10, 9, 263, 264, 265, 19, 266, 21, 22, 23, 24, 78, 26, 27, 28, 267, 268, 269, 270, 271, 103, 25] (by decide +kernel) (by decide +kernel)
set_option maxRecDepth 20000 in
theorem ggL_acts_L_pass_2 : GoodIn wsL_acts wsL_pass_r2 := goodIn_r _ [77, 111, 112, 113, 114, 115, 116, 272, 273, 274, 275, 121, 276, 277, 278, 279, 280, 281, 282, 283, 284, 285, 286, 287] (by decide +kernel) (by decide +kernel)
set_option maxRecDepth 20000 in
theorem ggL_acts_L_pass_3 : GoodIn wsL_acts wsL_pass_r3 := goodIn_r _ [288, 289, 290, 291, 292, 293, 294, 295, 32, 296, 39, 297, 298, 299, 300, 239, 301, 302, 303, 304, 305, 306, 307, 308] (by decide +kernel) (by decide +kernel)
set_option maxRecDepth 20000 in
theorem ggL_acts_L_pass_4 : GoodIn wsL_acts wsL_pass_r4 := goodIn_r _ [40, 309, 310, 311, 82, 312, 91, 313, 314, 315, 316, 317, 318, 319, 320, 321, 34, 61, 158, 322, 323, 324, 325, 326] (by decide +kernel) (by decide +kernel)
set_option maxRecDepth 20000 in
theorem ggL_acts_L_pass_5 : GoodIn wsL_acts wsL_pass_r5 := goodIn_r _ [84, 89, 90, 231, 327, 58, 59, 60, 328, 329, 330, 331, 259, 332, 333, 334, 335, 29, 30, 31, 33, 150, 151, 152] (by decide +kernel) (by decide +kernel)
set_option maxRecDepth 20000 in
theorem ggL_acts_L_pass_6 : GoodIn wsL_acts wsL_pass_r6 := goodIn_r _ [153, 41, 79, 80, 81, 83, 336, 337, 338, 339, 340, 194, 195, 196, 92, 341, 342, 343, 344, 227, 228, 229, 230, 142] (by decide +kernel) (by decide +kernel)
set_option maxRecDepth 20000 in
theorem ggL_acts_L_pass_7 : GoodIn wsL_acts wsL_pass_r7 := goodIn_r _ [345] (by decide +kernel) (by decide +kernel)
set_option maxRecDepth 20000 in
theorem ggL_acts_L_pass_x4 : GoodIn wsL_acts wsX40 := goodIn_r _ [437, 438, 439, 440, 441, 442, 443, 444, 445, 446] (by decide +kernel) (by decide +kernel)
set_option maxRecDepth 20000 in
theorem ggL_acts_L_pass_x0 : GoodIn wsL_acts wsX00 := goodIn_r _ [462, 463] (by decide +kernel) (by decide +kernel)
set_option maxRecDepth 20000 in
theorem ggL_acts_L_pass_x1 : GoodIn wsL_acts wsX10 := goodIn_r _ [447, 448, 449, 450, 451, 452] (by decide +kernel) (by decide +kernel)
set_option maxRecDepth 20000 in
theorem ggL_acts_L_pass_x2 : GoodIn wsL_acts wsX20 := goodIn_r _ [453, 454, 455, 456, 457, 458, 459, 460, 461] (by decide +kernel) (by decide +kernel)
set_option maxRecDepth 20000 in
theorem ggL_acts_L_pass : GoodIn wsL_acts wsL_pass := goodIn_ca (goodIn_ca (goodIn_ca (goodIn_ca (goodIn_ca (goodIn_ca (goodIn_ca ggL_acts_L_pass_1 (goodIn_app ggL_acts_L_pass_2 (goodIn_app ggL_acts_L_pass_3 (goodIn_app ggL_acts_L_pass_4 (goodIn_app ggL_acts_L_pass_5 (goodIn_app ggL_acts_L_pass_6 ggL_acts_L_pass_7)))))) ggL_acts_L_pass_x4) ggL_acts_L_pass_x0) ggL_acts_L_pass_x1) ggL_acts_L_pass_x2) (goodIn_sub (fun _ h => List.mem_cons_of_mem _ (List.mem_append_left _ (List.mem_append_left _ (List.mem_append_right _ h)))) (by decide +kernel))) (goodIn_sub (fun _ h => List.mem_cons_of_mem _ (List.mem_append_left _ (List.mem_append_right _ h))) (by decide +kernel))
set_option maxRecDepth 20000 in
theorem gL_acts_L_pass : GoodIn wsL_acts (va_wsS RL 145 yL_pass wsL_pass) := goodIn_app (goodIn_of _ (by decide +kernel)) ggL_acts_L_pass
set_option maxRecDepth 20000 in
theorem ggL_acts_L_areRings_1 : GoodIn wsL_acts ((.code yL_areRings cL_areRings 13 (some .boolean)) :: wsL_areRings_r1) := goodIn_r _ [371, 46, 10, 372, 373, 3, 374, 45, 14, 375, 376, 377, 19, 378, 51, 52, 21, 22, 77, 299, 300, 239, 301, 302, 303] (by decide +kernel) (by decide +kernel)
set_option maxRecDepth 20000 in
theorem ggL_acts_L_areRings_2 : GoodIn wsL_acts wsL_areRings_r2 := goodIn_r _ [304, 360, 361, 362, 363, 248, 249, 250, 251, 78, 26, 27, 28, 104, 105, 106, 82, 107, 84, 340, 194, 195, 196, 92] (by decide +kernel) (by decide +kernel)
set_option maxRecDepth 20000 in
theorem ggL_acts_L_areRings_3 : GoodIn wsL_acts wsL_areRings_r3 := goodIn_r _ [379, 202, 203, 204, 205, 206, 207, 208, 89, 90, 380, 224, 225, 226, 227, 228, 229, 230, 231, 142, 232, 220, 221, 222] (by decide +kernel) (by decide +kernel)
set_option maxRecDepth 20000 in
theorem ggL_acts_L_areRings_4 : GoodIn wsL_acts wsL_areRings_r4 := goodIn_r _ [381, 382, 383, 384, 385, 386, 387, 388, 389, 241, 242, 243, 244, 245, 246, 247, 179, 180, 181, 182, 183, 184, 185, 186] (by decide +kernel) (by decide +kernel)
set_option maxRecDepth 20000 in
theorem ggL_acts_L_areRings_5 : GoodIn wsL_acts wsL_areRings_r5 := goodIn_r _ [187, 188, 189, 190, 191, 192, 80, 81, 83, 193, 197, 198, 199, 200, 201, 209, 210, 211, 212, 213, 214, 215, 216, 217] (by decide +kernel) (by decide +kernel)
set_option maxRecDepth 20000 in
theorem ggL_acts_L_areRings_6 : GoodIn wsL_acts wsL_areRings_r6 := goodIn_r _ [218, 219, 223, 233, 234, 235, 236, 237, 238, 240, 390, 391, 392, 393, 394, 395, 396, 79, 397, 398, 399, 400, 401, 402] (by decide +kernel) (by decide +kernel)
set_option maxRecDepth 20000 in
theorem ggL_acts_L_areRings_7 : GoodIn wsL_acts wsL_areRings_r7 := goodIn_r _ [403, 404, 405, 406, 407, 408, 409, 410, 411, 412, 413, 414, 415] (by decide +kernel) (by decide +kernel)
set_option maxRecDepth 20000 in
theorem ggL_acts_L_areRings_x4 : GoodIn wsL_acts wsX40 := goodIn_r _ [437, 438, 439, 440, 441, 442, 443, 444, 445, 446] (by decide +kernel) (by decide +kernel)
set_option maxRecDepth 20000 in
theorem ggL_acts_L_areRings_x2 : GoodIn wsL_acts wsX20 := goodIn_r _ [453, 454, 455, 456, 457, 458, 459, 460, 461] (by decide +kernel) (by decide +kernel)
set_option maxRecDepth 20000 in
theorem ggL_acts_L_areRings_x3 : GoodIn wsL_acts wsX30 := goodIn_r _ [464, 465, 466, 467, 468, 469, 470, 471, 472, 473, 474, 475] (by decide +kernel) (by decide +kernel)
set_option maxRecDepth 20000 in
theorem ggL_acts_L_areRings : GoodIn wsL_acts wsL_areRings := goodIn_ca (goodIn_ca (goodIn_ca (goodIn_ca (goodIn_ca (goodIn_ca ggL_acts_L_areRings_1 (goodIn_app ggL_acts_L_areRings_2 (goodIn_app ggL_acts_L_areRings_3 (goodIn_app ggL_acts_L_areRings_4 (goodIn_app ggL_acts_L_areRings_5 (goodIn_app ggL_acts_L_areRings_6 ggL_acts_L_areRings_7)))))) ggL_acts_L_areRings_x4) ggL_acts_L_areRings_x2) ggL_acts_L_areRings_x3) (goodIn_sub (fun _ h => List.mem_cons_of_mem _ (List.mem_append_right _ h)) (by decide +kernel))) (goodIn_sub (fun _ h => List.mem_cons_of_mem _ (List.mem_append_left _ (List.mem_append_left _ (List.mem_append_right _ h)))) (by decide +kernel))
set_option maxRecDepth 20000 in
theorem gL_acts_L_areRings : GoodIn wsL_acts (va_wsS RL 154 yL_areRings wsL_areRings) := goodIn_app (goodIn_of _ (by decide +kernel)) ggL_acts_L_areRings
set_option maxRecDepth 20000 in
theorem ggL_acts_L_isSteady_1 : GoodIn wsL_acts ((.code yL_isSteady cL_isSteady 10 (some .boolean)) :: wsL_isSteady_r1) := goodIn_r _ [418, 46, 419, 420, 3, 421, 45, 422, 423, 424, 19, 425, 51, 52, 271, 248, 249, 250, 251, 78, 26, 27, 28, 426, 427] (by decide +kernel) (by decide +kernel)
set_option maxRecDepth 20000 in
theorem ggL_acts_L_isSteady_2 : GoodIn wsL_acts wsL_isSteady_r2 := goodIn_r _ [428, 429, 328, 329, 330, 331, 259, 332, 333, 334, 335, 25, 77, 29, 30, 31, 32, 33, 34, 150, 151, 152, 153, 41] (by decide +kernel) (by decide +kernel)
set_option maxRecDepth 20000 in
theorem ggL_acts_L_isSteady_3 : GoodIn wsL_acts wsL_isSteady_r3 := goodIn_r _ [79, 80, 81, 82, 83, 84, 336, 337, 338, 339, 89, 90, 340, 194, 195, 196, 92, 341, 342, 343, 344, 227, 228, 229] (by decide +kernel) (by decide +kernel)
set_option maxRecDepth 20000 in
theorem ggL_acts_L_isSteady_4 : GoodIn wsL_acts wsL_isSteady_r4 := goodIn_r _ [230, 231, 142, 345, 297, 298, 299, 300, 239, 301, 302, 303, 304, 430, 431, 432, 433, 434, 435, 436] (by decide +kernel) (by decide +kernel)
set_option maxRecDepth 20000 in
theorem ggL_acts_L_isSteady_x4 : GoodIn wsL_acts wsX40 := goodIn_r _ [437, 438, 439, 440, 441, 442, 443, 444, 445, 446] (by decide +kernel) (by decide +kernel)
set_option maxRecDepth 20000 in
theorem ggL_acts_L_isSteady_x1 : GoodIn wsL_acts wsX10 := goodIn_r _ [447, 448, 449, 450, 451, 452] (by decide +kernel) (by decide +kernel)
set_option maxRecDepth 20000 in
theorem ggL_acts_L_isSteady_x2 : GoodIn wsL_acts wsX20 := goodIn_r _ [453, 454, 455, 456, 457, 458, 459, 460, 461] (by decide +kernel) (by decide +kernel)
set_option maxRecDepth 20000 in
theorem ggL_acts_L_isSteady : GoodIn wsL_acts wsL_isSteady := goodIn_ca (goodIn_ca (goodIn_ca (goodIn_ca (goodIn_ca ggL_acts_L_isSteady_1 (goodIn_app ggL_acts_L_isSteady_2 (goodIn_app ggL_acts_L_isSteady_3 ggL_acts_L_isSteady_4))) ggL_acts_L_isSteady_x4) ggL_acts_L_isSteady_x1) ggL_acts_L_isSteady_x2) (goodIn_sub (fun _ h => List.mem_cons_of_mem _ (List.mem_append_right _ h)) (by decide +kernel))
set_option maxRecDepth 20000 in
theorem gL_acts_L_isSteady : GoodIn wsL_acts (va_wsS RL 157 yL_isSteady wsL_isSteady) := goodIn_app (goodIn_of _ (by decide +kernel)) ggL_acts_L_isSteady
