set_option maxRecDepth 20000 in
theorem ggL_law_L_acts_1 : GoodIn wsL_law ((.code yL_acts cL_acts 11 (some .boolean)) :: wsL_acts_r1) := goodIn_r _ [87, 88, 89, 81, 90, 91, 92, 93, 94, 95, 96, 97, 98, 99, 100, 101, 102, 103, 104, 2, 105, 106, 107, 108, 109] (by decide +kernel) (by decide +kernel)
set_option maxRecDepth 20000 in
theorem ggL_law_L_acts_2 : GoodIn wsL_law wsL_acts_r2 := goodIn_r _ [13, 110, 111, 112, 113, 114, 115, 12, 116, 41, 117, 118, 119, 120, 36, 39, 38, 121, 122, 123, 124, 125, 126, 127] (by decide +kernel) (by decide +kernel)
set_option maxRecDepth 20000 in
theorem ggL_law_L_acts_3 : GoodIn wsL_law wsL_acts_r3 := goodIn_r _ [128, 129, 130, 131, 132, 133, 134, 135, 136, 137, 138, 139, 40, 140, 141, 142, 143, 144, 145, 146, 147, 148, 149, 150] (by decide +kernel) (by decide +kernel)
set_option maxRecDepth 20000 in
theorem ggL_law_L_acts_4 : GoodIn wsL_law wsL_acts_r4 := goodIn_r _ [151, 152, 153, 154, 17, 29, 155, 156, 157, 16, 158, 54, 159, 160, 161, 162, 45, 46, 47, 49, 163, 164, 165, 166] (by decide +kernel) (by decide +kernel)
set_option maxRecDepth 20000 in
theorem ggL_law_L_acts_5 : GoodIn wsL_law wsL_acts_r5 := goodIn_r _ [167, 168, 169, 170, 171, 172, 21, 173, 174, 175, 176, 177, 178, 179, 180, 181, 182, 20, 183, 59, 184, 185, 186, 187] (by decide +kernel) (by decide +kernel)
set_option maxRecDepth 20000 in
theorem ggL_law_L_acts_6 : GoodIn wsL_law wsL_acts_r6 := goodIn_r _ [58, 188, 189, 190, 191, 192, 193, 194, 195, 196, 197, 198, 199, 200, 201, 202, 50, 203, 204, 205, 206, 53, 207, 208] (by decide +kernel) (by decide +kernel)
set_option maxRecDepth 20000 in
theorem ggL_law_L_acts_7 : GoodIn wsL_law wsL_acts_r7 := goodIn_r _ [209, 210, 211, 212, 213, 214, 215, 216, 217, 218, 219, 220, 221, 37, 222, 223, 224, 225, 226, 227, 228, 28, 229, 230] (by decide +kernel) (by decide +kernel)
set_option maxRecDepth 20000 in
theorem ggL_law_L_acts_8 : GoodIn wsL_law wsL_acts_r8 := goodIn_r _ [231, 232, 233, 234, 235, 236, 237, 238, 239, 32, 240, 241, 242, 243, 25, 30, 244, 245, 246, 24, 247, 69, 70, 248] (by decide +kernel) (by decide +kernel)
set_option maxRecDepth 20000 in
theorem ggL_law_L_acts_9 : GoodIn wsL_law wsL_acts_r9 := goodIn_r _ [249, 250, 251, 252, 253, 254, 255, 256, 257, 258, 259, 260, 261, 262, 263, 264, 265, 266, 267, 268, 63, 64, 65, 66] (by decide +kernel) (by decide +kernel)
set_option maxRecDepth 20000 in
theorem ggL_law_L_acts_10 : GoodIn wsL_law wsL_acts_r10 := goodIn_r _ [67, 68, 269, 270, 271, 272, 273, 274, 275, 276, 277, 278, 279, 280, 52, 281, 282, 283, 284, 285, 286, 287, 288, 289] (by decide +kernel) (by decide +kernel)
set_option maxRecDepth 20000 in
theorem ggL_law_L_acts_11 : GoodIn wsL_law wsL_acts_r11 := goodIn_r _ [290, 291, 292, 293, 294, 295, 296, 297, 298, 299, 300, 301, 302, 303, 304, 305, 306, 307, 31, 308, 309, 310, 311, 312] (by decide +kernel) (by decide +kernel)
set_option maxRecDepth 20000 in
theorem ggL_law_L_acts_12 : GoodIn wsL_law wsL_acts_r12 := goodIn_r _ [313, 314, 315, 316, 317, 318, 26, 319, 320, 321, 322, 323, 324, 325, 326, 327, 328, 329, 330, 331, 332, 333, 334, 335] (by decide +kernel) (by decide +kernel)
set_option maxRecDepth 20000 in
theorem ggL_law_L_acts_13 : GoodIn wsL_law wsL_acts_r13 := goodIn_r _ [336, 337, 338, 339, 340, 341, 342, 343, 344, 345, 346, 347, 348, 349, 350, 351, 352, 353, 354, 355, 356, 357, 358, 359] (by decide +kernel) (by decide +kernel)
set_option maxRecDepth 20000 in
theorem ggL_law_L_acts_14 : GoodIn wsL_law wsL_acts_r14 := goodIn_r _ [360, 361, 362, 363, 48, 364, 365, 366, 367, 368, 369, 370, 371, 372, 373, 374, 375, 376, 377, 378, 379, 380, 381, 382] (by decide +kernel) (by decide +kernel)
set_option maxRecDepth 20000 in
theorem ggL_law_L_acts_15 : GoodIn wsL_law wsL_acts_r15 := goodIn_r _ [383, 384, 385, 386, 387, 388, 389, 390, 391, 75, 76, 77, 78, 392, 393, 394, 395, 396, 397, 398, 399, 400, 401, 402] (by decide +kernel) (by decide +kernel)
set_option maxRecDepth 20000 in
theorem ggL_law_L_acts_16 : GoodIn wsL_law wsL_acts_r16 := goodIn_r _ [403, 404, 405, 406, 407, 408, 409, 410, 411, 412, 413, 414, 415, 416, 417, 418, 419, 420, 421, 422, 423, 424, 425, 426] (by decide +kernel) (by decide +kernel)
set_option maxRecDepth 20000 in
theorem ggL_law_L_acts_17 : GoodIn wsL_law wsL_acts_r17 := goodIn_r _ [427, 428, 429, 430, 431, 432, 433, 434, 435, 436, 437, 438, 439, 440, 441, 442, 72, 73, 74, 443, 444, 445, 71, 446] (by decide +kernel) (by decide +kernel)
set_option maxRecDepth 20000 in
theorem ggL_law_L_acts_18 : GoodIn wsL_law wsL_acts_r18 := goodIn_r _ [447, 448, 449, 450, 451, 452, 453, 454, 455, 456, 457, 458, 459, 460, 461, 462, 463, 464, 465, 466, 467, 468, 469, 470] (by decide +kernel) (by decide +kernel)
set_option maxRecDepth 20000 in
theorem ggL_law_L_acts_19 : GoodIn wsL_law wsL_acts_r19 := goodIn_r _ [471, 472, 473, 474] (by decide +kernel) (by decide +kernel)
set_option maxRecDepth 20000 in
theorem ggL_law_L_acts_x4 : GoodIn wsL_law wsX40 := goodIn_r _ [475, 476, 477, 478, 479, 480, 481, 482, 483, 484] (by decide +kernel) (by decide +kernel)
set_option maxRecDepth 20000 in
theorem ggL_law_L_acts_x1 : GoodIn wsL_law wsX10 := goodIn_r _ [485, 486, 487, 488, 489, 490] (by decide +kernel) (by decide +kernel)
set_option maxRecDepth 20000 in
theorem ggL_law_L_acts_x2 : GoodIn wsL_law wsX20 := goodIn_r _ [491, 492, 493, 494, 495, 496, 497, 498, 499] (by decide +kernel) (by decide +kernel)
set_option maxRecDepth 20000 in
theorem ggL_law_L_acts_x0 : GoodIn wsL_law wsX00 := goodIn_r _ [500, 501] (by decide +kernel) (by decide +kernel)
set_option maxRecDepth 20000 in
theorem ggL_law_L_acts_x3 : GoodIn wsL_law wsX30 := goodIn_r _ [502, 503, 504, 505, 506, 507, 508, 509, 510, 511, 512, 513] (by decide +kernel) (by decide +kernel)
set_option maxRecDepth 20000 in
theorem ggL_law_L_acts : GoodIn wsL_law wsL_acts := goodIn_ca (goodIn_ca (goodIn_ca (goodIn_ca (goodIn_ca (goodIn_ca (goodIn_ca (goodIn_ca (goodIn_ca ggL_law_L_acts_1 (goodIn_app ggL_law_L_acts_2 (goodIn_app ggL_law_L_acts_3 (goodIn_app ggL_law_L_acts_4 (goodIn_app ggL_law_L_acts_5 (goodIn_app ggL_law_L_acts_6 (goodIn_app ggL_law_L_acts_7 (goodIn_app ggL_law_L_acts_8 (goodIn_app ggL_law_L_acts_9 (goodIn_app ggL_law_L_acts_10 (goodIn_app ggL_law_L_acts_11 (goodIn_app ggL_law_L_acts_12 (goodIn_app ggL_law_L_acts_13 (goodIn_app ggL_law_L_acts_14 (goodIn_app ggL_law_L_acts_15 (goodIn_app ggL_law_L_acts_16 (goodIn_app ggL_law_L_acts_17 (goodIn_app ggL_law_L_acts_18 ggL_law_L_acts_19)))))))))))))))))) ggL_law_L_acts_x4) ggL_law_L_acts_x1) ggL_law_L_acts_x2) ggL_law_L_acts_x0) ggL_law_L_acts_x3) (goodIn_sub (fun _ h => List.mem_append_left _ (List.mem_append_left _ (List.mem_append_right _ h))) (by decide +kernel))) (goodIn_sub (fun _ h => List.mem_append_left _ (List.mem_append_right _ h)) (by decide +kernel))) (goodIn_sub (fun _ h => List.mem_append_right _ h) (by decide +kernel))
set_option maxRecDepth 20000 in
theorem gL_law_L_acts : GoodIn wsL_law (va_wsS RL 166 yL_acts wsL_acts) := goodIn_app (goodIn_of _ (by decide +kernel)) ggL_law_L_acts
