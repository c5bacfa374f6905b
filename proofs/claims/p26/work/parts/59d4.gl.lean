set_option maxRecDepth 20000 in
theorem gq_isNeedSo_h : GoodIn wsL_law [Cond.code yL_isNeedSo cL_isNeedSo 16 (some .boolean)] := goodIn_r _ [393] (by decide +kernel) (by decide +kernel)
set_option maxRecDepth 20000 in
theorem gq_isNeedSo_wsL_isNeedSo_r1 : GoodIn wsL_law wsL_isNeedSo_r1 := goodIn_r _ [0, 1, 2, 394, 395, 396, 397, 74, 75, 76, 77, 78, 79, 12, 80, 81, 82, 11, 83, 40, 398, 399, 400, 401] (by decide +kernel) (by decide +kernel)
set_option maxRecDepth 20000 in
theorem gq_isNeedSo_wsL_isNeedSo_r2 : GoodIn wsL_law wsL_isNeedSo_r2 := goodIn_r _ [27, 31, 360, 108, 109, 26, 110, 111, 112, 45, 46, 113, 114, 115, 116, 96, 97, 98, 99, 100, 101, 102, 103, 104] (by decide +kernel) (by decide +kernel)
set_option maxRecDepth 20000 in
theorem gq_isNeedSo_wsL_isNeedSo_r3 : GoodIn wsL_law wsL_isNeedSo_r3 := goodIn_r _ [105, 213, 214, 215, 216, 217, 218, 219, 220, 221, 222, 223, 30, 224, 69, 68, 225, 226, 227, 228, 229, 230, 231, 232] (by decide +kernel) (by decide +kernel)
set_option maxRecDepth 20000 in
theorem gq_isNeedSo_wsL_isNeedSo_r4 : GoodIn wsL_law wsL_isNeedSo_r4 := goodIn_r _ [233, 234, 235, 236, 192, 193, 194, 195, 196, 197, 237, 238, 239, 240, 241, 242, 243, 244, 245, 246, 247, 248, 249, 250] (by decide +kernel) (by decide +kernel)
set_option maxRecDepth 20000 in
theorem gq_isNeedSo_wsL_isNeedSo_r5 : GoodIn wsL_law wsL_isNeedSo_r5 := goodIn_r _ [251, 252, 253, 254, 255, 256, 257, 258, 259, 260, 261, 262, 263, 264, 265, 266, 267, 268, 300, 301, 302, 303, 168, 169] (by decide +kernel) (by decide +kernel)
set_option maxRecDepth 20000 in
theorem gq_isNeedSo_wsL_isNeedSo_r6 : GoodIn wsL_law wsL_isNeedSo_r6 := goodIn_r _ [170, 121, 122, 304, 305, 306, 307, 207, 188, 189, 190, 191, 308, 184, 185, 186, 36, 187, 309, 310, 311, 312, 313, 209] (by decide +kernel) (by decide +kernel)
set_option maxRecDepth 20000 in
theorem gq_isNeedSo_wsL_isNeedSo_r7 : GoodIn wsL_law wsL_isNeedSo_r7 := goodIn_r _ [210, 211, 212, 16, 84, 85, 86, 15, 87, 54, 53, 88, 89, 90, 91, 52, 92, 93, 94, 95, 38, 37, 106, 107] (by decide +kernel) (by decide +kernel)
set_option maxRecDepth 20000 in
theorem gq_isNeedSo_wsL_isNeedSo_r8 : GoodIn wsL_law wsL_isNeedSo_r8 := goodIn_r _ [381, 382, 383, 384, 385, 386, 387, 388, 389, 390, 402, 403, 404, 405, 406, 407, 408, 409, 361, 281, 282, 283, 284, 285] (by decide +kernel) (by decide +kernel)
set_option maxRecDepth 20000 in
theorem gq_isNeedSo_wsL_isNeedSo_r9 : GoodIn wsL_law wsL_isNeedSo_r9 := goodIn_r _ [286, 287, 288, 202, 129, 130, 131, 362, 290, 291, 292, 293, 294, 295, 296, 3, 4, 5, 6, 7, 8, 9, 10, 13] (by decide +kernel) (by decide +kernel)
set_option maxRecDepth 20000 in
theorem gq_isNeedSo_wsL_isNeedSo_r10 : GoodIn wsL_law wsL_isNeedSo_r10 := goodIn_r _ [14, 17, 18, 19, 20, 21, 22, 23, 24, 25, 28, 29, 32, 33, 34, 35, 39, 41, 42, 43, 44, 47, 48, 49] (by decide +kernel) (by decide +kernel)
set_option maxRecDepth 20000 in
theorem gq_isNeedSo_wsL_isNeedSo_r11 : GoodIn wsL_law wsL_isNeedSo_r11 := goodIn_r _ [50, 51, 55, 56, 57, 58, 59, 60, 61, 62, 63, 64, 65, 66, 67, 164, 165, 166, 167, 171, 172, 173, 174, 175] (by decide +kernel) (by decide +kernel)
set_option maxRecDepth 20000 in
theorem gq_isNeedSo_wsL_isNeedSo_r12 : GoodIn wsL_law wsL_isNeedSo_r12 := goodIn_r _ [176, 177, 178, 179, 180, 181, 182, 183, 198, 199, 200, 201, 156, 157, 158, 159, 160, 161, 162, 163, 136, 137, 138, 139] (by decide +kernel) (by decide +kernel)
set_option maxRecDepth 20000 in
theorem gq_isNeedSo_wsL_isNeedSo_r13 : GoodIn wsL_law wsL_isNeedSo_r13 := goodIn_r _ [140, 141, 142, 143, 70, 71, 72, 73, 342, 343, 344, 345, 124, 125, 126, 127, 128, 117, 118, 119, 120, 123, 132, 133] (by decide +kernel) (by decide +kernel)
set_option maxRecDepth 20000 in
theorem gq_isNeedSo_wsL_isNeedSo_r14 : GoodIn wsL_law wsL_isNeedSo_r14 := goodIn_r _ [134, 135, 269, 270, 271, 272, 273, 274, 275, 276, 277, 278, 279, 280, 289] (by decide +kernel) (by decide +kernel)
set_option maxRecDepth 20000 in
theorem gq_isNeedSo_wsX50 : GoodIn wsL_law wsX50 := goodIn_r _ [410, 411, 412, 413, 414, 415, 416] (by decide +kernel) (by decide +kernel)
set_option maxRecDepth 20000 in
theorem gq_isNeedSo_wsX40 : GoodIn wsL_law wsX40 := goodIn_r _ [417, 418, 419, 420] (by decide +kernel) (by decide +kernel)
set_option maxRecDepth 20000 in
theorem gq_isNeedSo_wsX30 : GoodIn wsL_law wsX30 := goodIn_r _ [427, 428, 429, 430, 431, 432, 433, 434] (by decide +kernel) (by decide +kernel)
set_option maxRecDepth 20000 in
theorem gq_isNeedSo_wsX00 : GoodIn wsL_law wsX00 := goodIn_r _ [435, 436] (by decide +kernel) (by decide +kernel)
set_option maxRecDepth 20000 in
theorem gq_isNeedSo_wsX10 : GoodIn wsL_law wsX10 := goodIn_r _ [421, 422, 423] (by decide +kernel) (by decide +kernel)
set_option maxRecDepth 20000 in
theorem gq_isNeedSo_wsX20 : GoodIn wsL_law wsX20 := goodIn_r _ [424, 425, 426] (by decide +kernel) (by decide +kernel)
set_option maxRecDepth 20000 in
theorem ggL_law_L_isNeedSo : GoodIn wsL_law wsL_isNeedSo := goodIn_app gq_isNeedSo_h (goodIn_app (goodIn_app (goodIn_app (goodIn_app (goodIn_app (goodIn_app (goodIn_app (goodIn_app (goodIn_app (goodIn_app gq_isNeedSo_wsL_isNeedSo_r1 (goodIn_app gq_isNeedSo_wsL_isNeedSo_r2 (goodIn_app gq_isNeedSo_wsL_isNeedSo_r3 (goodIn_app gq_isNeedSo_wsL_isNeedSo_r4 (goodIn_app gq_isNeedSo_wsL_isNeedSo_r5 (goodIn_app gq_isNeedSo_wsL_isNeedSo_r6 (goodIn_app gq_isNeedSo_wsL_isNeedSo_r7 (goodIn_app gq_isNeedSo_wsL_isNeedSo_r8 (goodIn_app gq_isNeedSo_wsL_isNeedSo_r9 (goodIn_app gq_isNeedSo_wsL_isNeedSo_r10 (goodIn_app gq_isNeedSo_wsL_isNeedSo_r11 (goodIn_app gq_isNeedSo_wsL_isNeedSo_r12 (goodIn_app gq_isNeedSo_wsL_isNeedSo_r13 (gq_isNeedSo_wsL_isNeedSo_r14)))))))))))))) gq_isNeedSo_wsX50) gq_isNeedSo_wsX40) gq_isNeedSo_wsX30) gq_isNeedSo_wsX00) gq_isNeedSo_wsX10) gq_isNeedSo_wsX20) (goodIn_sub (fun _ h => List.mem_append_left _ (List.mem_append_left _ (List.mem_append_right _ h))) (by decide +kernel))) (goodIn_sub (fun _ h => List.mem_append_left _ (List.mem_append_right _ h)) (by decide +kernel))) (goodIn_sub (fun _ h => List.mem_append_right _ h) (by decide +kernel)))
set_option maxRecDepth 20000 in
theorem gL_law_L_isNeedSo : GoodIn wsL_law (va_wsS RL 100 yL_isNeedSo wsL_isNeedSo) := goodIn_app (goodIn_of _ (by decide +kernel)) ggL_law_L_isNeedSo
