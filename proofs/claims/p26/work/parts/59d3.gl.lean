set_option maxRecDepth 20000 in
theorem gq_isGotSo_h : GoodIn wsL_law [Cond.code yL_isGotSo cL_isGotSo 15 (some .boolean)] := goodIn_r _ [351] (by decide +kernel) (by decide +kernel)
set_option maxRecDepth 20000 in
theorem gq_isGotSo_wsL_isGotSo_r1 : GoodIn wsL_law wsL_isGotSo_r1 := goodIn_r _ [352, 353, 354, 2, 355, 74, 75, 76, 77, 78, 79, 12, 80, 81, 82, 11, 83, 40, 273, 274, 275, 121, 122, 168] (by decide +kernel) (by decide +kernel)
set_option maxRecDepth 20000 in
theorem gq_isGotSo_wsL_isGotSo_r2 : GoodIn wsL_law wsL_isGotSo_r2 := goodIn_r _ [169, 170, 356, 357, 358, 359, 27, 360, 108, 109, 26, 110, 111, 112, 45, 46, 113, 114, 115, 116, 96, 97, 98, 99] (by decide +kernel) (by decide +kernel)
set_option maxRecDepth 20000 in
theorem gq_isGotSo_wsL_isGotSo_r3 : GoodIn wsL_law wsL_isGotSo_r3 := goodIn_r _ [100, 101, 102, 103, 104, 105, 361, 281, 282, 283, 36, 284, 285, 286, 287, 288, 229, 230, 202, 129, 130, 131, 37, 362] (by decide +kernel) (by decide +kernel)
set_option maxRecDepth 20000 in
theorem gq_isGotSo_wsL_isGotSo_r4 : GoodIn wsL_law wsL_isGotSo_r4 := goodIn_r _ [290, 291, 292, 293, 294, 295, 296, 258, 259, 260, 192, 193, 194, 195, 196, 197, 246, 247, 248, 249, 231, 232, 250, 251] (by decide +kernel) (by decide +kernel)
set_option maxRecDepth 20000 in
theorem gq_isGotSo_wsL_isGotSo_r5 : GoodIn wsL_law wsL_isGotSo_r5 := goodIn_r _ [252, 253, 254, 255, 256, 257, 261, 262, 263, 264, 265, 266, 267, 268, 363, 364, 365, 366, 31, 309, 310, 311, 312, 217] (by decide +kernel) (by decide +kernel)
set_option maxRecDepth 20000 in
theorem gq_isGotSo_wsL_isGotSo_r6 : GoodIn wsL_law wsL_isGotSo_r6 := goodIn_r _ [218, 219, 220, 221, 222, 223, 30, 224, 69, 68, 225, 226, 227, 228, 233, 234, 235, 236, 313, 188, 189, 190, 191, 300] (by decide +kernel) (by decide +kernel)
set_option maxRecDepth 20000 in
theorem gq_isGotSo_wsL_isGotSo_r7 : GoodIn wsL_law wsL_isGotSo_r7 := goodIn_r _ [301, 302, 303, 304, 305, 306, 307, 207, 308, 184, 185, 186, 187, 367, 368, 369, 370, 371, 322, 323, 324, 325, 372, 373] (by decide +kernel) (by decide +kernel)
set_option maxRecDepth 20000 in
theorem gq_isGotSo_wsL_isGotSo_r8 : GoodIn wsL_law wsL_isGotSo_r8 := goodIn_r _ [374, 375, 376, 377, 378, 379, 380, 314, 315, 146, 316, 164, 165, 166, 167, 171, 172, 173, 174, 16, 175, 176, 177, 178] (by decide +kernel) (by decide +kernel)
set_option maxRecDepth 20000 in
theorem gq_isGotSo_wsL_isGotSo_r9 : GoodIn wsL_law wsL_isGotSo_r9 := goodIn_r _ [179, 180, 181, 182, 183, 198, 199, 200, 201, 346, 347, 348, 342, 343, 344, 345, 124, 125, 126, 127, 128, 70, 71, 72] (by decide +kernel) (by decide +kernel)
set_option maxRecDepth 20000 in
theorem gq_isGotSo_wsL_isGotSo_r10 : GoodIn wsL_law wsL_isGotSo_r10 := goodIn_r _ [73, 84, 85, 86, 15, 87, 54, 53, 88, 89, 90, 91, 52, 92, 93, 94, 95, 38, 106, 107, 269, 270, 271, 272] (by decide +kernel) (by decide +kernel)
set_option maxRecDepth 20000 in
theorem gq_isGotSo_wsL_isGotSo_r11 : GoodIn wsL_law wsL_isGotSo_r11 := goodIn_r _ [276, 277, 278, 279, 280, 289, 381, 382, 383, 384, 385, 386, 387, 388, 389, 390] (by decide +kernel) (by decide +kernel)
set_option maxRecDepth 20000 in
theorem gq_isGotSo_wsX50 : GoodIn wsL_law wsX50 := goodIn_r _ [410, 411, 412, 413, 414, 415, 416] (by decide +kernel) (by decide +kernel)
set_option maxRecDepth 20000 in
theorem gq_isGotSo_wsX40 : GoodIn wsL_law wsX40 := goodIn_r _ [417, 418, 419, 420] (by decide +kernel) (by decide +kernel)
set_option maxRecDepth 20000 in
theorem gq_isGotSo_wsX30 : GoodIn wsL_law wsX30 := goodIn_r _ [427, 428, 429, 430, 431, 432, 433, 434] (by decide +kernel) (by decide +kernel)
set_option maxRecDepth 20000 in
theorem gq_isGotSo_wsX00 : GoodIn wsL_law wsX00 := goodIn_r _ [435, 436] (by decide +kernel) (by decide +kernel)
set_option maxRecDepth 20000 in
theorem gq_isGotSo_wsX10 : GoodIn wsL_law wsX10 := goodIn_r _ [421, 422, 423] (by decide +kernel) (by decide +kernel)
set_option maxRecDepth 20000 in
theorem ggL_law_L_isGotSo : GoodIn wsL_law wsL_isGotSo := goodIn_app gq_isGotSo_h (goodIn_app (goodIn_app (goodIn_app (goodIn_app (goodIn_app (goodIn_app (goodIn_app (goodIn_app (goodIn_app gq_isGotSo_wsL_isGotSo_r1 (goodIn_app gq_isGotSo_wsL_isGotSo_r2 (goodIn_app gq_isGotSo_wsL_isGotSo_r3 (goodIn_app gq_isGotSo_wsL_isGotSo_r4 (goodIn_app gq_isGotSo_wsL_isGotSo_r5 (goodIn_app gq_isGotSo_wsL_isGotSo_r6 (goodIn_app gq_isGotSo_wsL_isGotSo_r7 (goodIn_app gq_isGotSo_wsL_isGotSo_r8 (goodIn_app gq_isGotSo_wsL_isGotSo_r9 (goodIn_app gq_isGotSo_wsL_isGotSo_r10 (gq_isGotSo_wsL_isGotSo_r11))))))))))) gq_isGotSo_wsX50) gq_isGotSo_wsX40) gq_isGotSo_wsX30) gq_isGotSo_wsX00) gq_isGotSo_wsX10) (goodIn_sub (fun _ h => List.mem_append_left _ (List.mem_append_left _ (List.mem_append_right _ h))) (by decide +kernel))) (goodIn_sub (fun _ h => List.mem_append_left _ (List.mem_append_right _ h)) (by decide +kernel))) (goodIn_sub (fun _ h => List.mem_append_right _ h) (by decide +kernel)))
set_option maxRecDepth 20000 in
theorem gL_law_L_isGotSo : GoodIn wsL_law (va_wsS RL 96 yL_isGotSo wsL_isGotSo) := goodIn_app (goodIn_of _ (by decide +kernel)) ggL_law_L_isGotSo
