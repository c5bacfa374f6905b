set_option maxRecDepth 20000 in
theorem gq_does_h : GoodIn wsL_law [Cond.code yL_does cL_does 3 (some .int)] := goodIn_r _ [150] (by decide +kernel) (by decide +kernel)
set_option maxRecDepth 20000 in
theorem gq_does_wsL_does_r1 : GoodIn wsL_law wsL_does_r1 := goodIn_r _ [151, 152, 153, 146, 154, 155, 156, 157, 158, 2, 159, 121, 122, 16, 12, 84, 85, 86, 15, 87, 54, 53, 88, 89] (by decide +kernel) (by decide +kernel)
set_option maxRecDepth 20000 in
theorem gq_does_wsL_does_r2 : GoodIn wsL_law wsL_does_r2 := goodIn_r _ [90, 91, 52, 92, 93, 94, 11, 95, 36, 38, 37, 40, 96, 97, 98, 99, 100, 101, 102, 103, 104, 105, 106, 81] (by decide +kernel) (by decide +kernel)
set_option maxRecDepth 20000 in
theorem gq_does_wsL_does_r3 : GoodIn wsL_law wsL_does_r3 := goodIn_r _ [82, 83, 107, 108, 109, 26, 110, 111, 112, 45, 46, 113, 114, 115, 116, 160, 161, 162, 163, 136, 137, 138, 139, 140] (by decide +kernel) (by decide +kernel)
set_option maxRecDepth 20000 in
theorem gq_does_wsL_does_r4 : GoodIn wsL_law wsL_does_r4 := goodIn_r _ [141, 142, 143, 164, 165, 166, 167, 168, 169, 170, 171, 172, 173, 174, 175, 176, 177, 178, 179, 180, 181, 182, 183, 184] (by decide +kernel) (by decide +kernel)
set_option maxRecDepth 20000 in
theorem gq_does_wsL_does_r5 : GoodIn wsL_law wsL_does_r5 := goodIn_r _ [185, 186, 187, 188, 189, 190, 191, 192, 193, 194, 195, 196, 197, 198, 199, 200, 201, 202, 129, 130, 131, 117, 118, 119] (by decide +kernel) (by decide +kernel)
set_option maxRecDepth 20000 in
theorem gq_does_wsL_does_r6 : GoodIn wsL_law wsL_does_r6 := goodIn_r _ [120, 123, 124, 125, 126, 127, 78, 79, 128, 132, 133, 134, 135, 70, 71, 72, 73, 74, 75, 76, 77, 80, 203, 204] (by decide +kernel) (by decide +kernel)
set_option maxRecDepth 20000 in
theorem gq_does_wsL_does_r7 : GoodIn wsL_law wsL_does_r7 := goodIn_r _ [205, 206, 207, 208, 209, 210, 211, 212, 31, 213, 214, 215, 216, 217, 218, 219, 220, 221, 222, 223, 30, 224, 69, 68] (by decide +kernel) (by decide +kernel)
set_option maxRecDepth 20000 in
theorem gq_does_wsL_does_r8 : GoodIn wsL_law wsL_does_r8 := goodIn_r _ [225, 226, 227, 228, 229, 230, 231, 232, 233, 234, 235, 236, 237, 238, 239, 240, 241, 242, 243, 244, 245, 246, 247, 248] (by decide +kernel) (by decide +kernel)
set_option maxRecDepth 20000 in
theorem gq_does_wsL_does_r9 : GoodIn wsL_law wsL_does_r9 := goodIn_r _ [249, 250, 251, 252, 253, 254, 255, 256, 257, 258, 259, 260, 261, 262, 263, 264, 265, 266, 267, 268, 269, 270, 271, 272] (by decide +kernel) (by decide +kernel)
set_option maxRecDepth 20000 in
theorem gq_does_wsL_does_r10 : GoodIn wsL_law wsL_does_r10 := goodIn_r _ [273, 274, 275, 276, 277, 278, 279, 280, 281, 282, 283, 284, 285, 286, 287, 288, 289, 290, 291, 292, 293, 294, 295, 296] (by decide +kernel) (by decide +kernel)
set_option maxRecDepth 20000 in
theorem gq_does_wsX50 : GoodIn wsL_law wsX50 := goodIn_r _ [410, 411, 412, 413, 414, 415, 416] (by decide +kernel) (by decide +kernel)
set_option maxRecDepth 20000 in
theorem gq_does_wsX40 : GoodIn wsL_law wsX40 := goodIn_r _ [417, 418, 419, 420] (by decide +kernel) (by decide +kernel)
set_option maxRecDepth 20000 in
theorem gq_does_wsX10 : GoodIn wsL_law wsX10 := goodIn_r _ [421, 422, 423] (by decide +kernel) (by decide +kernel)
set_option maxRecDepth 20000 in
theorem gq_does_wsX30 : GoodIn wsL_law wsX30 := goodIn_r _ [427, 428, 429, 430, 431, 432, 433, 434] (by decide +kernel) (by decide +kernel)
set_option maxRecDepth 20000 in
theorem gq_does_wsX00 : GoodIn wsL_law wsX00 := goodIn_r _ [435, 436] (by decide +kernel) (by decide +kernel)
set_option maxRecDepth 20000 in
theorem ggL_law_L_does : GoodIn wsL_law wsL_does := goodIn_app gq_does_h (goodIn_app (goodIn_app (goodIn_app (goodIn_app (goodIn_app (goodIn_app (goodIn_app (goodIn_app gq_does_wsL_does_r1 (goodIn_app gq_does_wsL_does_r2 (goodIn_app gq_does_wsL_does_r3 (goodIn_app gq_does_wsL_does_r4 (goodIn_app gq_does_wsL_does_r5 (goodIn_app gq_does_wsL_does_r6 (goodIn_app gq_does_wsL_does_r7 (goodIn_app gq_does_wsL_does_r8 (goodIn_app gq_does_wsL_does_r9 (gq_does_wsL_does_r10)))))))))) gq_does_wsX50) gq_does_wsX40) gq_does_wsX10) gq_does_wsX30) gq_does_wsX00) (goodIn_sub (fun _ h => List.mem_append_left _ (List.mem_append_right _ h)) (by decide +kernel))) (goodIn_sub (fun _ h => List.mem_append_left _ (List.mem_append_left _ (List.mem_append_right _ h))) (by decide +kernel)))
set_option maxRecDepth 20000 in
theorem gL_law_L_does : GoodIn wsL_law (va_wsS RL 89 yL_does wsL_does) := goodIn_app (goodIn_of _ (by decide +kernel)) ggL_law_L_does
set_option maxRecDepth 20000 in
theorem gq_isReceiverSo_h : GoodIn wsL_law [Cond.code yL_isReceiverSo cL_isReceiverSo 9 (some .boolean)] := goodIn_r _ [299] (by decide +kernel) (by decide +kernel)
set_option maxRecDepth 20000 in
theorem gq_isReceiverSo_wsL_isReceiverSo_r1 : GoodIn wsL_law wsL_isReceiverSo_r1 := goodIn_r _ [164, 165, 166, 2, 167, 168, 169, 170, 121, 122, 171, 172, 173, 174, 12, 16, 175, 176, 177, 11, 178, 40, 179, 180] (by decide +kernel) (by decide +kernel)
set_option maxRecDepth 20000 in
theorem gq_isReceiverSo_wsL_isReceiverSo_r2 : GoodIn wsL_law wsL_isReceiverSo_r2 := goodIn_r _ [181, 182, 183, 184, 185, 186, 36, 187, 188, 189, 26, 190, 112, 191, 192, 193, 194, 195, 196, 197, 198, 199, 200, 201] (by decide +kernel) (by decide +kernel)
set_option maxRecDepth 20000 in
theorem gq_isReceiverSo_wsL_isReceiverSo_r3 : GoodIn wsL_law wsL_isReceiverSo_r3 := goodIn_r _ [202, 129, 130, 131, 37, 300, 301, 302, 303, 74, 75, 76, 77, 78, 79, 80, 81, 82, 83, 304, 305, 306, 307, 31] (by decide +kernel) (by decide +kernel)
set_option maxRecDepth 20000 in
theorem gq_isReceiverSo_wsL_isReceiverSo_r4 : GoodIn wsL_law wsL_isReceiverSo_r4 := goodIn_r _ [207, 308, 309, 310, 311, 312, 217, 218, 219, 220, 113, 46, 221, 222, 223, 30, 224, 69, 68, 225, 226, 227, 228, 229] (by decide +kernel) (by decide +kernel)
set_option maxRecDepth 20000 in
theorem gq_isReceiverSo_wsL_isReceiverSo_r5 : GoodIn wsL_law wsL_isReceiverSo_r5 := goodIn_r _ [230, 231, 232, 233, 234, 235, 236, 313, 314, 315, 146, 316, 317, 318, 319, 320, 321, 262, 263, 264, 322, 323, 324, 325] (by decide +kernel) (by decide +kernel)
set_option maxRecDepth 20000 in
theorem gq_isReceiverSo_wsL_isReceiverSo_r6 : GoodIn wsL_law wsL_isReceiverSo_r6 := goodIn_r _ [326, 327, 328, 329, 330, 331, 332, 333, 114, 115, 116, 334, 335, 336, 337, 124, 125, 126, 127, 338, 339, 340, 341, 45] (by decide +kernel) (by decide +kernel)
set_option maxRecDepth 20000 in
theorem gq_isReceiverSo_wsL_isReceiverSo_r7 : GoodIn wsL_law wsL_isReceiverSo_r7 := goodIn_r _ [342, 343, 344, 345, 128, 346, 347, 348] (by decide +kernel) (by decide +kernel)
set_option maxRecDepth 20000 in
theorem gq_isReceiverSo_wsX50 : GoodIn wsL_law wsX50 := goodIn_r _ [410, 411, 412, 413, 414, 415, 416] (by decide +kernel) (by decide +kernel)
set_option maxRecDepth 20000 in
theorem gq_isReceiverSo_wsX40 : GoodIn wsL_law wsX40 := goodIn_r _ [417, 418, 419, 420] (by decide +kernel) (by decide +kernel)
set_option maxRecDepth 20000 in
theorem gq_isReceiverSo_wsX10 : GoodIn wsL_law wsX10 := goodIn_r _ [421, 422, 423] (by decide +kernel) (by decide +kernel)
set_option maxRecDepth 20000 in
theorem gq_isReceiverSo_wsX30 : GoodIn wsL_law wsX30 := goodIn_r _ [427, 428, 429, 430, 431, 432, 433, 434] (by decide +kernel) (by decide +kernel)
set_option maxRecDepth 20000 in
theorem gq_isReceiverSo_wsX00 : GoodIn wsL_law wsX00 := goodIn_r _ [435, 436] (by decide +kernel) (by decide +kernel)
set_option maxRecDepth 20000 in
theorem ggL_law_L_isReceiverSo : GoodIn wsL_law wsL_isReceiverSo := goodIn_app gq_isReceiverSo_h (goodIn_app (goodIn_app (goodIn_app (goodIn_app (goodIn_app (goodIn_app (goodIn_app (goodIn_app gq_isReceiverSo_wsL_isReceiverSo_r1 (goodIn_app gq_isReceiverSo_wsL_isReceiverSo_r2 (goodIn_app gq_isReceiverSo_wsL_isReceiverSo_r3 (goodIn_app gq_isReceiverSo_wsL_isReceiverSo_r4 (goodIn_app gq_isReceiverSo_wsL_isReceiverSo_r5 (goodIn_app gq_isReceiverSo_wsL_isReceiverSo_r6 (gq_isReceiverSo_wsL_isReceiverSo_r7))))))) gq_isReceiverSo_wsX50) gq_isReceiverSo_wsX40) gq_isReceiverSo_wsX10) gq_isReceiverSo_wsX30) gq_isReceiverSo_wsX00) (goodIn_sub (fun _ h => List.mem_append_left _ (List.mem_append_right _ h)) (by decide +kernel))) (goodIn_sub (fun _ h => List.mem_append_left _ (List.mem_append_left _ (List.mem_append_right _ h))) (by decide +kernel)))
set_option maxRecDepth 20000 in
theorem gL_law_L_isReceiverSo : GoodIn wsL_law (va_wsS RL 92 yL_isReceiverSo wsL_isReceiverSo) := goodIn_app (goodIn_of _ (by decide +kernel)) ggL_law_L_isReceiverSo
