/-! the law: the words of its calls -/
set_option maxRecDepth 20000 in
theorem gL_law_X5_init : GoodIn wsL_law (wsX5_init) := ggL_law_X5_init
set_option maxRecDepth 20000 in
theorem ggL_law_X6_init : GoodIn wsL_law wsX6_init := goodIn_r _ [77, 78, 12, 13, 22, 79, 80, 81, 82, 83, 821, 822, 823, 824, 825, 826, 827, 828, 829, 830, 831] (by decide +kernel) (by decide +kernel)
set_option maxRecDepth 20000 in
theorem gL_law_X6_init : GoodIn wsL_law (wsX6_init) := ggL_law_X6_init
set_option maxRecDepth 20000 in
theorem ggL_law_L_size : GoodIn wsL_law wsL_size := goodIn_ca (goodIn_r _ [87, 88, 89, 90, 91, 2, 92, 93, 94, 21, 17, 95, 96, 97, 20, 98, 59, 58, 99, 100, 101, 102, 57, 103, 104, 105, 16, 106, 41, 43, 42, 45, 107, 108, 109, 110, 111, 112, 113, 114, 115, 116, 117, 118, 119, 120, 121, 122, 123, 31, 124, 125, 126, 50, 51, 127, 128, 129, 130, 131, 132, 133, 134, 135, 136, 137, 138, 139, 140, 141, 142, 814, 815, 816, 817, 818, 819, 820, 832, 833, 834, 835, 836, 837, 838, 842, 843, 844, 845, 846, 847, 848, 849] (by decide +kernel) (by decide +kernel)) (goodIn_sub (fun _ h => List.mem_append_left _ (List.mem_append_left _ (List.mem_append_right _ h))) (by decide +kernel))
set_option maxRecDepth 20000 in
theorem gL_law_L_size : GoodIn wsL_law (va_wsS RL 86 yL_size wsL_size) := goodIn_app (goodIn_of _ (by decide +kernel)) ggL_law_L_size
set_option maxRecDepth 20000 in
theorem ggL_law_X6_size : GoodIn wsL_law wsX6_size := goodIn_r _ [146, 79, 147, 148, 5, 149, 150, 151, 152, 153, 154, 155, 156, 157, 158, 159, 81, 160, 161, 162, 163, 164, 165, 166, 167, 168, 169, 170, 821, 822, 823, 824, 825, 826, 827, 828, 829, 830, 831] (by decide +kernel) (by decide +kernel)
set_option maxRecDepth 20000 in
theorem gL_law_X6_size : GoodIn wsL_law (wsV RL 91 RX6 yX6_size wsX6_size) := goodIn_app (goodIn_of _ (by decide +kernel)) ggL_law_X6_size
set_option maxRecDepth 20000 in
theorem ggL_law_X6_thrown : GoodIn wsL_law wsX6_thrown := goodIn_r _ [174, 154, 821, 822, 823, 824, 825, 826, 827, 828, 829, 830, 831] (by decide +kernel) (by decide +kernel)
set_option maxRecDepth 20000 in
theorem gL_law_X6_thrown : GoodIn wsL_law (wsV RL 92 RX6 yX6_thrown wsX6_thrown) := goodIn_app (goodIn_of _ (by decide +kernel)) ggL_law_X6_thrown
set_option maxRecDepth 20000 in
theorem ggL_law_L_write : GoodIn wsL_law wsL_write := goodIn_ca (goodIn_ca (goodIn_r _ [177, 178, 88, 179, 180, 181, 2, 182, 93, 94, 183, 21, 17, 184, 185, 186, 187, 188, 189, 95, 96, 97, 20, 98, 59, 58, 99, 100, 101, 102, 57, 103, 104, 105, 16, 106, 41, 43, 42, 45, 107, 108, 109, 110, 111, 112, 113, 114, 115, 116, 117, 118, 119, 120, 121, 122, 123, 31, 124, 125, 126, 50, 51, 127, 128, 129, 130, 190, 191, 192, 193, 194, 195, 196, 197, 135, 136, 137, 138, 139, 140, 141, 142, 814, 815, 816, 817, 818, 819, 820, 832, 833, 834, 835, 836, 837, 838, 842, 843, 844, 845, 846, 847, 848, 849] (by decide +kernel) (by decide +kernel)) (goodIn_sub (fun _ h => List.mem_append_left _ (List.mem_append_left _ (List.mem_append_right _ h))) (by decide +kernel))) (goodIn_sub (fun _ h => List.mem_append_left _ (List.mem_append_right _ h)) (by decide +kernel))
set_option maxRecDepth 20000 in
theorem gL_law_L_write : GoodIn wsL_law (va_wsS RL 95 yL_write wsL_write) := goodIn_app (goodIn_of _ (by decide +kernel)) ggL_law_L_write
set_option maxRecDepth 20000 in
theorem ggL_law_X6_write : GoodIn wsL_law wsX6_write := goodIn_r _ [201, 202, 79, 203, 204, 205, 5, 206, 147, 148, 149, 150, 151, 152, 153, 154, 155, 156, 157, 158, 159, 81, 160, 161, 162, 163, 164, 165, 166, 167, 168, 169, 170, 821, 822, 823, 824, 825, 826, 827, 828, 829, 830, 831] (by decide +kernel) (by decide +kernel)
set_option maxRecDepth 20000 in
theorem gL_law_X6_write : GoodIn wsL_law (wsV RL 98 RX6 yX6_write wsX6_write) := goodIn_app (goodIn_of _ (by decide +kernel)) ggL_law_X6_write
set_option maxRecDepth 20000 in
theorem ggL_law_L_listen : GoodIn wsL_law wsL_listen := goodIn_ca (goodIn_r _ [209, 178, 210, 211, 212, 2, 213, 21, 17, 214, 215, 216, 217, 188, 189, 218, 118, 119, 16, 120, 45, 95, 96, 97, 20, 98, 59, 58, 99, 100, 101, 102, 57, 103, 104, 105, 106, 41, 43, 42, 107, 108, 109, 110, 111, 112, 113, 114, 115, 116, 117, 121, 122, 123, 31, 124, 125, 126, 50, 51, 127, 128, 129, 130, 814, 815, 816, 817, 818, 819, 820, 842, 843, 844, 845, 846, 847, 848, 849, 832, 833, 834, 835, 836, 837, 838] (by decide +kernel) (by decide +kernel)) (goodIn_sub (fun _ h => List.mem_append_left _ (List.mem_append_right _ h)) (by decide +kernel))
set_option maxRecDepth 20000 in
theorem gL_law_L_listen : GoodIn wsL_law (va_wsS RL 99 yL_listen wsL_listen) := goodIn_app (goodIn_of _ (by decide +kernel)) ggL_law_L_listen
set_option maxRecDepth 20000 in
theorem ggL_law_X6_listen : GoodIn wsL_law wsX6_listen := goodIn_r _ [222, 79, 223, 224, 5, 225, 147, 148, 149, 150, 151, 152, 153, 154, 155, 156, 157, 158, 159, 81, 168, 169, 170, 821, 822, 823, 824, 825, 826, 827, 828, 829, 830, 831] (by decide +kernel) (by decide +kernel)
set_option maxRecDepth 20000 in
theorem gL_law_X6_listen : GoodIn wsL_law (wsV RL 102 RX6 yX6_listen wsX6_listen) := goodIn_app (goodIn_of _ (by decide +kernel)) ggL_law_X6_listen
set_option maxRecDepth 20000 in
theorem ggL_law_L_forget : GoodIn wsL_law wsL_forget := goodIn_ca (goodIn_r _ [228, 178, 229, 230, 231, 2, 232, 21, 17, 214, 215, 216, 217, 188, 189, 218, 118, 119, 16, 120, 45, 95, 96, 97, 20, 98, 59, 58, 99, 100, 101, 102, 57, 103, 104, 105, 106, 41, 43, 42, 107, 108, 109, 110, 111, 112, 113, 114, 115, 116, 117, 121, 122, 123, 31, 124, 125, 126, 50, 51, 127, 128, 129, 130, 233, 234, 235, 236, 237, 238, 239, 240, 241, 242, 243, 244, 140, 141, 142, 814, 815, 816, 817, 818, 819, 820, 832, 833, 834, 835, 836, 837, 838, 842, 843, 844, 845, 846, 847, 848, 849] (by decide +kernel) (by decide +kernel)) (goodIn_sub (fun _ h => List.mem_append_left _ (List.mem_append_right _ h)) (by decide +kernel))
set_option maxRecDepth 20000 in
theorem gL_law_L_forget : GoodIn wsL_law (va_wsS RL 103 yL_forget wsL_forget) := goodIn_app (goodIn_of _ (by decide +kernel)) ggL_law_L_forget
set_option maxRecDepth 20000 in
theorem ggL_law_X6_forget : GoodIn wsL_law wsX6_forget := goodIn_r _ [248, 79, 223, 224, 5, 225, 147, 148, 149, 150, 151, 152, 153, 154, 155, 156, 157, 158, 159, 81, 168, 169, 170, 249, 250, 251, 164, 165, 166, 167, 821, 822, 823, 824, 825, 826, 827, 828, 829, 830, 831] (by decide +kernel) (by decide +kernel)
set_option maxRecDepth 20000 in
theorem gL_law_X6_forget : GoodIn wsL_law (wsV RL 105 RX6 yX6_forget wsX6_forget) := goodIn_app (goodIn_of _ (by decide +kernel)) ggL_law_X6_forget
set_option maxRecDepth 20000 in
theorem ggL_law_L_send : GoodIn wsL_law wsL_send := goodIn_ca (goodIn_r _ [254, 88, 255, 256, 257, 2, 258, 21, 17, 259, 260, 261, 93, 94, 95, 96, 97, 20, 98, 59, 58, 99, 100, 101, 102, 57, 103, 104, 105, 16, 106, 41, 43, 42, 45, 107, 108, 109, 110, 111, 112, 113, 114, 115, 116, 117, 118, 119, 120, 121, 122, 123, 31, 124, 125, 126, 50, 51, 127, 128, 129, 130, 262, 263, 264, 265, 266, 267, 268, 269, 270, 271, 272, 273, 274, 275, 276, 277, 191, 192, 193, 278, 279, 280, 281, 282, 283, 284, 285, 286, 287, 288, 238, 239, 240, 241, 242, 243, 289, 290, 291, 292, 293, 294, 295, 296, 297, 298, 299, 300, 301, 302, 303, 304, 305, 306, 307, 308, 309, 310, 814, 815, 816, 817, 818, 819, 820, 836, 837, 838, 832, 833, 834, 835, 842, 843, 844, 845, 846, 847, 848, 849] (by decide +kernel) (by decide +kernel)) (goodIn_sub (fun _ h => List.mem_append_left _ (List.mem_append_left _ (List.mem_append_right _ h))) (by decide +kernel))
set_option maxRecDepth 20000 in
theorem gL_law_L_send : GoodIn wsL_law (va_wsS RL 106 yL_send wsL_send) := goodIn_app (goodIn_of _ (by decide +kernel)) ggL_law_L_send
set_option maxRecDepth 20000 in
theorem ggL_law_X6_send : GoodIn wsL_law wsX6_send := goodIn_r _ [314, 315, 316, 5, 317, 147, 148, 149, 150, 151, 152, 153, 154, 155, 156, 157, 158, 159, 81, 79, 318, 319, 320, 321, 168, 169, 170, 322, 323, 324, 325, 326, 327, 328, 329, 330, 331, 332, 249, 250, 251, 333, 334, 335, 336, 337, 338, 339, 340, 341, 342, 343, 344, 821, 822, 823, 824, 825, 826, 827, 828, 829, 830, 831] (by decide +kernel) (by decide +kernel)
set_option maxRecDepth 20000 in
theorem gL_law_X6_send : GoodIn wsL_law (wsV RL 108 RX6 yX6_send wsX6_send) := goodIn_app (goodIn_of _ (by decide +kernel)) ggL_law_X6_send
set_option maxRecDepth 20000 in
theorem ggL_law_L_eliminate : GoodIn wsL_law wsL_eliminate := goodIn_ca (goodIn_r _ [347, 178, 348, 349, 350, 2, 351, 21, 17, 36, 214, 215, 216, 217, 188, 189, 218, 118, 119, 16, 120, 45, 95, 96, 97, 20, 98, 59, 58, 99, 100, 101, 102, 57, 103, 104, 105, 106, 41, 43, 42, 107, 108, 109, 110, 111, 112, 113, 114, 115, 116, 117, 121, 122, 123, 31, 124, 125, 126, 50, 51, 127, 128, 129, 130, 352, 353, 354, 355, 356, 357, 358, 359, 360, 361, 362, 35, 363, 74, 73, 364, 365, 366, 367, 275, 276, 293, 294, 368, 369, 370, 371, 238, 239, 240, 241, 242, 243, 372, 373, 374, 375, 376, 377, 378, 379, 380, 289, 290, 291, 292, 295, 296, 297, 298, 299, 300, 301, 302, 286, 287, 288, 303, 304, 305, 306, 307, 308, 309, 310, 814, 815, 816, 817, 818, 819, 820, 832, 833, 834, 835, 836, 837, 838, 842, 843, 844, 845, 846, 847, 848, 849, 850, 851] (by decide +kernel) (by decide +kernel)) (goodIn_sub (fun _ h => List.mem_append_left _ (List.mem_append_right _ h)) (by decide +kernel))
set_option maxRecDepth 20000 in
theorem gL_law_L_eliminate : GoodIn wsL_law (va_wsS RL 109 yL_eliminate wsL_eliminate) := goodIn_app (goodIn_of _ (by decide +kernel)) ggL_law_L_eliminate
set_option maxRecDepth 20000 in
theorem ggL_law_X6_eliminate : GoodIn wsL_law wsX6_eliminate := goodIn_r _ [384, 223, 224, 5, 225, 147, 148, 149, 150, 151, 152, 153, 154, 155, 156, 157, 158, 159, 81, 79, 385, 386, 387, 388, 168, 169, 170, 249, 250, 251, 389, 390, 391, 392, 83, 393, 394, 395, 396, 397, 398, 399, 333, 334, 335, 336, 337, 338, 339, 340, 341, 342, 343, 344, 821, 822, 823, 824, 825, 826, 827, 828, 829, 830, 831] (by decide +kernel) (by decide +kernel)
set_option maxRecDepth 20000 in
theorem gL_law_X6_eliminate : GoodIn wsL_law (wsV RL 111 RX6 yX6_eliminate wsX6_eliminate) := goodIn_app (goodIn_of _ (by decide +kernel)) ggL_law_X6_eliminate
set_option maxRecDepth 20000 in
theorem ggL_law_L_append : GoodIn wsL_law wsL_append := goodIn_ca (goodIn_ca (goodIn_r _ [402, 88, 403, 404, 405, 406, 2, 407, 93, 94, 408, 409, 24, 23, 814, 815, 816, 817, 818, 819, 820] (by decide +kernel) (by decide +kernel)) (goodIn_sub (fun _ h => List.mem_append_left _ (List.mem_append_left _ (List.mem_append_right _ h))) (by decide +kernel))) (goodIn_sub (fun _ h => List.mem_append_right _ h) (by decide +kernel))
set_option maxRecDepth 20000 in
theorem gL_law_L_append : GoodIn wsL_law (va_wsS RL 112 yL_append wsL_append) := goodIn_app (goodIn_of _ (by decide +kernel)) ggL_law_L_append
set_option maxRecDepth 20000 in
theorem ggL_law_X6_append : GoodIn wsL_law wsX6_append := goodIn_r _ [413, 414, 82, 147, 148, 5, 149, 150, 151, 152, 153, 154, 821, 822, 823, 824, 825, 826, 827, 828, 829, 830, 831] (by decide +kernel) (by decide +kernel)
set_option maxRecDepth 20000 in
theorem gL_law_X6_append : GoodIn wsL_law (wsV RL 114 RX6 yX6_append wsX6_append) := goodIn_app (goodIn_of _ (by decide +kernel)) ggL_law_X6_append
set_option maxRecDepth 20000 in
theorem ggL_law_X5_clearBuffer : GoodIn wsL_law wsX5_clearBuffer := goodIn_r _ [418, 24, 814, 815, 816, 817, 818, 819, 820] (by decide +kernel) (by decide +kernel)
set_option maxRecDepth 20000 in
theorem gL_law_X5_clearBuffer : GoodIn wsL_law (wsV RL 115 RX5 yX5_clearBuffer wsX5_clearBuffer) := goodIn_app (goodIn_of _ (by decide +kernel)) ggL_law_X5_clearBuffer
set_option maxRecDepth 20000 in
theorem ggL_law_X6_clearBuffer : GoodIn wsL_law wsX6_clearBuffer := goodIn_r _ [422, 154, 414, 821, 822, 823, 824, 825, 826, 827, 828, 829, 830, 831] (by decide +kernel) (by decide +kernel)
set_option maxRecDepth 20000 in
theorem gL_law_X6_clearBuffer : GoodIn wsL_law (wsV RL 118 RX6 yX6_clearBuffer wsX6_clearBuffer) := goodIn_app (goodIn_of _ (by decide +kernel)) ggL_law_X6_clearBuffer
set_option maxRecDepth 20000 in
theorem ggL_law_X5_firstError : GoodIn wsL_law wsX5_firstError := goodIn_r _ [426, 28, 24, 23, 427, 428, 429, 27, 430, 65, 431, 432, 433, 434, 66, 67, 435, 436, 437, 438, 439, 440, 441, 442, 443, 444, 445, 446, 447, 448, 449, 450, 814, 815, 816, 817, 818, 819, 820, 839, 840, 841] (by decide +kernel) (by decide +kernel)
set_option maxRecDepth 20000 in
theorem gL_law_X5_firstError : GoodIn wsL_law (wsV RL 119 RX5 yX5_firstError wsX5_firstError) := goodIn_app (goodIn_of _ (by decide +kernel)) ggL_law_X5_firstError
set_option maxRecDepth 20000 in
theorem ggL_law_X6_firstError : GoodIn wsL_law wsX6_firstError := goodIn_r _ [454, 154, 455, 456, 414, 457, 458, 459, 5, 460, 82, 461, 462, 463, 464, 147, 148, 149, 465, 466, 467, 318, 319, 320, 321, 79, 168, 169, 170, 322, 323, 324, 325, 326, 327, 328, 329, 330, 331, 332, 249, 250, 251, 333, 334, 335, 336, 337, 338, 339, 340, 341, 342, 343, 344, 821, 822, 823, 824, 825, 826, 827, 828, 829, 830, 831] (by decide +kernel) (by decide +kernel)
set_option maxRecDepth 20000 in
theorem gL_law_X6_firstError : GoodIn wsL_law (wsV RL 122 RX6 yX6_firstError wsX6_firstError) := goodIn_app (goodIn_of _ (by decide +kernel)) ggL_law_X6_firstError
set_option maxRecDepth 20000 in
theorem ggL_law_L_sendAll : GoodIn wsL_law wsL_sendAll := goodIn_ca (goodIn_r _ [470, 88, 471, 472, 473, 2, 474, 93, 94, 21, 17, 28, 24, 23, 475, 476, 477, 478, 479, 424, 425, 426, 427, 428, 429, 27, 430, 65, 431, 432, 433, 434, 66, 67, 435, 436, 437, 438, 439, 440, 441, 442, 443, 444, 445, 446, 447, 448, 449, 450, 480, 95, 96, 97, 20, 98, 59, 58, 99, 100, 101, 102, 57, 103, 104, 105, 16, 106, 41, 43, 42, 45, 107, 108, 109, 110, 111, 112, 113, 114, 115, 116, 117, 118, 119, 120, 121, 122, 123, 31, 124, 125, 126, 50, 51, 127, 128, 129, 130, 481, 482, 483, 484, 485, 486, 487, 488, 489, 490, 491, 492, 262, 263, 264, 265, 266, 267, 268, 269, 270, 271, 272, 273, 274, 275, 276, 277, 191, 192, 193, 278, 279, 280, 281, 282, 283, 284, 285, 286, 287, 288, 238, 239, 240, 241, 242, 243, 289, 290, 291, 292, 293, 294, 295, 296, 297, 298, 299, 300, 301, 302, 303, 304, 305, 306, 307, 308, 309, 310, 814, 815, 816, 817, 818, 819, 820, 839, 840, 841, 836, 837, 838, 832, 833, 834, 835, 842, 843, 844, 845, 846, 847, 848, 849] (by decide +kernel) (by decide +kernel)) (goodIn_sub (fun _ h => List.mem_append_left _ (List.mem_append_left _ (List.mem_append_right _ h))) (by decide +kernel))
set_option maxRecDepth 20000 in
theorem gL_law_L_sendAll : GoodIn wsL_law (va_wsS RL 123 yL_sendAll wsL_sendAll) := goodIn_app (goodIn_of _ (by decide +kernel)) ggL_law_L_sendAll
set_option maxRecDepth 20000 in
theorem ggL_law_X6_sendAll : GoodIn wsL_law wsX6_sendAll := goodIn_r _ [496, 455, 414, 457, 458, 459, 5, 460, 456, 82, 461, 462, 463, 464, 147, 148, 149, 465, 466, 467, 318, 319, 320, 321, 79, 168, 169, 170, 322, 323, 324, 325, 326, 327, 328, 329, 330, 331, 332, 249, 250, 251, 333, 334, 335, 336, 337, 338, 339, 340, 341, 342, 343, 344, 150, 151, 152, 153, 154, 155, 156, 157, 158, 159, 81, 821, 822, 823, 824, 825, 826, 827, 828, 829, 830, 831] (by decide +kernel) (by decide +kernel)
set_option maxRecDepth 20000 in
theorem gL_law_X6_sendAll : GoodIn wsL_law (wsV RL 126 RX6 yX6_sendAll wsX6_sendAll) := goodIn_app (goodIn_of _ (by decide +kernel)) ggL_law_X6_sendAll
set_option maxRecDepth 20000 in
theorem ggL_law_L_undo : GoodIn wsL_law wsL_undo := goodIn_ca (goodIn_r _ [499, 403, 500, 501, 502, 2, 503, 408, 409, 21, 17, 504, 505, 506, 20, 507, 59, 99, 100, 101, 102, 58, 57, 103, 104, 105, 16, 106, 41, 43, 42, 45, 107, 108, 109, 110, 111, 112, 113, 114, 115, 116, 117, 118, 119, 120, 121, 122, 123, 31, 124, 125, 126, 50, 51, 127, 128, 129, 130, 814, 815, 816, 817, 818, 819, 820, 836, 837, 838, 832, 833, 834, 835, 842, 843, 844, 845, 846, 847, 848, 849] (by decide +kernel) (by decide +kernel)) (goodIn_sub (fun _ h => List.mem_append_right _ h) (by decide +kernel))
set_option maxRecDepth 20000 in
theorem gL_law_L_undo : GoodIn wsL_law (va_wsS RL 127 yL_undo wsL_undo) := goodIn_app (goodIn_of _ (by decide +kernel)) ggL_law_L_undo
set_option maxRecDepth 20000 in
theorem ggL_law_X6_undo : GoodIn wsL_law wsX6_undo := goodIn_r _ [511, 159, 79, 81, 150, 151, 152, 5, 153, 154, 821, 822, 823, 824, 825, 826, 827, 828, 829, 830, 831] (by decide +kernel) (by decide +kernel)
set_option maxRecDepth 20000 in
theorem gL_law_X6_undo : GoodIn wsL_law (wsV RL 129 RX6 yX6_undo wsX6_undo) := goodIn_app (goodIn_of _ (by decide +kernel)) ggL_law_X6_undo
set_option maxRecDepth 20000 in
theorem ggL_law_L_mix : GoodIn wsL_law wsL_mix := goodIn_ca (goodIn_r _ [514, 88, 515, 516, 517, 2, 518, 17, 259, 260, 261, 93, 94, 519, 520, 521, 522, 267, 268, 16, 269, 41, 270, 110, 111, 112, 271, 272, 273, 274, 275, 276, 277, 191, 192, 193, 42, 523, 286, 287, 288, 238, 239, 240, 241, 242, 243, 524, 293, 294, 525, 526, 527, 814, 815, 816, 817, 818, 819, 820, 832, 833, 834, 835] (by decide +kernel) (by decide +kernel)) (goodIn_sub (fun _ h => List.mem_append_left _ (List.mem_append_left _ (List.mem_append_right _ h))) (by decide +kernel))
set_option maxRecDepth 20000 in
theorem gL_law_L_mix : GoodIn wsL_law (va_wsS RL 130 yL_mix wsL_mix) := goodIn_app (goodIn_of _ (by decide +kernel)) ggL_law_L_mix
set_option maxRecDepth 20000 in
theorem ggL_law_X6_mix : GoodIn wsL_law wsX6_mix := goodIn_r _ [531, 315, 316, 5, 317, 147, 148, 149, 150, 151, 152, 153, 154, 532, 533, 534, 535, 322, 323, 324, 325, 79, 326, 327, 328, 249, 250, 251, 536, 537, 538, 539, 821, 822, 823, 824, 825, 826, 827, 828, 829, 830, 831] (by decide +kernel) (by decide +kernel)
set_option maxRecDepth 20000 in
theorem gL_law_X6_mix : GoodIn wsL_law (wsV RL 132 RX6 yX6_mix wsX6_mix) := goodIn_app (goodIn_of _ (by decide +kernel)) ggL_law_X6_mix
set_option maxRecDepth 20000 in
theorem ggL_law_L_receiver : GoodIn wsL_law wsL_receiver := goodIn_ca (goodIn_ca (goodIn_r _ [542, 178, 88, 543, 544, 545, 2, 546, 214, 215, 216, 217, 188, 189, 17, 218, 118, 119, 16, 120, 45, 519, 520, 521, 93, 94, 547, 548, 549, 550, 36, 233, 234, 235, 31, 236, 126, 237, 238, 239, 240, 241, 242, 243, 551, 552, 553, 554, 41, 555, 556, 557, 558, 559, 356, 357, 358, 359, 127, 51, 360, 361, 362, 35, 363, 74, 73, 364, 365, 366, 367, 275, 276, 293, 294, 368, 369, 370, 371, 560, 814, 815, 816, 817, 818, 819, 820, 832, 833, 834, 835, 842, 843, 844, 845, 846, 847, 848, 849, 850, 851] (by decide +kernel) (by decide +kernel)) (goodIn_sub (fun _ h => List.mem_append_left _ (List.mem_append_right _ h)) (by decide +kernel))) (goodIn_sub (fun _ h => List.mem_append_left _ (List.mem_append_left _ (List.mem_append_right _ h))) (by decide +kernel))
set_option maxRecDepth 20000 in
theorem gL_law_L_receiver : GoodIn wsL_law (va_wsS RL 133 yL_receiver wsL_receiver) := goodIn_app (goodIn_of _ (by decide +kernel)) ggL_law_L_receiver
set_option maxRecDepth 20000 in
theorem ggL_law_X6_receiver : GoodIn wsL_law wsX6_receiver := goodIn_r _ [564, 223, 224, 5, 225, 147, 148, 149, 150, 151, 152, 153, 154, 565, 566, 567, 568, 79, 168, 169, 170, 249, 250, 251, 569, 570, 571, 572, 573, 574, 575, 576, 577, 578, 579, 580, 393, 394, 395, 396, 83, 397, 398, 399, 821, 822, 823, 824, 825, 826, 827, 828, 829, 830, 831] (by decide +kernel) (by decide +kernel)
set_option maxRecDepth 20000 in
theorem gL_law_X6_receiver : GoodIn wsL_law (wsV RL 135 RX6 yX6_receiver wsX6_receiver) := goodIn_app (goodIn_of _ (by decide +kernel)) ggL_law_X6_receiver
set_option maxRecDepth 20000 in
theorem ggL_law_L_known : GoodIn wsL_law wsL_known := goodIn_ca (goodIn_r _ [583, 178, 584, 585, 586, 2, 587, 214, 215, 216, 217, 188, 189, 17, 218, 118, 119, 16, 120, 45, 184, 185, 186, 187, 588, 589, 590, 31, 591, 50, 126, 275, 276, 526, 527, 814, 815, 816, 817, 818, 819, 820, 832, 833, 834, 835, 842, 843, 844, 845, 846, 847, 848, 849] (by decide +kernel) (by decide +kernel)) (goodIn_sub (fun _ h => List.mem_append_left _ (List.mem_append_right _ h)) (by decide +kernel))
set_option maxRecDepth 20000 in
theorem gL_law_L_known : GoodIn wsL_law (va_wsS RL 136 yL_known wsL_known) := goodIn_app (goodIn_of _ (by decide +kernel)) ggL_law_L_known
set_option maxRecDepth 20000 in
theorem ggL_law_X6_known : GoodIn wsL_law wsX6_known := goodIn_r _ [595, 223, 224, 5, 225, 147, 148, 149, 203, 204, 205, 206, 79, 150, 151, 152, 153, 154, 596, 597, 598, 599, 168, 169, 170, 821, 822, 823, 824, 825, 826, 827, 828, 829, 830, 831] (by decide +kernel) (by decide +kernel)
set_option maxRecDepth 20000 in
theorem gL_law_X6_known : GoodIn wsL_law (wsV RL 138 RX6 yX6_known wsX6_known) := goodIn_app (goodIn_of _ (by decide +kernel)) ggL_law_X6_known
set_option maxRecDepth 20000 in
theorem ggL_law_L_waiting : GoodIn wsL_law wsL_waiting := goodIn_ca (goodIn_ca (goodIn_r _ [602, 178, 88, 603, 604, 605, 2, 606, 93, 94, 214, 215, 216, 217, 188, 189, 17, 218, 118, 119, 16, 120, 45, 519, 520, 521, 607, 304, 305, 31, 306, 51, 524, 293, 294, 525, 526, 527, 842, 843, 844, 845, 846, 847, 848, 849, 814, 815, 816, 817, 818, 819, 820, 832, 833, 834, 835] (by decide +kernel) (by decide +kernel)) (goodIn_sub (fun _ h => List.mem_append_left _ (List.mem_append_left _ (List.mem_append_right _ h))) (by decide +kernel))) (goodIn_sub (fun _ h => List.mem_append_left _ (List.mem_append_right _ h)) (by decide +kernel))
set_option maxRecDepth 20000 in
theorem gL_law_L_waiting : GoodIn wsL_law (va_wsS RL 139 yL_waiting wsL_waiting) := goodIn_app (goodIn_of _ (by decide +kernel)) ggL_law_L_waiting
set_option maxRecDepth 20000 in
theorem ggL_law_X6_waiting : GoodIn wsL_law wsX6_waiting := goodIn_r _ [611, 223, 224, 5, 225, 147, 148, 149, 150, 151, 152, 153, 154, 612, 613, 614, 615, 79, 168, 169, 170, 536, 537, 538, 539, 821, 822, 823, 824, 825, 826, 827, 828, 829, 830, 831] (by decide +kernel) (by decide +kernel)
set_option maxRecDepth 20000 in
theorem gL_law_X6_waiting : GoodIn wsL_law (wsV RL 142 RX6 yX6_waiting wsX6_waiting) := goodIn_app (goodIn_of _ (by decide +kernel)) ggL_law_X6_waiting
set_option maxRecDepth 20000 in
theorem ggL_law_L_count : GoodIn wsL_law wsL_count := goodIn_ca (goodIn_r _ [618, 88, 619, 620, 621, 2, 622, 519, 520, 521, 93, 94, 623, 624, 625, 626, 17, 21, 627, 628, 629, 16, 630, 45, 631, 632, 633, 634, 635, 552, 553, 554, 41, 555, 234, 235, 31, 236, 126, 237, 238, 239, 240, 241, 242, 243, 636, 637, 638, 639, 277, 191, 192, 193, 42, 814, 815, 816, 817, 818, 819, 820, 832, 833, 834, 835, 836, 837, 838, 842, 843, 844, 845, 846, 847, 848, 849] (by decide +kernel) (by decide +kernel)) (goodIn_sub (fun _ h => List.mem_append_left _ (List.mem_append_left _ (List.mem_append_right _ h))) (by decide +kernel))
set_option maxRecDepth 20000 in
theorem gL_law_L_count : GoodIn wsL_law (va_wsS RL 143 yL_count wsL_count) := goodIn_app (goodIn_of _ (by decide +kernel)) ggL_law_L_count
set_option maxRecDepth 20000 in
theorem ggL_law_X6_count : GoodIn wsL_law wsX6_count := goodIn_r _ [643, 147, 148, 5, 149, 150, 151, 152, 153, 154, 644, 645, 646, 647, 79, 159, 648, 649, 650, 651, 168, 169, 170, 569, 570, 571, 572, 573, 574, 575, 576, 536, 537, 538, 539, 821, 822, 823, 824, 825, 826, 827, 828, 829, 830, 831] (by decide +kernel) (by decide +kernel)
set_option maxRecDepth 20000 in
theorem gL_law_X6_count : GoodIn wsL_law (wsV RL 145 RX6 yX6_count wsX6_count) := goodIn_app (goodIn_of _ (by decide +kernel)) ggL_law_X6_count
set_option maxRecDepth 20000 in
theorem ggL_law_L_block : GoodIn wsL_law wsL_block := goodIn_ca (goodIn_r _ [654, 178, 655, 656, 657, 2, 658, 17, 184, 185, 186, 187, 188, 189, 190, 191, 192, 16, 193, 42, 814, 815, 816, 817, 818, 819, 820, 832, 833, 834, 835] (by decide +kernel) (by decide +kernel)) (goodIn_sub (fun _ h => List.mem_append_left _ (List.mem_append_right _ h)) (by decide +kernel))
set_option maxRecDepth 20000 in
theorem gL_law_L_block : GoodIn wsL_law (va_wsS RL 146 yL_block wsL_block) := goodIn_app (goodIn_of _ (by decide +kernel)) ggL_law_L_block
set_option maxRecDepth 20000 in
theorem ggL_law_X6_block : GoodIn wsL_law wsX6_block := goodIn_r _ [662, 79, 203, 204, 205, 5, 206, 147, 148, 149, 150, 151, 152, 153, 154, 821, 822, 823, 824, 825, 826, 827, 828, 829, 830, 831] (by decide +kernel) (by decide +kernel)
set_option maxRecDepth 20000 in
theorem gL_law_X6_block : GoodIn wsL_law (wsV RL 148 RX6 yX6_block wsX6_block) := goodIn_app (goodIn_of _ (by decide +kernel)) ggL_law_X6_block
set_option maxRecDepth 20000 in
theorem ggL_law_L_ifGot : GoodIn wsL_law wsL_ifGot := goodIn_ca (goodIn_ca (goodIn_r _ [665, 178, 88, 666, 667, 668, 2, 669, 214, 215, 216, 217, 188, 189, 17, 218, 118, 119, 16, 120, 45, 259, 260, 261, 93, 94, 519, 520, 521, 670, 671, 672, 673, 32, 674, 122, 123, 31, 124, 125, 126, 50, 51, 127, 128, 129, 130, 107, 108, 109, 110, 111, 112, 113, 114, 115, 116, 522, 267, 268, 269, 41, 270, 271, 272, 273, 274, 275, 276, 277, 191, 192, 193, 42, 675, 279, 280, 281, 282, 283, 284, 285, 286, 287, 288, 238, 239, 240, 241, 242, 243, 289, 290, 291, 292, 293, 294, 295, 296, 297, 298, 299, 300, 301, 302, 303, 304, 305, 306, 307, 308, 309, 310, 676, 677, 678, 679, 36, 556, 557, 558, 559, 356, 357, 358, 359, 360, 361, 362, 35, 363, 74, 73, 364, 365, 366, 367, 368, 369, 370, 371, 560, 234, 235, 236, 237, 814, 815, 816, 817, 818, 819, 820, 832, 833, 834, 835, 842, 843, 844, 845, 846, 847, 848, 849, 850, 851] (by decide +kernel) (by decide +kernel)) (goodIn_sub (fun _ h => List.mem_append_left _ (List.mem_append_right _ h)) (by decide +kernel))) (goodIn_sub (fun _ h => List.mem_append_left _ (List.mem_append_left _ (List.mem_append_right _ h))) (by decide +kernel))
set_option maxRecDepth 20000 in
theorem gL_law_L_ifGot : GoodIn wsL_law (va_wsS RL 149 yL_ifGot wsL_ifGot) := goodIn_app (goodIn_of _ (by decide +kernel)) ggL_law_L_ifGot
set_option maxRecDepth 20000 in
theorem ggL_law_X6_ifGot : GoodIn wsL_law wsX6_ifGot := goodIn_r _ [683, 223, 224, 5, 225, 147, 148, 149, 315, 316, 317, 150, 151, 152, 153, 154, 684, 685, 686, 687, 688, 689, 690, 691, 80, 79, 168, 169, 170, 322, 323, 324, 325, 326, 327, 328, 329, 330, 331, 332, 249, 250, 251, 333, 334, 335, 336, 337, 338, 339, 340, 341, 342, 343, 344, 577, 578, 579, 580, 393, 394, 395, 396, 83, 397, 398, 399, 692, 693, 694, 695, 821, 822, 823, 824, 825, 826, 827, 828, 829, 830, 831] (by decide +kernel) (by decide +kernel)
set_option maxRecDepth 20000 in
theorem gL_law_X6_ifGot : GoodIn wsL_law (wsV RL 151 RX6 yX6_ifGot wsX6_ifGot) := goodIn_app (goodIn_of _ (by decide +kernel)) ggL_law_X6_ifGot
set_option maxRecDepth 20000 in
theorem ggL_law_L_helps : GoodIn wsL_law wsL_helps := goodIn_ca (goodIn_ca (goodIn_r _ [698, 178, 88, 699, 700, 701, 2, 702, 214, 215, 216, 217, 188, 189, 17, 218, 118, 119, 16, 120, 45, 259, 260, 261, 93, 94, 703, 704, 705, 706, 522, 267, 268, 269, 41, 270, 110, 111, 112, 271, 272, 273, 274, 275, 276, 277, 191, 192, 193, 42, 707, 283, 284, 31, 285, 50, 523, 286, 287, 288, 238, 239, 240, 241, 242, 243, 814, 815, 816, 817, 818, 819, 820, 832, 833, 834, 835, 842, 843, 844, 845, 846, 847, 848, 849] (by decide +kernel) (by decide +kernel)) (goodIn_sub (fun _ h => List.mem_append_left _ (List.mem_append_right _ h)) (by decide +kernel))) (goodIn_sub (fun _ h => List.mem_append_left _ (List.mem_append_left _ (List.mem_append_right _ h))) (by decide +kernel))
set_option maxRecDepth 20000 in
theorem gL_law_L_helps : GoodIn wsL_law (va_wsS RL 152 yL_helps wsL_helps) := goodIn_app (goodIn_of _ (by decide +kernel)) ggL_law_L_helps
set_option maxRecDepth 20000 in
theorem ggL_law_X6_helps : GoodIn wsL_law wsX6_helps := goodIn_r _ [711, 223, 224, 5, 225, 147, 148, 149, 315, 316, 317, 150, 151, 152, 153, 154, 712, 713, 714, 715, 684, 685, 686, 687, 688, 689, 690, 691, 80, 79, 168, 169, 170, 322, 323, 324, 325, 326, 327, 328, 329, 330, 331, 332, 249, 250, 251, 333, 334, 335, 336, 337, 338, 339, 340, 341, 342, 343, 344, 577, 578, 579, 580, 393, 394, 395, 396, 83, 397, 398, 399, 692, 693, 694, 695, 821, 822, 823, 824, 825, 826, 827, 828, 829, 830, 831] (by decide +kernel) (by decide +kernel)
set_option maxRecDepth 20000 in
theorem gL_law_X6_helps : GoodIn wsL_law (wsV RL 154 RX6 yX6_helps wsX6_helps) := goodIn_app (goodIn_of _ (by decide +kernel)) ggL_law_X6_helps
set_option maxRecDepth 20000 in
theorem ggL_law_L_needs : GoodIn wsL_law wsL_needs := goodIn_ca (goodIn_ca (goodIn_r _ [718, 178, 88, 719, 720, 721, 2, 722, 93, 94, 214, 215, 216, 217, 188, 189, 17, 218, 118, 119, 16, 120, 45, 723, 724, 725, 726, 32, 36, 674, 122, 123, 31, 124, 125, 126, 50, 51, 127, 128, 129, 130, 107, 108, 109, 110, 111, 112, 113, 114, 115, 116, 551, 552, 553, 554, 41, 555, 234, 235, 236, 237, 238, 239, 240, 241, 242, 243, 522, 267, 268, 269, 270, 271, 272, 273, 274, 275, 276, 277, 191, 192, 193, 42, 675, 279, 280, 281, 282, 283, 284, 285, 286, 287, 288, 289, 290, 291, 292, 293, 294, 295, 296, 297, 298, 299, 300, 301, 302, 303, 304, 305, 306, 307, 308, 309, 310, 352, 353, 354, 355, 356, 357, 358, 359, 360, 361, 362, 35, 363, 74, 73, 364, 365, 366, 367, 368, 369, 370, 371, 372, 373, 374, 375, 376, 377, 378, 379, 380, 814, 815, 816, 817, 818, 819, 820, 832, 833, 834, 835, 842, 843, 844, 845, 846, 847, 848, 849, 850, 851] (by decide +kernel) (by decide +kernel)) (goodIn_sub (fun _ h => List.mem_append_left _ (List.mem_append_left _ (List.mem_append_right _ h))) (by decide +kernel))) (goodIn_sub (fun _ h => List.mem_append_left _ (List.mem_append_right _ h)) (by decide +kernel))
set_option maxRecDepth 20000 in
theorem gL_law_L_needs : GoodIn wsL_law (va_wsS RL 155 yL_needs wsL_needs) := goodIn_app (goodIn_of _ (by decide +kernel)) ggL_law_L_needs
set_option maxRecDepth 20000 in
theorem ggL_law_X6_needs : GoodIn wsL_law wsX6_needs := goodIn_r _ [730, 223, 224, 5, 225, 147, 148, 149, 150, 151, 152, 153, 154, 731, 732, 733, 734, 688, 689, 690, 691, 80, 79, 168, 169, 170, 569, 570, 571, 572, 573, 574, 575, 576, 322, 323, 324, 325, 326, 327, 328, 329, 330, 331, 332, 249, 250, 251, 333, 334, 335, 336, 337, 338, 339, 340, 341, 342, 343, 344, 385, 386, 387, 388, 389, 390, 391, 392, 83, 393, 394, 395, 396, 397, 398, 399, 692, 693, 694, 695, 821, 822, 823, 824, 825, 826, 827, 828, 829, 830, 831] (by decide +kernel) (by decide +kernel)
set_option maxRecDepth 20000 in
theorem gL_law_X6_needs : GoodIn wsL_law (wsV RL 158 RX6 yX6_needs wsX6_needs) := goodIn_app (goodIn_of _ (by decide +kernel)) ggL_law_X6_needs
set_option maxRecDepth 20000 in
theorem ggL_law_L_ifEliminated : GoodIn wsL_law wsL_ifEliminated := goodIn_ca (goodIn_r _ [737, 178, 738, 739, 740, 2, 741, 214, 215, 216, 217, 188, 189, 17, 218, 118, 119, 16, 120, 45, 742, 743, 744, 745, 32, 36, 674, 122, 123, 31, 124, 125, 126, 50, 51, 127, 128, 129, 130, 107, 108, 109, 110, 111, 112, 113, 114, 115, 116, 352, 353, 354, 355, 356, 357, 358, 359, 360, 361, 362, 35, 363, 74, 73, 364, 365, 366, 367, 275, 276, 293, 294, 368, 369, 370, 371, 238, 239, 240, 241, 242, 243, 372, 373, 374, 375, 376, 377, 378, 379, 380, 289, 290, 291, 292, 295, 296, 297, 298, 299, 300, 301, 302, 286, 287, 288, 303, 304, 305, 306, 307, 308, 309, 310, 814, 815, 816, 817, 818, 819, 820, 832, 833, 834, 835, 842, 843, 844, 845, 846, 847, 848, 849, 850, 851] (by decide +kernel) (by decide +kernel)) (goodIn_sub (fun _ h => List.mem_append_left _ (List.mem_append_right _ h)) (by decide +kernel))
set_option maxRecDepth 20000 in
theorem gL_law_L_ifEliminated : GoodIn wsL_law (va_wsS RL 159 yL_ifEliminated wsL_ifEliminated) := goodIn_app (goodIn_of _ (by decide +kernel)) ggL_law_L_ifEliminated
set_option maxRecDepth 20000 in
theorem ggL_law_X6_ifEliminated : GoodIn wsL_law wsX6_ifEliminated := goodIn_r _ [749, 223, 224, 5, 225, 147, 148, 149, 150, 151, 152, 153, 154, 389, 390, 391, 392, 83, 393, 394, 395, 396, 79, 168, 169, 170, 397, 398, 399, 249, 250, 251, 821, 822, 823, 824, 825, 826, 827, 828, 829, 830, 831] (by decide +kernel) (by decide +kernel)
set_option maxRecDepth 20000 in
theorem gL_law_X6_ifEliminated : GoodIn wsL_law (wsV RL 161 RX6 yX6_ifEliminated wsX6_ifEliminated) := goodIn_app (goodIn_of _ (by decide +kernel)) ggL_law_X6_ifEliminated
set_option maxRecDepth 20000 in
theorem ggL_law_L_use : GoodIn wsL_law wsL_use := goodIn_ca (goodIn_r _ [752, 178, 753, 754, 755, 2, 756, 214, 215, 216, 217, 188, 189, 17, 218, 118, 119, 16, 120, 45, 757, 758, 759, 31, 760, 128, 129, 130, 814, 815, 816, 817, 818, 819, 820, 832, 833, 834, 835, 842, 843, 844, 845, 846, 847, 848, 849] (by decide +kernel) (by decide +kernel)) (goodIn_sub (fun _ h => List.mem_append_left _ (List.mem_append_right _ h)) (by decide +kernel))
set_option maxRecDepth 20000 in
theorem gL_law_L_use : GoodIn wsL_law (va_wsS RL 162 yL_use wsL_use) := goodIn_app (goodIn_of _ (by decide +kernel)) ggL_law_L_use
set_option maxRecDepth 20000 in
theorem ggL_law_X6_use : GoodIn wsL_law wsX6_use := goodIn_r _ [764, 223, 224, 5, 225, 147, 148, 149, 150, 151, 152, 153, 154, 765, 766, 767, 768, 79, 168, 169, 170, 821, 822, 823, 824, 825, 826, 827, 828, 829, 830, 831] (by decide +kernel) (by decide +kernel)
set_option maxRecDepth 20000 in
theorem gL_law_X6_use : GoodIn wsL_law (wsV RL 165 RX6 yX6_use wsX6_use) := goodIn_app (goodIn_of _ (by decide +kernel)) ggL_law_X6_use
set_option maxRecDepth 20000 in
theorem ggL_law_X5_digest : GoodIn wsL_law wsX5_digest := goodIn_r _ [772, 773, 17, 24, 23, 623, 624, 625, 2, 626, 21, 627, 628, 629, 16, 630, 45, 631, 632, 633, 634, 635, 552, 553, 554, 41, 555, 234, 235, 31, 236, 126, 237, 238, 239, 240, 241, 242, 243, 636, 637, 638, 639, 277, 191, 192, 193, 42, 774, 775, 776, 777, 190, 218, 118, 119, 120, 778, 779, 780, 781, 547, 548, 549, 550, 36, 233, 551, 556, 557, 558, 559, 356, 357, 358, 359, 127, 51, 360, 361, 362, 35, 363, 74, 73, 364, 365, 366, 367, 275, 276, 293, 294, 368, 369, 370, 371, 560, 588, 589, 590, 591, 50, 526, 527, 607, 304, 305, 306, 524, 525, 782, 783, 784, 785, 670, 671, 672, 673, 32, 674, 122, 123, 124, 125, 128, 129, 130, 107, 108, 109, 110, 111, 112, 113, 114, 115, 116, 522, 267, 268, 269, 270, 271, 272, 273, 274, 675, 279, 280, 281, 282, 283, 284, 285, 286, 287, 288, 289, 290, 291, 292, 295, 296, 297, 298, 299, 300, 301, 302, 303, 307, 308, 309, 310, 676, 677, 678, 679, 703, 704, 705, 706, 707, 523, 723, 724, 725, 726, 352, 353, 354, 355, 372, 373, 374, 375, 376, 377, 378, 379, 380, 742, 743, 744, 745, 757, 758, 759, 760, 786, 787, 788, 789, 790, 791, 814, 815, 816, 817, 818, 819, 820, 832, 833, 834, 835, 836, 837, 838, 842, 843, 844, 845, 846, 847, 848, 849, 850, 851] (by decide +kernel) (by decide +kernel)
set_option maxRecDepth 20000 in
theorem gL_law_X5_digest : GoodIn wsL_law (wsV RL 166 RX5 yX5_digest wsX5_digest) := goodIn_app (goodIn_of _ (by decide +kernel)) ggL_law_X5_digest
set_option maxRecDepth 20000 in
theorem ggL_law_X6_digest : GoodIn wsL_law wsX6_digest := goodIn_r _ [795, 154, 796, 797, 79, 414, 82, 644, 645, 646, 5, 647, 159, 648, 649, 650, 651, 168, 169, 170, 569, 570, 571, 572, 573, 574, 575, 576, 536, 537, 538, 539, 798, 799, 800, 801, 802, 803, 804, 805, 806, 565, 566, 567, 568, 249, 250, 251, 577, 578, 579, 580, 393, 394, 395, 396, 83, 397, 398, 399, 596, 597, 598, 599, 612, 613, 614, 615, 684, 685, 686, 687, 688, 689, 690, 691, 80, 322, 323, 324, 325, 326, 327, 328, 329, 330, 331, 332, 333, 334, 335, 336, 337, 338, 339, 340, 341, 342, 343, 344, 692, 693, 694, 695, 712, 713, 714, 715, 731, 732, 733, 734, 385, 386, 387, 388, 389, 390, 391, 392, 765, 766, 767, 768, 807, 808, 809, 810, 811, 812, 813, 821, 822, 823, 824, 825, 826, 827, 828, 829, 830, 831] (by decide +kernel) (by decide +kernel)
set_option maxRecDepth 20000 in
theorem gL_law_X6_digest : GoodIn wsL_law (wsV RL 170 RX6 yX6_digest wsX6_digest) := goodIn_app (goodIn_of _ (by decide +kernel)) ggL_law_X6_digest
