set_option maxRecDepth 20000 in
theorem ggL_isNeedSo_X5_ifEliminated : GoodIn wsL_isNeedSo wsX5_ifEliminated := goodIn_ca (goodIn_r _ [7, 8, 9, 10, 3, 11, 12, 13, 14, 15, 16, 17, 18, 19, 20, 21, 22, 23, 24, 25, 26, 27, 28, 29, 30, 31, 32, 33, 34, 35, 36, 37, 38, 39, 40, 41, 42, 43, 44, 45, 46, 47, 48, 49, 50, 51, 52, 53, 54, 55, 56, 57, 58, 59, 60, 61, 62, 63, 64, 65, 66, 67, 68, 69, 70, 71, 72, 73, 74, 75, 76, 77, 78, 79, 80, 81, 82, 83, 84, 85, 86, 87, 88, 89, 90, 91, 92, 93, 94, 95, 96, 97, 98, 99, 100, 101, 102, 103, 104, 105, 106, 107, 108, 109, 110, 111, 112, 113, 114, 328, 329, 330, 331, 332, 333, 334, 335, 336, 337, 338, 339, 340, 341, 342, 343, 344, 345, 346, 347, 348] (by decide +kernel) (by decide +kernel)) (goodIn_sub (fun _ h => List.mem_cons_of_mem _ (List.mem_append_left _ (List.mem_append_left _ (List.mem_append_right _ h)))) (by decide +kernel))
set_option maxRecDepth 20000 in
theorem gL_isNeedSo_X5_ifEliminated : GoodIn wsL_isNeedSo (wsV RL 77 RX5 yX5_ifEliminated wsX5_ifEliminated) := goodIn_app (goodIn_of _ (by decide +kernel)) ggL_isNeedSo_X5_ifEliminated
set_option maxRecDepth 20000 in
theorem ggL_isNeedSo_X5_receiver : GoodIn wsL_isNeedSo wsX5_receiver := goodIn_ca (goodIn_ca (goodIn_r _ [118, 8, 9, 10, 3, 11, 12, 13, 14, 15, 16, 17, 18, 19, 20, 119, 120, 121, 122, 123, 124, 125, 126, 127, 26, 128, 129, 130, 30, 131, 33, 132, 77, 78, 79, 80, 81, 82, 133, 134, 135, 136, 137, 138, 139, 140, 141, 142, 54, 55, 56, 57, 36, 35, 58, 59, 60, 61, 62, 63, 64, 65, 66, 67, 68, 69, 70, 71, 72, 73, 74, 75, 76, 143, 328, 329, 330, 331, 332, 333, 334, 335, 336, 337, 338, 339, 340, 341, 342, 343, 344, 345, 346, 347, 348] (by decide +kernel) (by decide +kernel)) (goodIn_sub (fun _ h => List.mem_cons_of_mem _ (List.mem_append_left _ (List.mem_append_left _ (List.mem_append_right _ h)))) (by decide +kernel))) (goodIn_sub (fun _ h => List.mem_cons_of_mem _ (List.mem_append_left _ (List.mem_append_right _ h))) (by decide +kernel))
set_option maxRecDepth 20000 in
theorem gL_isNeedSo_X5_receiver : GoodIn wsL_isNeedSo (wsV RL 43 RX5 yX5_receiver wsX5_receiver) := goodIn_app (goodIn_of _ (by decide +kernel)) ggL_isNeedSo_X5_receiver
set_option maxRecDepth 20000 in
theorem ggL_isNeedSo_X5_eliminate : GoodIn wsL_isNeedSo wsX5_eliminate := goodIn_ca (goodIn_r _ [147, 148, 14, 26, 8, 9, 10, 3, 11, 12, 13, 15, 16, 17, 18, 19, 20, 149, 150, 151, 152, 153, 154, 155, 156, 157, 158, 159, 160, 161, 162, 163, 164, 137, 165, 166, 40, 41, 42, 43, 44, 45, 46, 47, 48, 49, 167, 168, 28, 29, 30, 31, 32, 33, 34, 35, 36, 37, 38, 39, 50, 51, 52, 53, 54, 55, 56, 57, 58, 59, 60, 61, 62, 63, 64, 65, 66, 67, 68, 69, 70, 71, 72, 73, 74, 75, 76, 77, 78, 79, 80, 81, 82, 83, 84, 85, 86, 87, 88, 89, 90, 91, 92, 93, 94, 95, 96, 97, 98, 99, 100, 101, 102, 103, 104, 105, 106, 107, 108, 109, 110, 111, 112, 113, 114, 328, 329, 330, 331, 332, 333, 334, 335, 336, 337, 338, 349, 350, 351, 339, 340, 341, 342, 343, 344, 345, 346, 347, 348] (by decide +kernel) (by decide +kernel)) (goodIn_sub (fun _ h => List.mem_cons_of_mem _ (List.mem_append_left _ (List.mem_append_left _ (List.mem_append_right _ h)))) (by decide +kernel))
set_option maxRecDepth 20000 in
theorem gL_isNeedSo_X5_eliminate : GoodIn wsL_isNeedSo (wsV RL 34 RX5 yX5_eliminate wsX5_eliminate) := goodIn_app (goodIn_of _ (by decide +kernel)) ggL_isNeedSo_X5_eliminate
set_option maxRecDepth 20000 in
theorem ggL_isNeedSo_X5_undo : GoodIn wsL_isNeedSo wsX5_undo := goodIn_ca (goodIn_r _ [172, 173, 174, 148, 14, 175, 176, 177, 152, 178, 154, 156, 157, 158, 159, 155, 160, 161, 162, 163, 18, 164, 137, 165, 166, 20, 40, 3, 41, 42, 43, 44, 45, 46, 47, 48, 49, 167, 16, 17, 19, 168, 28, 29, 30, 31, 32, 33, 34, 35, 36, 37, 38, 39, 328, 329, 330, 331, 332, 333, 334, 349, 350, 351, 335, 336, 337, 338, 339, 340, 341, 342, 343, 344, 345, 346] (by decide +kernel) (by decide +kernel)) (goodIn_sub (fun _ h => List.mem_cons_of_mem _ (List.mem_append_right _ h)) (by decide +kernel))
set_option maxRecDepth 20000 in
theorem gL_isNeedSo_X5_undo : GoodIn wsL_isNeedSo (wsV RL 73 RX5 yX5_undo wsX5_undo) := goodIn_app (goodIn_of _ (by decide +kernel)) ggL_isNeedSo_X5_undo
set_option maxRecDepth 20000 in
theorem ggL_isNeedSo_X5_needs : GoodIn wsL_isNeedSo wsX5_needs := goodIn_ca (goodIn_ca (goodIn_r _ [182, 122, 123, 8, 9, 10, 3, 11, 12, 13, 14, 15, 16, 17, 18, 19, 20, 183, 184, 185, 186, 25, 26, 27, 28, 29, 30, 31, 32, 33, 34, 35, 36, 37, 38, 39, 40, 41, 42, 43, 44, 45, 46, 47, 48, 49, 133, 134, 135, 136, 137, 138, 129, 130, 131, 132, 77, 78, 79, 80, 81, 82, 187, 188, 189, 190, 191, 192, 193, 194, 195, 69, 70, 196, 197, 198, 199, 166, 200, 201, 202, 203, 204, 205, 206, 207, 104, 105, 106, 92, 93, 94, 95, 71, 72, 96, 97, 98, 99, 100, 101, 102, 103, 107, 108, 109, 110, 111, 112, 113, 114, 50, 51, 52, 53, 54, 55, 56, 57, 58, 59, 60, 61, 62, 63, 64, 65, 66, 67, 68, 73, 74, 75, 76, 83, 84, 85, 86, 87, 88, 89, 90, 91, 328, 329, 330, 331, 332, 333, 334, 335, 336, 337, 338, 339, 340, 341, 342, 343, 344, 345, 346, 347, 348] (by decide +kernel) (by decide +kernel)) (goodIn_sub (fun _ h => List.mem_cons_of_mem _ (List.mem_append_left _ (List.mem_append_right _ h))) (by decide +kernel))) (goodIn_sub (fun _ h => List.mem_cons_of_mem _ (List.mem_append_left _ (List.mem_append_left _ (List.mem_append_right _ h)))) (by decide +kernel))
set_option maxRecDepth 20000 in
theorem gL_isNeedSo_X5_needs : GoodIn wsL_isNeedSo (wsV RL 80 RX5 yX5_needs wsX5_needs) := goodIn_app (goodIn_of _ (by decide +kernel)) ggL_isNeedSo_X5_needs
set_option maxRecDepth 20000 in
theorem ggL_isNeedSo_X5_init : GoodIn wsL_isNeedSo wsX5_init := goodIn_r _ [210, 211, 212, 213, 214, 215, 18, 14, 216, 217, 152, 148, 218, 219, 220, 221, 222, 223, 224, 225, 226, 30, 25, 227, 228, 61, 26, 229, 230, 231, 232, 137, 166, 165, 233, 20, 234, 235, 236, 237, 34, 35, 238, 239, 240, 241, 242, 160, 155, 154, 243, 244, 245, 246, 247, 248, 249, 250, 251, 252, 253, 254, 255, 64, 63, 335, 336, 337, 338, 328, 329, 330, 331, 332, 333, 334, 349, 350, 351, 352, 353, 354, 339, 340, 341, 342, 343, 344, 345, 346, 347, 348] (by decide +kernel) (by decide +kernel)
set_option maxRecDepth 20000 in
theorem gL_isNeedSo_X5_init : GoodIn wsL_isNeedSo (wsX5_init) := ggL_isNeedSo_X5_init
set_option maxRecDepth 20000 in
theorem ggL_isNeedSo_X5_count : GoodIn wsL_isNeedSo wsX5_count := goodIn_ca (goodIn_r _ [259, 119, 120, 3, 121, 122, 123, 260, 261, 262, 263, 14, 148, 264, 265, 266, 18, 267, 20, 268, 269, 270, 271, 272, 134, 135, 136, 137, 138, 129, 130, 30, 131, 33, 132, 77, 78, 79, 80, 81, 82, 273, 274, 275, 276, 196, 197, 198, 199, 166, 328, 329, 330, 331, 332, 333, 334, 335, 336, 337, 338, 349, 350, 351, 339, 340, 341, 342, 343, 344, 345, 346] (by decide +kernel) (by decide +kernel)) (goodIn_sub (fun _ h => List.mem_cons_of_mem _ (List.mem_append_left _ (List.mem_append_right _ h))) (by decide +kernel))
set_option maxRecDepth 20000 in
theorem gL_isNeedSo_X5_count : GoodIn wsL_isNeedSo (wsV RL 20 RX5 yX5_count wsX5_count) := goodIn_app (goodIn_of _ (by decide +kernel)) ggL_isNeedSo_X5_count
set_option maxRecDepth 20000 in
theorem ggL_isNeedSo_X5_size : GoodIn wsL_isNeedSo wsX5_size := goodIn_ca (goodIn_r _ [280, 122, 123, 148, 14, 149, 150, 151, 152, 153, 154, 155, 156, 157, 158, 159, 160, 161, 162, 163, 18, 164, 137, 165, 166, 20, 40, 3, 41, 42, 43, 44, 45, 46, 47, 48, 49, 167, 16, 17, 19, 168, 28, 29, 30, 31, 32, 33, 34, 35, 36, 37, 38, 39, 281, 282, 283, 284, 285, 286, 287, 288, 289, 290, 291, 292, 328, 329, 330, 331, 332, 333, 334, 335, 336, 337, 338, 349, 350, 351, 339, 340, 341, 342, 343, 344, 345, 346] (by decide +kernel) (by decide +kernel)) (goodIn_sub (fun _ h => List.mem_cons_of_mem _ (List.mem_append_left _ (List.mem_append_right _ h))) (by decide +kernel))
set_option maxRecDepth 20000 in
theorem gL_isNeedSo_X5_size : GoodIn wsL_isNeedSo (wsV RL 14 RX5 yX5_size wsX5_size) := goodIn_app (goodIn_of _ (by decide +kernel)) ggL_isNeedSo_X5_size
set_option maxRecDepth 20000 in
theorem ggL_isNeedSo_X5_listen : GoodIn wsL_isNeedSo wsX5_listen := goodIn_ca (goodIn_r _ [296, 148, 14, 8, 9, 10, 3, 11, 12, 13, 15, 16, 17, 18, 19, 20, 149, 150, 151, 152, 153, 154, 155, 156, 157, 158, 159, 160, 161, 162, 163, 164, 137, 165, 166, 40, 41, 42, 43, 44, 45, 46, 47, 48, 49, 167, 168, 28, 29, 30, 31, 32, 33, 34, 35, 36, 37, 38, 39, 328, 329, 330, 331, 332, 333, 334, 339, 340, 341, 342, 343, 344, 345, 346, 335, 336, 337, 338, 349, 350, 351] (by decide +kernel) (by decide +kernel)) (goodIn_sub (fun _ h => List.mem_cons_of_mem _ (List.mem_append_left _ (List.mem_append_left _ (List.mem_append_right _ h)))) (by decide +kernel))
set_option maxRecDepth 20000 in
theorem gL_isNeedSo_X5_listen : GoodIn wsL_isNeedSo (wsV RL 27 RX5 yX5_listen wsX5_listen) := goodIn_app (goodIn_of _ (by decide +kernel)) ggL_isNeedSo_X5_listen
set_option maxRecDepth 20000 in
theorem ggL_isNeedSo_X5_block : GoodIn wsL_isNeedSo wsX5_block := goodIn_ca (goodIn_r _ [300, 14, 301, 302, 303, 3, 304, 12, 13, 305, 197, 198, 18, 199, 166, 328, 329, 330, 331, 332, 333, 334, 335, 336, 337, 338] (by decide +kernel) (by decide +kernel)) (goodIn_sub (fun _ h => List.mem_cons_of_mem _ (List.mem_append_left _ (List.mem_append_left _ (List.mem_append_right _ h)))) (by decide +kernel))
set_option maxRecDepth 20000 in
theorem gL_isNeedSo_X5_block : GoodIn wsL_isNeedSo (wsV RL 40 RX5 yX5_block wsX5_block) := goodIn_app (goodIn_of _ (by decide +kernel)) ggL_isNeedSo_X5_block
set_option maxRecDepth 20000 in
theorem ggL_isNeedSo_X5_write : GoodIn wsL_isNeedSo wsX5_write := goodIn_ca (goodIn_ca (goodIn_r _ [309, 122, 123, 310, 148, 14, 301, 302, 303, 3, 304, 12, 13, 149, 150, 151, 152, 153, 154, 155, 156, 157, 158, 159, 160, 161, 162, 163, 18, 164, 137, 165, 166, 20, 40, 41, 42, 43, 44, 45, 46, 47, 48, 49, 167, 16, 17, 19, 168, 28, 29, 30, 31, 32, 33, 34, 35, 36, 37, 38, 39, 305, 197, 198, 199, 311, 312, 313, 314, 285, 286, 287, 288, 289, 290, 291, 292, 328, 329, 330, 331, 332, 333, 334, 335, 336, 337, 338, 349, 350, 351, 339, 340, 341, 342, 343, 344, 345, 346] (by decide +kernel) (by decide +kernel)) (goodIn_sub (fun _ h => List.mem_cons_of_mem _ (List.mem_append_left _ (List.mem_append_right _ h))) (by decide +kernel))) (goodIn_sub (fun _ h => List.mem_cons_of_mem _ (List.mem_append_left _ (List.mem_append_left _ (List.mem_append_right _ h)))) (by decide +kernel))
set_option maxRecDepth 20000 in
theorem gL_isNeedSo_X5_write : GoodIn wsL_isNeedSo (wsV RL 24 RX5 yX5_write wsX5_write) := goodIn_app (goodIn_of _ (by decide +kernel)) ggL_isNeedSo_X5_write
set_option maxRecDepth 20000 in
theorem ggL_isNeedSo_X5_send : GoodIn wsL_isNeedSo wsX5_send := goodIn_ca (goodIn_r _ [318, 148, 14, 319, 320, 3, 321, 122, 123, 149, 150, 151, 152, 153, 154, 155, 156, 157, 158, 159, 160, 161, 162, 163, 18, 164, 137, 165, 166, 20, 40, 41, 42, 43, 44, 45, 46, 47, 48, 49, 167, 16, 17, 19, 168, 28, 29, 30, 31, 32, 33, 34, 35, 36, 37, 38, 39, 322, 323, 324, 325, 326, 188, 189, 190, 191, 192, 193, 194, 195, 69, 70, 196, 197, 198, 199, 327, 201, 202, 203, 204, 205, 206, 207, 104, 105, 106, 77, 78, 79, 80, 81, 82, 92, 93, 94, 95, 71, 72, 96, 97, 98, 99, 100, 101, 102, 103, 107, 108, 109, 110, 111, 112, 113, 114, 328, 329, 330, 331, 332, 333, 334, 349, 350, 351, 335, 336, 337, 338, 339, 340, 341, 342, 343, 344, 345, 346] (by decide +kernel) (by decide +kernel)) (goodIn_sub (fun _ h => List.mem_cons_of_mem _ (List.mem_append_left _ (List.mem_append_right _ h))) (by decide +kernel))
set_option maxRecDepth 20000 in
theorem gL_isNeedSo_X5_send : GoodIn wsL_isNeedSo (wsV RL 37 RX5 yX5_send wsX5_send) := goodIn_app (goodIn_of _ (by decide +kernel)) ggL_isNeedSo_X5_send
theorem dL_isNeedSo_0 : decode cL_isNeedSo 0 = .ok (.aload_n 0, 1) := by decide +kernel
theorem dL_isNeedSo_1 : decode cL_isNeedSo 1 = .ok (.iload_n 1, 1) := by decide +kernel
theorem dL_isNeedSo_2 : decode cL_isNeedSo 2 = .ok (.invokevirtual 77, 3) := by decide +kernel
theorem dL_isNeedSo_5 : decode cL_isNeedSo 5 = .ok (.istore_n 3, 1) := by decide +kernel
theorem dL_isNeedSo_6 : decode cL_isNeedSo 6 = .ok (.aload_n 0, 1) := by decide +kernel
theorem dL_isNeedSo_7 : decode cL_isNeedSo 7 = .ok (.iload_n 1, 1) := by decide +kernel
theorem dL_isNeedSo_8 : decode cL_isNeedSo 8 = .ok (.bipush 8, 2) := by decide +kernel
theorem dL_isNeedSo_10 : decode cL_isNeedSo 10 = .ok (.invokevirtual 43, 3) := by decide +kernel
theorem dL_isNeedSo_13 : decode cL_isNeedSo 13 = .ok (.istore 4, 2) := by decide +kernel
theorem dL_isNeedSo_15 : decode cL_isNeedSo 15 = .ok (.aload_n 0, 1) := by decide +kernel
theorem dL_isNeedSo_16 : decode cL_isNeedSo 16 = .ok (.iload_n 1, 1) := by decide +kernel
theorem dL_isNeedSo_17 : decode cL_isNeedSo 17 = .ok (.iconst 1, 1) := by decide +kernel
theorem dL_isNeedSo_18 : decode cL_isNeedSo 18 = .ok (.invokevirtual 43, 3) := by decide +kernel
theorem dL_isNeedSo_21 : decode cL_isNeedSo 21 = .ok (.istore 5, 2) := by decide +kernel
theorem dL_isNeedSo_23 : decode cL_isNeedSo 23 = .ok (.aload_n 0, 1) := by decide +kernel
theorem dL_isNeedSo_24 : decode cL_isNeedSo 24 = .ok (.iload_n 1, 1) := by decide +kernel
theorem dL_isNeedSo_25 : decode cL_isNeedSo 25 = .ok (.invokevirtual 34, 3) := by decide +kernel
theorem dL_isNeedSo_28 : decode cL_isNeedSo 28 = .ok (.iload_n 3, 1) := by decide +kernel
theorem dL_isNeedSo_29 : decode cL_isNeedSo 29 = .ok (.if_icmp .ne 40, 3) := by decide +kernel
theorem dL_isNeedSo_32 : decode cL_isNeedSo 32 = .ok (.aload_n 0, 1) := by decide +kernel
theorem dL_isNeedSo_33 : decode cL_isNeedSo 33 = .ok (.iload_n 1, 1) := by decide +kernel
theorem dL_isNeedSo_34 : decode cL_isNeedSo 34 = .ok (.iconst 1, 1) := by decide +kernel
theorem dL_isNeedSo_35 : decode cL_isNeedSo 35 = .ok (.invokevirtual 43, 3) := by decide +kernel
theorem dL_isNeedSo_38 : decode cL_isNeedSo 38 = .ok (.iload 5, 2) := by decide +kernel
theorem dL_isNeedSo_40 : decode cL_isNeedSo 40 = .ok (.iload_n 3, 1) := by decide +kernel
theorem dL_isNeedSo_41 : decode cL_isNeedSo 41 = .ok (.iadd, 1) := by decide +kernel
theorem dL_isNeedSo_42 : decode cL_isNeedSo 42 = .ok (.if_icmp .ne 27, 3) := by decide +kernel
theorem dL_isNeedSo_45 : decode cL_isNeedSo 45 = .ok (.aload_n 0, 1) := by decide +kernel
theorem dL_isNeedSo_46 : decode cL_isNeedSo 46 = .ok (.iload_n 1, 1) := by decide +kernel
theorem dL_isNeedSo_47 : decode cL_isNeedSo 47 = .ok (.invokevirtual 77, 3) := by decide +kernel
theorem dL_isNeedSo_50 : decode cL_isNeedSo 50 = .ok (.ifCond .ne 19, 3) := by decide +kernel
theorem dL_isNeedSo_53 : decode cL_isNeedSo 53 = .ok (.aload_n 0, 1) := by decide +kernel
theorem dL_isNeedSo_54 : decode cL_isNeedSo 54 = .ok (.iload_n 1, 1) := by decide +kernel
theorem dL_isNeedSo_55 : decode cL_isNeedSo 55 = .ok (.bipush 8, 2) := by decide +kernel
theorem dL_isNeedSo_57 : decode cL_isNeedSo 57 = .ok (.invokevirtual 43, 3) := by decide +kernel
theorem dL_isNeedSo_60 : decode cL_isNeedSo 60 = .ok (.iload 4, 2) := by decide +kernel
theorem dL_isNeedSo_62 : decode cL_isNeedSo 62 = .ok (.if_icmp .ne 7, 3) := by decide +kernel
theorem dL_isNeedSo_65 : decode cL_isNeedSo 65 = .ok (.iconst 1, 1) := by decide +kernel
theorem dL_isNeedSo_66 : decode cL_isNeedSo 66 = .ok (.goto 4, 3) := by decide +kernel
theorem dL_isNeedSo_69 : decode cL_isNeedSo 69 = .ok (.iconst 0, 1) := by decide +kernel
theorem dL_isNeedSo_70 : decode cL_isNeedSo 70 = .ok (.istore 6, 2) := by decide +kernel
theorem dL_isNeedSo_72 : decode cL_isNeedSo 72 = .ok (.aload_n 0, 1) := by decide +kernel
theorem dL_isNeedSo_73 : decode cL_isNeedSo 73 = .ok (.invokevirtual 73, 3) := by decide +kernel
theorem dL_isNeedSo_76 : decode cL_isNeedSo 76 = .ok (.istore 7, 2) := by decide +kernel
theorem dL_isNeedSo_78 : decode cL_isNeedSo 78 = .ok (.aload_n 0, 1) := by decide +kernel
theorem dL_isNeedSo_79 : decode cL_isNeedSo 79 = .ok (.iload_n 1, 1) := by decide +kernel
theorem dL_isNeedSo_80 : decode cL_isNeedSo 80 = .ok (.iload_n 2, 1) := by decide +kernel
theorem dL_isNeedSo_81 : decode cL_isNeedSo 81 = .ok (.iconst 0, 1) := by decide +kernel
theorem dL_isNeedSo_82 : decode cL_isNeedSo 82 = .ok (.invokevirtual 80, 3) := by decide +kernel
theorem dL_isNeedSo_85 : decode cL_isNeedSo 85 = .ok (.istore 8, 2) := by decide +kernel
theorem dL_isNeedSo_87 : decode cL_isNeedSo 87 = .ok (.aload_n 0, 1) := by decide +kernel
theorem dL_isNeedSo_88 : decode cL_isNeedSo 88 = .ok (.iload_n 1, 1) := by decide +kernel
theorem dL_isNeedSo_89 : decode cL_isNeedSo 89 = .ok (.iload_n 2, 1) := by decide +kernel
theorem dL_isNeedSo_90 : decode cL_isNeedSo 90 = .ok (.iconst 1, 1) := by decide +kernel
theorem dL_isNeedSo_91 : decode cL_isNeedSo 91 = .ok (.invokevirtual 80, 3) := by decide +kernel
theorem dL_isNeedSo_94 : decode cL_isNeedSo 94 = .ok (.istore 9, 2) := by decide +kernel
theorem dL_isNeedSo_96 : decode cL_isNeedSo 96 = .ok (.iload 6, 2) := by decide +kernel
theorem dL_isNeedSo_98 : decode cL_isNeedSo 98 = .ok (.ifCond .eq 105, 3) := by decide +kernel
theorem dL_isNeedSo_101 : decode cL_isNeedSo 101 = .ok (.iload 7, 2) := by decide +kernel
theorem dL_isNeedSo_103 : decode cL_isNeedSo 103 = .ok (.ifCond .lt 100, 3) := by decide +kernel
theorem dL_isNeedSo_106 : decode cL_isNeedSo 106 = .ok (.iload 8, 2) := by decide +kernel
theorem dL_isNeedSo_108 : decode cL_isNeedSo 108 = .ok (.ifCond .ne 7, 3) := by decide +kernel
theorem dL_isNeedSo_111 : decode cL_isNeedSo 111 = .ok (.iconst 1, 1) := by decide +kernel
theorem dL_isNeedSo_112 : decode cL_isNeedSo 112 = .ok (.goto 4, 3) := by decide +kernel
theorem dL_isNeedSo_115 : decode cL_isNeedSo 115 = .ok (.iconst 0, 1) := by decide +kernel
theorem dL_isNeedSo_116 : decode cL_isNeedSo 116 = .ok (.aload_n 0, 1) := by decide +kernel
theorem dL_isNeedSo_117 : decode cL_isNeedSo 117 = .ok (.iload_n 1, 1) := by decide +kernel
theorem dL_isNeedSo_118 : decode cL_isNeedSo 118 = .ok (.bipush 7, 2) := by decide +kernel
theorem dL_isNeedSo_120 : decode cL_isNeedSo 120 = .ok (.invokevirtual 43, 3) := by decide +kernel
theorem dL_isNeedSo_123 : decode cL_isNeedSo 123 = .ok (.iconst 1, 1) := by decide +kernel
theorem dL_isNeedSo_124 : decode cL_isNeedSo 124 = .ok (.if_icmp .ne 7, 3) := by decide +kernel
theorem dL_isNeedSo_127 : decode cL_isNeedSo 127 = .ok (.iconst 1, 1) := by decide +kernel
theorem dL_isNeedSo_128 : decode cL_isNeedSo 128 = .ok (.goto 4, 3) := by decide +kernel
theorem dL_isNeedSo_131 : decode cL_isNeedSo 131 = .ok (.iconst 0, 1) := by decide +kernel
theorem dL_isNeedSo_132 : decode cL_isNeedSo 132 = .ok (.if_icmp .ne 71, 3) := by decide +kernel
theorem dL_isNeedSo_135 : decode cL_isNeedSo 135 = .ok (.iload 9, 2) := by decide +kernel
theorem dL_isNeedSo_137 : decode cL_isNeedSo 137 = .ok (.ifCond .ne 7, 3) := by decide +kernel
theorem dL_isNeedSo_140 : decode cL_isNeedSo 140 = .ok (.iconst 1, 1) := by decide +kernel
theorem dL_isNeedSo_141 : decode cL_isNeedSo 141 = .ok (.goto 4, 3) := by decide +kernel
theorem dL_isNeedSo_144 : decode cL_isNeedSo 144 = .ok (.iconst 0, 1) := by decide +kernel
theorem dL_isNeedSo_145 : decode cL_isNeedSo 145 = .ok (.iload 8, 2) := by decide +kernel
theorem dL_isNeedSo_147 : decode cL_isNeedSo 147 = .ok (.ifCond .ne 7, 3) := by decide +kernel
theorem dL_isNeedSo_150 : decode cL_isNeedSo 150 = .ok (.iconst 1, 1) := by decide +kernel
theorem dL_isNeedSo_151 : decode cL_isNeedSo 151 = .ok (.goto 4, 3) := by decide +kernel
theorem dL_isNeedSo_154 : decode cL_isNeedSo 154 = .ok (.iconst 0, 1) := by decide +kernel
theorem dL_isNeedSo_155 : decode cL_isNeedSo 155 = .ok (.if_icmp .ne 48, 3) := by decide +kernel
theorem dL_isNeedSo_158 : decode cL_isNeedSo 158 = .ok (.aload_n 0, 1) := by decide +kernel
theorem dL_isNeedSo_159 : decode cL_isNeedSo 159 = .ok (.iload_n 1, 1) := by decide +kernel
theorem dL_isNeedSo_160 : decode cL_isNeedSo 160 = .ok (.iconst 3, 1) := by decide +kernel
theorem dL_isNeedSo_161 : decode cL_isNeedSo 161 = .ok (.invokevirtual 43, 3) := by decide +kernel
theorem dL_isNeedSo_164 : decode cL_isNeedSo 164 = .ok (.iconst 4, 1) := by decide +kernel
theorem dL_isNeedSo_165 : decode cL_isNeedSo 165 = .ok (.if_icmp .gt 34, 3) := by decide +kernel
theorem dL_isNeedSo_168 : decode cL_isNeedSo 168 = .ok (.iload 8, 2) := by decide +kernel
theorem dL_isNeedSo_170 : decode cL_isNeedSo 170 = .ok (.ifCond .lt 29, 3) := by decide +kernel
theorem dL_isNeedSo_173 : decode cL_isNeedSo 173 = .ok (.iload 9, 2) := by decide +kernel
theorem dL_isNeedSo_175 : decode cL_isNeedSo 175 = .ok (.ifCond .lt 24, 3) := by decide +kernel
theorem dL_isNeedSo_178 : decode cL_isNeedSo 178 = .ok (.iload 8, 2) := by decide +kernel
theorem dL_isNeedSo_180 : decode cL_isNeedSo 180 = .ok (.bipush 20, 2) := by decide +kernel
theorem dL_isNeedSo_182 : decode cL_isNeedSo 182 = .ok (.if_icmp .gt 17, 3) := by decide +kernel
theorem dL_isNeedSo_185 : decode cL_isNeedSo 185 = .ok (.iload 9, 2) := by decide +kernel
theorem dL_isNeedSo_187 : decode cL_isNeedSo 187 = .ok (.bipush 20, 2) := by decide +kernel
theorem dL_isNeedSo_189 : decode cL_isNeedSo 189 = .ok (.if_icmp .gt 10, 3) := by decide +kernel
theorem dL_isNeedSo_192 : decode cL_isNeedSo 192 = .ok (.iload 9, 2) := by decide +kernel
theorem dL_isNeedSo_194 : decode cL_isNeedSo 194 = .ok (.iload 8, 2) := by decide +kernel
theorem dL_isNeedSo_196 : decode cL_isNeedSo 196 = .ok (.if_icmp .gt 7, 3) := by decide +kernel
theorem dL_isNeedSo_199 : decode cL_isNeedSo 199 = .ok (.iconst 1, 1) := by decide +kernel
theorem dL_isNeedSo_200 : decode cL_isNeedSo 200 = .ok (.goto 4, 3) := by decide +kernel
theorem dL_isNeedSo_203 : decode cL_isNeedSo 203 = .ok (.iconst 0, 1) := by decide +kernel
theorem dL_isNeedSo_204 : decode cL_isNeedSo 204 = .ok (.istore 6, 2) := by decide +kernel
theorem dL_isNeedSo_206 : decode cL_isNeedSo 206 = .ok (.iload 8, 2) := by decide +kernel
theorem dL_isNeedSo_208 : decode cL_isNeedSo 208 = .ok (.iconst 1, 1) := by decide +kernel
theorem dL_isNeedSo_209 : decode cL_isNeedSo 209 = .ok (.if_icmp .lt 10, 3) := by decide +kernel
theorem dL_isNeedSo_212 : decode cL_isNeedSo 212 = .ok (.iload 8, 2) := by decide +kernel
theorem dL_isNeedSo_214 : decode cL_isNeedSo 214 = .ok (.bipush 40, 2) := by decide +kernel
theorem dL_isNeedSo_216 : decode cL_isNeedSo 216 = .ok (.if_icmp .le 6, 3) := by decide +kernel
theorem dL_isNeedSo_219 : decode cL_isNeedSo 219 = .ok (.iload 6, 2) := by decide +kernel
theorem dL_isNeedSo_221 : decode cL_isNeedSo 221 = .ok (.ireturn, 1) := by decide +kernel
theorem dL_isNeedSo_222 : decode cL_isNeedSo 222 = .ok (.new 15, 3) := by decide +kernel
theorem dL_isNeedSo_225 : decode cL_isNeedSo 225 = .ok (.dup, 1) := by decide +kernel
theorem dL_isNeedSo_226 : decode cL_isNeedSo 226 = .ok (.invokespecial 84, 3) := by decide +kernel
theorem dL_isNeedSo_229 : decode cL_isNeedSo 229 = .ok (.astore 10, 2) := by decide +kernel
theorem dL_isNeedSo_231 : decode cL_isNeedSo 231 = .ok (.aload 10, 2) := by decide +kernel
theorem dL_isNeedSo_233 : decode cL_isNeedSo 233 = .ok (.aload_n 0, 1) := by decide +kernel
theorem dL_isNeedSo_234 : decode cL_isNeedSo 234 = .ok (.iconst 0, 1) := by decide +kernel
theorem dL_isNeedSo_235 : decode cL_isNeedSo 235 = .ok (.invokevirtual 20, 3) := by decide +kernel
theorem dL_isNeedSo_238 : decode cL_isNeedSo 238 = .ok (.invokevirtual 14, 3) := by decide +kernel
theorem dL_isNeedSo_241 : decode cL_isNeedSo 241 = .ok (.istore 11, 2) := by decide +kernel
theorem dL_isNeedSo_243 : decode cL_isNeedSo 243 = .ok (.aload 10, 2) := by decide +kernel
theorem dL_isNeedSo_245 : decode cL_isNeedSo 245 = .ok (.iconst 0, 1) := by decide +kernel
theorem dL_isNeedSo_246 : decode cL_isNeedSo 246 = .ok (.iconst 1, 1) := by decide +kernel
theorem dL_isNeedSo_247 : decode cL_isNeedSo 247 = .ok (.invokevirtual 27, 3) := by decide +kernel
theorem dL_isNeedSo_250 : decode cL_isNeedSo 250 = .ok (.istore 12, 2) := by decide +kernel
theorem dL_isNeedSo_252 : decode cL_isNeedSo 252 = .ok (.iconst 0, 1) := by decide +kernel
theorem dL_isNeedSo_253 : decode cL_isNeedSo 253 = .ok (.istore 13, 2) := by decide +kernel
theorem dL_isNeedSo_255 : decode cL_isNeedSo 255 = .ok (.iload 13, 2) := by decide +kernel
theorem dL_isNeedSo_257 : decode cL_isNeedSo 257 = .ok (.aload_n 0, 1) := by decide +kernel
theorem dL_isNeedSo_258 : decode cL_isNeedSo 258 = .ok (.iconst 0, 1) := by decide +kernel
theorem dL_isNeedSo_259 : decode cL_isNeedSo 259 = .ok (.invokevirtual 20, 3) := by decide +kernel
theorem dL_isNeedSo_262 : decode cL_isNeedSo 262 = .ok (.if_icmp .ge 24, 3) := by decide +kernel
theorem dL_isNeedSo_265 : decode cL_isNeedSo 265 = .ok (.aload 10, 2) := by decide +kernel
theorem dL_isNeedSo_267 : decode cL_isNeedSo 267 = .ok (.iload 13, 2) := by decide +kernel
theorem dL_isNeedSo_269 : decode cL_isNeedSo 269 = .ok (.aload_n 0, 1) := by decide +kernel
theorem dL_isNeedSo_270 : decode cL_isNeedSo 270 = .ok (.iload 13, 2) := by decide +kernel
theorem dL_isNeedSo_272 : decode cL_isNeedSo 272 = .ok (.invokevirtual 40, 3) := by decide +kernel
theorem dL_isNeedSo_275 : decode cL_isNeedSo 275 = .ok (.invokevirtual 24, 3) := by decide +kernel
theorem dL_isNeedSo_278 : decode cL_isNeedSo 278 = .ok (.istore 14, 2) := by decide +kernel
theorem dL_isNeedSo_280 : decode cL_isNeedSo 280 = .ok (.iinc 13 1, 3) := by decide +kernel
theorem dL_isNeedSo_283 : decode cL_isNeedSo 283 = .ok (.goto (-28), 3) := by decide +kernel
theorem dL_isNeedSo_286 : decode cL_isNeedSo 286 = .ok (.aload 10, 2) := by decide +kernel
theorem dL_isNeedSo_288 : decode cL_isNeedSo 288 = .ok (.iconst 0, 1) := by decide +kernel
theorem dL_isNeedSo_289 : decode cL_isNeedSo 289 = .ok (.iload_n 2, 1) := by decide +kernel
theorem dL_isNeedSo_290 : decode cL_isNeedSo 290 = .ok (.iconst 0, 1) := by decide +kernel
theorem dL_isNeedSo_291 : decode cL_isNeedSo 291 = .ok (.invokevirtual 80, 3) := by decide +kernel
theorem dL_isNeedSo_294 : decode cL_isNeedSo 294 = .ok (.istore 13, 2) := by decide +kernel
theorem dL_isNeedSo_296 : decode cL_isNeedSo 296 = .ok (.iconst 0, 1) := by decide +kernel
theorem dL_isNeedSo_297 : decode cL_isNeedSo 297 = .ok (.istore 14, 2) := by decide +kernel
theorem dL_isNeedSo_299 : decode cL_isNeedSo 299 = .ok (.iload 14, 2) := by decide +kernel
theorem dL_isNeedSo_301 : decode cL_isNeedSo 301 = .ok (.iload 13, 2) := by decide +kernel
theorem dL_isNeedSo_303 : decode cL_isNeedSo 303 = .ok (.if_icmp .ge 43, 3) := by decide +kernel
theorem dL_isNeedSo_306 : decode cL_isNeedSo 306 = .ok (.iload 6, 2) := by decide +kernel
theorem dL_isNeedSo_308 : decode cL_isNeedSo 308 = .ok (.ifCond .eq 18, 3) := by decide +kernel
theorem dL_isNeedSo_311 : decode cL_isNeedSo 311 = .ok (.aload 10, 2) := by decide +kernel
theorem dL_isNeedSo_313 : decode cL_isNeedSo 313 = .ok (.iconst 0, 1) := by decide +kernel
theorem dL_isNeedSo_314 : decode cL_isNeedSo 314 = .ok (.bipush 7, 2) := by decide +kernel
theorem dL_isNeedSo_316 : decode cL_isNeedSo 316 = .ok (.invokevirtual 43, 3) := by decide +kernel
theorem dL_isNeedSo_319 : decode cL_isNeedSo 319 = .ok (.ifCond .ne 7, 3) := by decide +kernel
theorem dL_isNeedSo_322 : decode cL_isNeedSo 322 = .ok (.iconst 1, 1) := by decide +kernel
theorem dL_isNeedSo_323 : decode cL_isNeedSo 323 = .ok (.goto 4, 3) := by decide +kernel
theorem dL_isNeedSo_326 : decode cL_isNeedSo 326 = .ok (.iconst 0, 1) := by decide +kernel
theorem dL_isNeedSo_327 : decode cL_isNeedSo 327 = .ok (.istore 6, 2) := by decide +kernel
theorem dL_isNeedSo_329 : decode cL_isNeedSo 329 = .ok (.aload 10, 2) := by decide +kernel
theorem dL_isNeedSo_331 : decode cL_isNeedSo 331 = .ok (.iload_n 2, 1) := by decide +kernel
theorem dL_isNeedSo_332 : decode cL_isNeedSo 332 = .ok (.iload 14, 2) := by decide +kernel
theorem dL_isNeedSo_334 : decode cL_isNeedSo 334 = .ok (.iadd, 1) := by decide +kernel
theorem dL_isNeedSo_335 : decode cL_isNeedSo 335 = .ok (.invokevirtual 37, 3) := by decide +kernel
theorem dL_isNeedSo_338 : decode cL_isNeedSo 338 = .ok (.istore 15, 2) := by decide +kernel
theorem dL_isNeedSo_340 : decode cL_isNeedSo 340 = .ok (.iinc 14 1, 3) := by decide +kernel
theorem dL_isNeedSo_343 : decode cL_isNeedSo 343 = .ok (.goto (-44), 3) := by decide +kernel
theorem dL_isNeedSo_346 : decode cL_isNeedSo 346 = .ok (.iload 6, 2) := by decide +kernel
theorem dL_isNeedSo_348 : decode cL_isNeedSo 348 = .ok (.ifCond .eq 47, 3) := by decide +kernel
theorem dL_isNeedSo_351 : decode cL_isNeedSo 351 = .ok (.iload 13, 2) := by decide +kernel
theorem dL_isNeedSo_353 : decode cL_isNeedSo 353 = .ok (.ifCond .lt 15, 3) := by decide +kernel
theorem dL_isNeedSo_356 : decode cL_isNeedSo 356 = .ok (.aload 10, 2) := by decide +kernel
theorem dL_isNeedSo_358 : decode cL_isNeedSo 358 = .ok (.iconst 0, 1) := by decide +kernel
theorem dL_isNeedSo_359 : decode cL_isNeedSo 359 = .ok (.bipush 7, 2) := by decide +kernel
theorem dL_isNeedSo_361 : decode cL_isNeedSo 361 = .ok (.invokevirtual 43, 3) := by decide +kernel
theorem dL_isNeedSo_364 : decode cL_isNeedSo 364 = .ok (.iconst 1, 1) := by decide +kernel
theorem dL_isNeedSo_365 : decode cL_isNeedSo 365 = .ok (.if_icmp .ne 30, 3) := by decide +kernel
theorem dL_isNeedSo_368 : decode cL_isNeedSo 368 = .ok (.aload_n 0, 1) := by decide +kernel
theorem dL_isNeedSo_369 : decode cL_isNeedSo 369 = .ok (.iload_n 1, 1) := by decide +kernel
theorem dL_isNeedSo_370 : decode cL_isNeedSo 370 = .ok (.iconst 1, 1) := by decide +kernel
theorem dL_isNeedSo_371 : decode cL_isNeedSo 371 = .ok (.invokevirtual 43, 3) := by decide +kernel
theorem dL_isNeedSo_374 : decode cL_isNeedSo 374 = .ok (.aload_n 0, 1) := by decide +kernel
theorem dL_isNeedSo_375 : decode cL_isNeedSo 375 = .ok (.iload_n 1, 1) := by decide +kernel
theorem dL_isNeedSo_376 : decode cL_isNeedSo 376 = .ok (.iconst 3, 1) := by decide +kernel
theorem dL_isNeedSo_377 : decode cL_isNeedSo 377 = .ok (.invokevirtual 43, 3) := by decide +kernel
theorem dL_isNeedSo_380 : decode cL_isNeedSo 380 = .ok (.iadd, 1) := by decide +kernel
theorem dL_isNeedSo_381 : decode cL_isNeedSo 381 = .ok (.ifCond .gt 10, 3) := by decide +kernel
theorem dL_isNeedSo_384 : decode cL_isNeedSo 384 = .ok (.iload 13, 2) := by decide +kernel
theorem dL_isNeedSo_386 : decode cL_isNeedSo 386 = .ok (.iload 8, 2) := by decide +kernel
theorem dL_isNeedSo_388 : decode cL_isNeedSo 388 = .ok (.if_icmp .ne 7, 3) := by decide +kernel
theorem dL_isNeedSo_391 : decode cL_isNeedSo 391 = .ok (.iconst 1, 1) := by decide +kernel
theorem dL_isNeedSo_392 : decode cL_isNeedSo 392 = .ok (.goto 4, 3) := by decide +kernel
theorem dL_isNeedSo_395 : decode cL_isNeedSo 395 = .ok (.iconst 0, 1) := by decide +kernel
theorem dL_isNeedSo_396 : decode cL_isNeedSo 396 = .ok (.ireturn, 1) := by decide +kernel
