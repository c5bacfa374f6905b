set_option maxRecDepth 20000 in
theorem ggL_isGotSo_X5_ifGot : GoodIn wsL_isGotSo wsX5_ifGot := goodIn_ca (goodIn_ca (goodIn_r _ [5, 6, 7, 8, 4, 9, 10, 11, 12, 13, 14, 15, 16, 17, 18, 19, 20, 21, 22, 23, 24, 25, 26, 27, 28, 29, 30, 31, 32, 33, 34, 35, 36, 37, 38, 39, 40, 41, 42, 43, 44, 45, 46, 47, 48, 49, 50, 51, 52, 53, 54, 55, 56, 57, 58, 59, 60, 61, 62, 63, 64, 65, 66, 67, 68, 69, 70, 71, 72, 73, 74, 75, 76, 77, 78, 79, 80, 81, 82, 83, 84, 85, 86, 87, 88, 89, 90, 91, 92, 93, 94, 95, 96, 97, 98, 99, 100, 101, 102, 103, 104, 105, 106, 107, 108, 109, 110, 111, 112, 113, 114, 115, 116, 117, 118, 119, 120, 121, 122, 123, 124, 125, 126, 127, 128, 129, 130, 131, 132, 133, 134, 135, 136, 137, 138, 139, 140, 141, 142, 143, 257, 258, 259, 260, 261, 262, 263, 264, 265, 266, 267, 268, 269, 270, 271, 272, 273, 274, 275, 276, 277] (by decide +kernel) (by decide +kernel)) (goodIn_sub (fun _ h => List.mem_cons_of_mem _ (List.mem_append_left _ (List.mem_append_left _ (List.mem_append_right _ h)))) (by decide +kernel))) (goodIn_sub (fun _ h => List.mem_cons_of_mem _ (List.mem_append_left _ (List.mem_append_right _ h))) (by decide +kernel))
set_option maxRecDepth 20000 in
theorem gL_isGotSo_X5_ifGot : GoodIn wsL_isGotSo (wsV RL 64 RX5 yX5_ifGot wsX5_ifGot) := goodIn_app (goodIn_of _ (by decide +kernel)) ggL_isGotSo_X5_ifGot
set_option maxRecDepth 20000 in
theorem ggL_isGotSo_X5_receiver : GoodIn wsL_isGotSo wsX5_receiver := goodIn_ca (goodIn_ca (goodIn_r _ [147, 6, 7, 8, 4, 9, 10, 11, 12, 13, 14, 15, 16, 17, 18, 24, 25, 26, 22, 23, 148, 149, 150, 151, 115, 152, 140, 141, 35, 142, 38, 143, 83, 84, 85, 86, 87, 88, 153, 154, 155, 156, 59, 157, 116, 117, 118, 119, 120, 121, 122, 123, 41, 40, 124, 125, 126, 127, 128, 129, 130, 131, 132, 133, 134, 65, 66, 93, 94, 135, 136, 137, 138, 139, 257, 258, 259, 260, 261, 262, 263, 264, 265, 266, 267, 268, 269, 270, 271, 272, 273, 274, 275, 276, 277] (by decide +kernel) (by decide +kernel)) (goodIn_sub (fun _ h => List.mem_cons_of_mem _ (List.mem_append_left _ (List.mem_append_left _ (List.mem_append_right _ h)))) (by decide +kernel))) (goodIn_sub (fun _ h => List.mem_cons_of_mem _ (List.mem_append_left _ (List.mem_append_right _ h))) (by decide +kernel))
set_option maxRecDepth 20000 in
theorem gL_isGotSo_X5_receiver : GoodIn wsL_isGotSo (wsV RL 43 RX5 yX5_receiver wsX5_receiver) := goodIn_app (goodIn_of _ (by decide +kernel)) ggL_isGotSo_X5_receiver
set_option maxRecDepth 20000 in
theorem ggL_isGotSo_X5_mix : GoodIn wsL_isGotSo wsX5_mix := goodIn_ca (goodIn_r _ [161, 12, 19, 20, 4, 21, 22, 23, 24, 25, 26, 55, 56, 57, 16, 58, 59, 60, 48, 49, 50, 61, 62, 63, 64, 65, 66, 67, 68, 69, 70, 71, 162, 80, 81, 82, 83, 84, 85, 86, 87, 88, 163, 93, 94, 164, 165, 166, 257, 258, 259, 260, 261, 262, 263, 264, 265, 266, 267] (by decide +kernel) (by decide +kernel)) (goodIn_sub (fun _ h => List.mem_cons_of_mem _ (List.mem_append_left _ (List.mem_append_right _ h))) (by decide +kernel))
set_option maxRecDepth 20000 in
theorem gL_isGotSo_X5_mix : GoodIn wsL_isGotSo (wsV RL 67 RX5 yX5_mix wsX5_mix) := goodIn_app (goodIn_of _ (by decide +kernel)) ggL_isGotSo_X5_mix
set_option maxRecDepth 20000 in
theorem ggL_isGotSo_X5_helps : GoodIn wsL_isGotSo wsX5_helps := goodIn_ca (goodIn_ca (goodIn_r _ [170, 6, 7, 8, 4, 9, 10, 11, 12, 13, 14, 15, 16, 17, 18, 19, 20, 21, 22, 23, 171, 172, 173, 174, 55, 56, 57, 58, 59, 60, 48, 49, 50, 61, 62, 63, 64, 65, 66, 67, 68, 69, 70, 71, 175, 77, 78, 35, 79, 39, 162, 80, 81, 82, 83, 84, 85, 86, 87, 88, 257, 258, 259, 260, 261, 262, 263, 264, 265, 266, 267, 268, 269, 270, 271, 272, 273, 274, 275] (by decide +kernel) (by decide +kernel)) (goodIn_sub (fun _ h => List.mem_cons_of_mem _ (List.mem_append_left _ (List.mem_append_left _ (List.mem_append_right _ h)))) (by decide +kernel))) (goodIn_sub (fun _ h => List.mem_cons_of_mem _ (List.mem_append_left _ (List.mem_append_right _ h))) (by decide +kernel))
set_option maxRecDepth 20000 in
theorem gL_isGotSo_X5_helps : GoodIn wsL_isGotSo (wsV RL 70 RX5 yX5_helps wsX5_helps) := goodIn_app (goodIn_of _ (by decide +kernel)) ggL_isGotSo_X5_helps
set_option maxRecDepth 20000 in
theorem ggL_isGotSo_L_bits : GoodIn wsL_isGotSo wsL_bits := goodIn_r _ [179] (by decide +kernel) (by decide +kernel)
set_option maxRecDepth 20000 in
theorem gL_isGotSo_L_bits : GoodIn wsL_isGotSo (va_wsS RL 46 yL_bits wsL_bits) := goodIn_app (goodIn_of _ (by decide +kernel)) ggL_isGotSo_L_bits
set_option maxRecDepth 20000 in
theorem ggL_isGotSo_X5_count : GoodIn wsL_isGotSo wsX5_count := goodIn_ca (goodIn_r _ [183, 24, 25, 4, 26, 22, 23, 184, 185, 186, 187, 12, 188, 189, 190, 191, 16, 192, 18, 193, 194, 195, 196, 197, 154, 155, 156, 59, 157, 140, 141, 35, 142, 38, 143, 83, 84, 85, 86, 87, 88, 198, 199, 200, 201, 67, 68, 69, 70, 71, 257, 258, 259, 260, 261, 262, 263, 264, 265, 266, 267, 278, 279, 280, 268, 269, 270, 271, 272, 273, 274, 275] (by decide +kernel) (by decide +kernel)) (goodIn_sub (fun _ h => List.mem_cons_of_mem _ (List.mem_append_left _ (List.mem_append_right _ h))) (by decide +kernel))
set_option maxRecDepth 20000 in
theorem gL_isGotSo_X5_count : GoodIn wsL_isGotSo (wsV RL 20 RX5 yX5_count wsX5_count) := goodIn_app (goodIn_of _ (by decide +kernel)) ggL_isGotSo_X5_count
set_option maxRecDepth 20000 in
theorem ggL_isGotSo_L_value : GoodIn wsL_isGotSo wsL_value := goodIn_ca (goodIn_ca (goodIn_r _ [204, 180, 181, 182, 4, 183, 24, 25, 26, 22, 23, 184, 185, 186, 187, 12, 188, 189, 190, 191, 16, 192, 18, 193, 194, 195, 196, 197, 154, 155, 156, 59, 157, 140, 141, 35, 142, 38, 143, 83, 84, 85, 86, 87, 88, 198, 199, 200, 201, 67, 68, 69, 70, 71, 205, 206, 207, 208, 209, 210, 211, 212, 10, 11, 213, 257, 258, 259, 260, 261, 262, 263, 264, 265, 266, 267, 278, 279, 280, 268, 269, 270, 271, 272, 273, 274, 275] (by decide +kernel) (by decide +kernel)) (goodIn_sub (fun _ h => List.mem_cons_of_mem _ (List.mem_append_left _ (List.mem_append_right _ h))) (by decide +kernel))) (goodIn_sub (fun _ h => List.mem_cons_of_mem _ (List.mem_append_left _ (List.mem_append_left _ (List.mem_append_right _ h)))) (by decide +kernel))
set_option maxRecDepth 20000 in
theorem gL_isGotSo_L_value : GoodIn wsL_isGotSo (va_wsS RL 60 yL_value wsL_value) := goodIn_app (goodIn_of _ (by decide +kernel)) ggL_isGotSo_L_value
set_option maxRecDepth 20000 in
theorem ggL_isGotSo_X5_listen : GoodIn wsL_isGotSo wsX5_listen := goodIn_ca (goodIn_r _ [217, 188, 12, 6, 7, 8, 4, 9, 10, 11, 13, 14, 15, 16, 17, 18, 218, 219, 220, 221, 222, 223, 224, 225, 226, 227, 228, 229, 230, 231, 232, 233, 59, 234, 71, 45, 46, 47, 48, 49, 50, 51, 52, 53, 54, 235, 236, 33, 34, 35, 36, 37, 38, 39, 40, 41, 42, 43, 44, 257, 258, 259, 260, 261, 262, 263, 268, 269, 270, 271, 272, 273, 274, 275, 264, 265, 266, 267, 278, 279, 280] (by decide +kernel) (by decide +kernel)) (goodIn_sub (fun _ h => List.mem_cons_of_mem _ (List.mem_append_left _ (List.mem_append_left _ (List.mem_append_right _ h)))) (by decide +kernel))
set_option maxRecDepth 20000 in
theorem gL_isGotSo_X5_listen : GoodIn wsL_isGotSo (wsV RL 27 RX5 yX5_listen wsX5_listen) := goodIn_app (goodIn_of _ (by decide +kernel)) ggL_isGotSo_X5_listen
set_option maxRecDepth 20000 in
theorem ggL_isGotSo_X5_send : GoodIn wsL_isGotSo wsX5_send := goodIn_ca (goodIn_r _ [240, 188, 12, 19, 20, 4, 21, 22, 23, 218, 219, 220, 221, 222, 223, 224, 225, 226, 227, 228, 229, 230, 231, 232, 16, 233, 59, 234, 71, 18, 45, 46, 47, 48, 49, 50, 51, 52, 53, 54, 235, 14, 15, 17, 236, 33, 34, 35, 36, 37, 38, 39, 40, 41, 42, 43, 44, 241, 242, 243, 244, 245, 56, 57, 58, 60, 61, 62, 63, 64, 65, 66, 67, 68, 69, 70, 246, 73, 74, 75, 76, 77, 78, 79, 80, 81, 82, 83, 84, 85, 86, 87, 88, 89, 90, 91, 92, 93, 94, 95, 96, 97, 98, 99, 100, 101, 102, 103, 104, 105, 106, 107, 108, 109, 110, 257, 258, 259, 260, 261, 262, 263, 278, 279, 280, 264, 265, 266, 267, 268, 269, 270, 271, 272, 273, 274, 275] (by decide +kernel) (by decide +kernel)) (goodIn_sub (fun _ h => List.mem_cons_of_mem _ (List.mem_append_left _ (List.mem_append_right _ h))) (by decide +kernel))
set_option maxRecDepth 20000 in
theorem gL_isGotSo_X5_send : GoodIn wsL_isGotSo (wsV RL 37 RX5 yX5_send wsX5_send) := goodIn_app (goodIn_of _ (by decide +kernel)) ggL_isGotSo_X5_send
set_option maxRecDepth 20000 in
theorem ggL_isGotSo_X5_undo : GoodIn wsL_isGotSo wsX5_undo := goodIn_ca (goodIn_r _ [250, 251, 252, 188, 12, 253, 254, 255, 221, 256, 223, 225, 226, 227, 228, 224, 229, 230, 231, 232, 16, 233, 59, 234, 71, 18, 45, 4, 46, 47, 48, 49, 50, 51, 52, 53, 54, 235, 14, 15, 17, 236, 33, 34, 35, 36, 37, 38, 39, 40, 41, 42, 43, 44, 257, 258, 259, 260, 261, 262, 263, 278, 279, 280, 264, 265, 266, 267, 268, 269, 270, 271, 272, 273, 274, 275] (by decide +kernel) (by decide +kernel)) (goodIn_sub (fun _ h => List.mem_cons_of_mem _ (List.mem_append_right _ h)) (by decide +kernel))
set_option maxRecDepth 20000 in
theorem gL_isGotSo_X5_undo : GoodIn wsL_isGotSo (wsV RL 73 RX5 yX5_undo wsX5_undo) := goodIn_app (goodIn_of _ (by decide +kernel)) ggL_isGotSo_X5_undo
theorem dL_isGotSo_0 : decode cL_isGotSo 0 = .ok (.aload_n 0, 1) := by decide +kernel
theorem dL_isGotSo_1 : decode cL_isGotSo 1 = .ok (.iload_n 1, 1) := by decide +kernel
theorem dL_isGotSo_2 : decode cL_isGotSo 2 = .ok (.iload_n 2, 1) := by decide +kernel
theorem dL_isGotSo_3 : decode cL_isGotSo 3 = .ok (.iconst 0, 1) := by decide +kernel
theorem dL_isGotSo_4 : decode cL_isGotSo 4 = .ok (.invokevirtual 64, 3) := by decide +kernel
theorem dL_isGotSo_7 : decode cL_isGotSo 7 = .ok (.istore_n 3, 1) := by decide +kernel
theorem dL_isGotSo_8 : decode cL_isGotSo 8 = .ok (.aload_n 0, 1) := by decide +kernel
theorem dL_isGotSo_9 : decode cL_isGotSo 9 = .ok (.iload_n 1, 1) := by decide +kernel
theorem dL_isGotSo_10 : decode cL_isGotSo 10 = .ok (.iload_n 2, 1) := by decide +kernel
theorem dL_isGotSo_11 : decode cL_isGotSo 11 = .ok (.iconst 1, 1) := by decide +kernel
theorem dL_isGotSo_12 : decode cL_isGotSo 12 = .ok (.invokevirtual 64, 3) := by decide +kernel
theorem dL_isGotSo_15 : decode cL_isGotSo 15 = .ok (.istore 4, 2) := by decide +kernel
theorem dL_isGotSo_17 : decode cL_isGotSo 17 = .ok (.aload_n 0, 1) := by decide +kernel
theorem dL_isGotSo_18 : decode cL_isGotSo 18 = .ok (.iload_n 1, 1) := by decide +kernel
theorem dL_isGotSo_19 : decode cL_isGotSo 19 = .ok (.bipush 8, 2) := by decide +kernel
theorem dL_isGotSo_21 : decode cL_isGotSo 21 = .ok (.invokevirtual 43, 3) := by decide +kernel
theorem dL_isGotSo_24 : decode cL_isGotSo 24 = .ok (.istore 5, 2) := by decide +kernel
theorem dL_isGotSo_26 : decode cL_isGotSo 26 = .ok (.aload_n 0, 1) := by decide +kernel
theorem dL_isGotSo_27 : decode cL_isGotSo 27 = .ok (.iload_n 1, 1) := by decide +kernel
theorem dL_isGotSo_28 : decode cL_isGotSo 28 = .ok (.iconst 1, 1) := by decide +kernel
theorem dL_isGotSo_29 : decode cL_isGotSo 29 = .ok (.invokevirtual 43, 3) := by decide +kernel
theorem dL_isGotSo_32 : decode cL_isGotSo 32 = .ok (.istore 6, 2) := by decide +kernel
theorem dL_isGotSo_34 : decode cL_isGotSo 34 = .ok (.aload_n 0, 1) := by decide +kernel
theorem dL_isGotSo_35 : decode cL_isGotSo 35 = .ok (.iload_n 1, 1) := by decide +kernel
theorem dL_isGotSo_36 : decode cL_isGotSo 36 = .ok (.iconst 5, 1) := by decide +kernel
theorem dL_isGotSo_37 : decode cL_isGotSo 37 = .ok (.invokevirtual 43, 3) := by decide +kernel
theorem dL_isGotSo_40 : decode cL_isGotSo 40 = .ok (.istore 7, 2) := by decide +kernel
theorem dL_isGotSo_42 : decode cL_isGotSo 42 = .ok (.aload_n 0, 1) := by decide +kernel
theorem dL_isGotSo_43 : decode cL_isGotSo 43 = .ok (.iload_n 1, 1) := by decide +kernel
theorem dL_isGotSo_44 : decode cL_isGotSo 44 = .ok (.bipush 6, 2) := by decide +kernel
theorem dL_isGotSo_46 : decode cL_isGotSo 46 = .ok (.invokevirtual 43, 3) := by decide +kernel
theorem dL_isGotSo_49 : decode cL_isGotSo 49 = .ok (.istore 8, 2) := by decide +kernel
theorem dL_isGotSo_51 : decode cL_isGotSo 51 = .ok (.aload_n 0, 1) := by decide +kernel
theorem dL_isGotSo_52 : decode cL_isGotSo 52 = .ok (.iload_n 2, 1) := by decide +kernel
theorem dL_isGotSo_53 : decode cL_isGotSo 53 = .ok (.iconst 1, 1) := by decide +kernel
theorem dL_isGotSo_54 : decode cL_isGotSo 54 = .ok (.invokevirtual 67, 3) := by decide +kernel
theorem dL_isGotSo_57 : decode cL_isGotSo 57 = .ok (.istore 9, 2) := by decide +kernel
theorem dL_isGotSo_59 : decode cL_isGotSo 59 = .ok (.aload_n 0, 1) := by decide +kernel
theorem dL_isGotSo_60 : decode cL_isGotSo 60 = .ok (.iload_n 1, 1) := by decide +kernel
theorem dL_isGotSo_61 : decode cL_isGotSo 61 = .ok (.iload_n 2, 1) := by decide +kernel
theorem dL_isGotSo_62 : decode cL_isGotSo 62 = .ok (.invokevirtual 70, 3) := by decide +kernel
theorem dL_isGotSo_65 : decode cL_isGotSo 65 = .ok (.istore 10, 2) := by decide +kernel
theorem dL_isGotSo_67 : decode cL_isGotSo 67 = .ok (.aload_n 0, 1) := by decide +kernel
theorem dL_isGotSo_68 : decode cL_isGotSo 68 = .ok (.iload_n 2, 1) := by decide +kernel
theorem dL_isGotSo_69 : decode cL_isGotSo 69 = .ok (.iconst 0, 1) := by decide +kernel
theorem dL_isGotSo_70 : decode cL_isGotSo 70 = .ok (.invokevirtual 67, 3) := by decide +kernel
theorem dL_isGotSo_73 : decode cL_isGotSo 73 = .ok (.iload 9, 2) := by decide +kernel
theorem dL_isGotSo_75 : decode cL_isGotSo 75 = .ok (.invokestatic 46, 3) := by decide +kernel
theorem dL_isGotSo_78 : decode cL_isGotSo 78 = .ok (.if_icmp .ne 59, 3) := by decide +kernel
theorem dL_isGotSo_81 : decode cL_isGotSo 81 = .ok (.iload 9, 2) := by decide +kernel
theorem dL_isGotSo_83 : decode cL_isGotSo 83 = .ok (.invokestatic 46, 3) := by decide +kernel
theorem dL_isGotSo_86 : decode cL_isGotSo 86 = .ok (.iconst 1, 1) := by decide +kernel
theorem dL_isGotSo_87 : decode cL_isGotSo 87 = .ok (.if_icmp .lt 50, 3) := by decide +kernel
theorem dL_isGotSo_90 : decode cL_isGotSo 90 = .ok (.iload 9, 2) := by decide +kernel
theorem dL_isGotSo_92 : decode cL_isGotSo 92 = .ok (.iconst 1, 1) := by decide +kernel
theorem dL_isGotSo_93 : decode cL_isGotSo 93 = .ok (.aload_n 0, 1) := by decide +kernel
theorem dL_isGotSo_94 : decode cL_isGotSo 94 = .ok (.iconst 0, 1) := by decide +kernel
theorem dL_isGotSo_95 : decode cL_isGotSo 95 = .ok (.invokevirtual 20, 3) := by decide +kernel
theorem dL_isGotSo_98 : decode cL_isGotSo 98 = .ok (.ishl, 1) := by decide +kernel
theorem dL_isGotSo_99 : decode cL_isGotSo 99 = .ok (.if_icmp .ge 38, 3) := by decide +kernel
theorem dL_isGotSo_102 : decode cL_isGotSo 102 = .ok (.aload_n 0, 1) := by decide +kernel
theorem dL_isGotSo_103 : decode cL_isGotSo 103 = .ok (.iload_n 2, 1) := by decide +kernel
theorem dL_isGotSo_104 : decode cL_isGotSo 104 = .ok (.iconst 2, 1) := by decide +kernel
theorem dL_isGotSo_105 : decode cL_isGotSo 105 = .ok (.invokevirtual 67, 3) := by decide +kernel
theorem dL_isGotSo_108 : decode cL_isGotSo 108 = .ok (.aload_n 0, 1) := by decide +kernel
theorem dL_isGotSo_109 : decode cL_isGotSo 109 = .ok (.iload 9, 2) := by decide +kernel
theorem dL_isGotSo_111 : decode cL_isGotSo 111 = .ok (.invokestatic 60, 3) := by decide +kernel
theorem dL_isGotSo_114 : decode cL_isGotSo 114 = .ok (.if_icmp .ne 23, 3) := by decide +kernel
theorem dL_isGotSo_117 : decode cL_isGotSo 117 = .ok (.iload 4, 2) := by decide +kernel
theorem dL_isGotSo_119 : decode cL_isGotSo 119 = .ok (.iload 5, 2) := by decide +kernel
theorem dL_isGotSo_121 : decode cL_isGotSo 121 = .ok (.if_icmp .eq 12, 3) := by decide +kernel
theorem dL_isGotSo_124 : decode cL_isGotSo 124 = .ok (.iload 4, 2) := by decide +kernel
theorem dL_isGotSo_126 : decode cL_isGotSo 126 = .ok (.iload 5, 2) := by decide +kernel
theorem dL_isGotSo_128 : decode cL_isGotSo 128 = .ok (.iconst 1, 1) := by decide +kernel
theorem dL_isGotSo_129 : decode cL_isGotSo 129 = .ok (.iadd, 1) := by decide +kernel
theorem dL_isGotSo_130 : decode cL_isGotSo 130 = .ok (.if_icmp .ne 7, 3) := by decide +kernel
theorem dL_isGotSo_133 : decode cL_isGotSo 133 = .ok (.iconst 1, 1) := by decide +kernel
theorem dL_isGotSo_134 : decode cL_isGotSo 134 = .ok (.goto 4, 3) := by decide +kernel
theorem dL_isGotSo_137 : decode cL_isGotSo 137 = .ok (.iconst 0, 1) := by decide +kernel
theorem dL_isGotSo_138 : decode cL_isGotSo 138 = .ok (.istore 11, 2) := by decide +kernel
theorem dL_isGotSo_140 : decode cL_isGotSo 140 = .ok (.iload_n 2, 1) := by decide +kernel
theorem dL_isGotSo_141 : decode cL_isGotSo 141 = .ok (.istore 12, 2) := by decide +kernel
theorem dL_isGotSo_143 : decode cL_isGotSo 143 = .ok (.iload 12, 2) := by decide +kernel
theorem dL_isGotSo_145 : decode cL_isGotSo 145 = .ok (.sipush 10000, 3) := by decide +kernel
theorem dL_isGotSo_148 : decode cL_isGotSo 148 = .ok (.if_icmp .ge 53, 3) := by decide +kernel
theorem dL_isGotSo_151 : decode cL_isGotSo 151 = .ok (.iload 12, 2) := by decide +kernel
theorem dL_isGotSo_153 : decode cL_isGotSo 153 = .ok (.iload_n 2, 1) := by decide +kernel
theorem dL_isGotSo_154 : decode cL_isGotSo 154 = .ok (.bipush 100, 2) := by decide +kernel
theorem dL_isGotSo_156 : decode cL_isGotSo 156 = .ok (.iadd, 1) := by decide +kernel
theorem dL_isGotSo_157 : decode cL_isGotSo 157 = .ok (.if_icmp .ge 44, 3) := by decide +kernel
theorem dL_isGotSo_160 : decode cL_isGotSo 160 = .ok (.iload 10, 2) := by decide +kernel
theorem dL_isGotSo_162 : decode cL_isGotSo 162 = .ok (.ifCond .lt 10, 3) := by decide +kernel
theorem dL_isGotSo_165 : decode cL_isGotSo 165 = .ok (.iload 12, 2) := by decide +kernel
theorem dL_isGotSo_167 : decode cL_isGotSo 167 = .ok (.iload 10, 2) := by decide +kernel
theorem dL_isGotSo_169 : decode cL_isGotSo 169 = .ok (.if_icmp .ge 32, 3) := by decide +kernel
theorem dL_isGotSo_172 : decode cL_isGotSo 172 = .ok (.iload 11, 2) := by decide +kernel
theorem dL_isGotSo_174 : decode cL_isGotSo 174 = .ok (.ifCond .eq 18, 3) := by decide +kernel
theorem dL_isGotSo_177 : decode cL_isGotSo 177 = .ok (.aload_n 0, 1) := by decide +kernel
theorem dL_isGotSo_178 : decode cL_isGotSo 178 = .ok (.iload_n 1, 1) := by decide +kernel
theorem dL_isGotSo_179 : decode cL_isGotSo 179 = .ok (.iload 12, 2) := by decide +kernel
theorem dL_isGotSo_181 : decode cL_isGotSo 181 = .ok (.iconst 0, 1) := by decide +kernel
theorem dL_isGotSo_182 : decode cL_isGotSo 182 = .ok (.invokevirtual 64, 3) := by decide +kernel
theorem dL_isGotSo_185 : decode cL_isGotSo 185 = .ok (.ifCond .ne 7, 3) := by decide +kernel
theorem dL_isGotSo_188 : decode cL_isGotSo 188 = .ok (.iconst 1, 1) := by decide +kernel
theorem dL_isGotSo_189 : decode cL_isGotSo 189 = .ok (.goto 4, 3) := by decide +kernel
theorem dL_isGotSo_192 : decode cL_isGotSo 192 = .ok (.iconst 0, 1) := by decide +kernel
theorem dL_isGotSo_193 : decode cL_isGotSo 193 = .ok (.istore 11, 2) := by decide +kernel
theorem dL_isGotSo_195 : decode cL_isGotSo 195 = .ok (.iinc 12 1, 3) := by decide +kernel
theorem dL_isGotSo_198 : decode cL_isGotSo 198 = .ok (.goto (-55), 3) := by decide +kernel
theorem dL_isGotSo_201 : decode cL_isGotSo 201 = .ok (.iload 11, 2) := by decide +kernel
theorem dL_isGotSo_203 : decode cL_isGotSo 203 = .ok (.ifCond .eq 38, 3) := by decide +kernel
theorem dL_isGotSo_206 : decode cL_isGotSo 206 = .ok (.iload 10, 2) := by decide +kernel
theorem dL_isGotSo_208 : decode cL_isGotSo 208 = .ok (.ifCond .lt 29, 3) := by decide +kernel
theorem dL_isGotSo_211 : decode cL_isGotSo 211 = .ok (.iload 10, 2) := by decide +kernel
theorem dL_isGotSo_213 : decode cL_isGotSo 213 = .ok (.iload_n 2, 1) := by decide +kernel
theorem dL_isGotSo_214 : decode cL_isGotSo 214 = .ok (.if_icmp .lt 27, 3) := by decide +kernel
theorem dL_isGotSo_217 : decode cL_isGotSo 217 = .ok (.iload 10, 2) := by decide +kernel
theorem dL_isGotSo_219 : decode cL_isGotSo 219 = .ok (.iload_n 2, 1) := by decide +kernel
theorem dL_isGotSo_220 : decode cL_isGotSo 220 = .ok (.bipush 100, 2) := by decide +kernel
theorem dL_isGotSo_222 : decode cL_isGotSo 222 = .ok (.iadd, 1) := by decide +kernel
theorem dL_isGotSo_223 : decode cL_isGotSo 223 = .ok (.if_icmp .ge 18, 3) := by decide +kernel
theorem dL_isGotSo_226 : decode cL_isGotSo 226 = .ok (.aload_n 0, 1) := by decide +kernel
theorem dL_isGotSo_227 : decode cL_isGotSo 227 = .ok (.iload_n 1, 1) := by decide +kernel
theorem dL_isGotSo_228 : decode cL_isGotSo 228 = .ok (.iload 10, 2) := by decide +kernel
theorem dL_isGotSo_230 : decode cL_isGotSo 230 = .ok (.iconst 0, 1) := by decide +kernel
theorem dL_isGotSo_231 : decode cL_isGotSo 231 = .ok (.invokevirtual 64, 3) := by decide +kernel
theorem dL_isGotSo_234 : decode cL_isGotSo 234 = .ok (.ifCond .le 7, 3) := by decide +kernel
theorem dL_isGotSo_237 : decode cL_isGotSo 237 = .ok (.iconst 1, 1) := by decide +kernel
theorem dL_isGotSo_238 : decode cL_isGotSo 238 = .ok (.goto 4, 3) := by decide +kernel
theorem dL_isGotSo_241 : decode cL_isGotSo 241 = .ok (.iconst 0, 1) := by decide +kernel
theorem dL_isGotSo_242 : decode cL_isGotSo 242 = .ok (.istore 11, 2) := by decide +kernel
theorem dL_isGotSo_244 : decode cL_isGotSo 244 = .ok (.aload_n 0, 1) := by decide +kernel
theorem dL_isGotSo_245 : decode cL_isGotSo 245 = .ok (.iload_n 1, 1) := by decide +kernel
theorem dL_isGotSo_246 : decode cL_isGotSo 246 = .ok (.iconst 1, 1) := by decide +kernel
theorem dL_isGotSo_247 : decode cL_isGotSo 247 = .ok (.invokevirtual 27, 3) := by decide +kernel
theorem dL_isGotSo_250 : decode cL_isGotSo 250 = .ok (.istore 12, 2) := by decide +kernel
theorem dL_isGotSo_252 : decode cL_isGotSo 252 = .ok (.iconst 0, 1) := by decide +kernel
theorem dL_isGotSo_253 : decode cL_isGotSo 253 = .ok (.istore 13, 2) := by decide +kernel
theorem dL_isGotSo_255 : decode cL_isGotSo 255 = .ok (.iconst 0, 1) := by decide +kernel
theorem dL_isGotSo_256 : decode cL_isGotSo 256 = .ok (.istore 14, 2) := by decide +kernel
theorem dL_isGotSo_258 : decode cL_isGotSo 258 = .ok (.iload 14, 2) := by decide +kernel
theorem dL_isGotSo_260 : decode cL_isGotSo 260 = .ok (.iconst 3, 1) := by decide +kernel
theorem dL_isGotSo_261 : decode cL_isGotSo 261 = .ok (.if_icmp .ge 43, 3) := by decide +kernel
theorem dL_isGotSo_264 : decode cL_isGotSo 264 = .ok (.iload 13, 2) := by decide +kernel
theorem dL_isGotSo_266 : decode cL_isGotSo 266 = .ok (.iload 14, 2) := by decide +kernel
theorem dL_isGotSo_268 : decode cL_isGotSo 268 = .ok (.iload_n 1, 1) := by decide +kernel
theorem dL_isGotSo_269 : decode cL_isGotSo 269 = .ok (.if_icmp .eq 25, 3) := by decide +kernel
theorem dL_isGotSo_272 : decode cL_isGotSo 272 = .ok (.aload_n 0, 1) := by decide +kernel
theorem dL_isGotSo_273 : decode cL_isGotSo 273 = .ok (.iload 14, 2) := by decide +kernel
theorem dL_isGotSo_275 : decode cL_isGotSo 275 = .ok (.iconst 0, 1) := by decide +kernel
theorem dL_isGotSo_276 : decode cL_isGotSo 276 = .ok (.invokevirtual 43, 3) := by decide +kernel
theorem dL_isGotSo_279 : decode cL_isGotSo 279 = .ok (.iconst 1, 1) := by decide +kernel
theorem dL_isGotSo_280 : decode cL_isGotSo 280 = .ok (.if_icmp .ne 14, 3) := by decide +kernel
theorem dL_isGotSo_283 : decode cL_isGotSo 283 = .ok (.aload_n 0, 1) := by decide +kernel
theorem dL_isGotSo_284 : decode cL_isGotSo 284 = .ok (.iload 14, 2) := by decide +kernel
theorem dL_isGotSo_286 : decode cL_isGotSo 286 = .ok (.iload_n 2, 1) := by decide +kernel
theorem dL_isGotSo_287 : decode cL_isGotSo 287 = .ok (.iconst 0, 1) := by decide +kernel
theorem dL_isGotSo_288 : decode cL_isGotSo 288 = .ok (.invokevirtual 64, 3) := by decide +kernel
theorem dL_isGotSo_291 : decode cL_isGotSo 291 = .ok (.goto 4, 3) := by decide +kernel
theorem dL_isGotSo_294 : decode cL_isGotSo 294 = .ok (.iconst 0, 1) := by decide +kernel
theorem dL_isGotSo_295 : decode cL_isGotSo 295 = .ok (.iadd, 1) := by decide +kernel
theorem dL_isGotSo_296 : decode cL_isGotSo 296 = .ok (.istore 13, 2) := by decide +kernel
theorem dL_isGotSo_298 : decode cL_isGotSo 298 = .ok (.iinc 14 1, 3) := by decide +kernel
theorem dL_isGotSo_301 : decode cL_isGotSo 301 = .ok (.goto (-43), 3) := by decide +kernel
theorem dL_isGotSo_304 : decode cL_isGotSo 304 = .ok (.iload 11, 2) := by decide +kernel
theorem dL_isGotSo_306 : decode cL_isGotSo 306 = .ok (.ifCond .eq 87, 3) := by decide +kernel
theorem dL_isGotSo_309 : decode cL_isGotSo 309 = .ok (.aload_n 0, 1) := by decide +kernel
theorem dL_isGotSo_310 : decode cL_isGotSo 310 = .ok (.iload_n 2, 1) := by decide +kernel
theorem dL_isGotSo_311 : decode cL_isGotSo 311 = .ok (.invokevirtual 37, 3) := by decide +kernel
theorem dL_isGotSo_314 : decode cL_isGotSo 314 = .ok (.iload 13, 2) := by decide +kernel
theorem dL_isGotSo_316 : decode cL_isGotSo 316 = .ok (.iload_n 3, 1) := by decide +kernel
theorem dL_isGotSo_317 : decode cL_isGotSo 317 = .ok (.iadd, 1) := by decide +kernel
theorem dL_isGotSo_318 : decode cL_isGotSo 318 = .ok (.if_icmp .ne 75, 3) := by decide +kernel
theorem dL_isGotSo_321 : decode cL_isGotSo 321 = .ok (.aload_n 0, 1) := by decide +kernel
theorem dL_isGotSo_322 : decode cL_isGotSo 322 = .ok (.iload_n 1, 1) := by decide +kernel
theorem dL_isGotSo_323 : decode cL_isGotSo 323 = .ok (.iconst 1, 1) := by decide +kernel
theorem dL_isGotSo_324 : decode cL_isGotSo 324 = .ok (.invokevirtual 43, 3) := by decide +kernel
theorem dL_isGotSo_327 : decode cL_isGotSo 327 = .ok (.iload 6, 2) := by decide +kernel
theorem dL_isGotSo_329 : decode cL_isGotSo 329 = .ok (.iload_n 3, 1) := by decide +kernel
theorem dL_isGotSo_330 : decode cL_isGotSo 330 = .ok (.iadd, 1) := by decide +kernel
theorem dL_isGotSo_331 : decode cL_isGotSo 331 = .ok (.if_icmp .ne 62, 3) := by decide +kernel
theorem dL_isGotSo_334 : decode cL_isGotSo 334 = .ok (.aload_n 0, 1) := by decide +kernel
theorem dL_isGotSo_335 : decode cL_isGotSo 335 = .ok (.iload_n 1, 1) := by decide +kernel
theorem dL_isGotSo_336 : decode cL_isGotSo 336 = .ok (.bipush 8, 2) := by decide +kernel
theorem dL_isGotSo_338 : decode cL_isGotSo 338 = .ok (.invokevirtual 43, 3) := by decide +kernel
theorem dL_isGotSo_341 : decode cL_isGotSo 341 = .ok (.iload 4, 2) := by decide +kernel
theorem dL_isGotSo_343 : decode cL_isGotSo 343 = .ok (.if_icmp .ne 50, 3) := by decide +kernel
theorem dL_isGotSo_346 : decode cL_isGotSo 346 = .ok (.iload 4, 2) := by decide +kernel
theorem dL_isGotSo_348 : decode cL_isGotSo 348 = .ok (.iload 5, 2) := by decide +kernel
theorem dL_isGotSo_350 : decode cL_isGotSo 350 = .ok (.if_icmp .gt 39, 3) := by decide +kernel
theorem dL_isGotSo_353 : decode cL_isGotSo 353 = .ok (.iload_n 3, 1) := by decide +kernel
theorem dL_isGotSo_354 : decode cL_isGotSo 354 = .ok (.ifCond .gt 35, 3) := by decide +kernel
theorem dL_isGotSo_357 : decode cL_isGotSo 357 = .ok (.aload_n 0, 1) := by decide +kernel
theorem dL_isGotSo_358 : decode cL_isGotSo 358 = .ok (.iload_n 1, 1) := by decide +kernel
theorem dL_isGotSo_359 : decode cL_isGotSo 359 = .ok (.iconst 5, 1) := by decide +kernel
theorem dL_isGotSo_360 : decode cL_isGotSo 360 = .ok (.invokevirtual 43, 3) := by decide +kernel
theorem dL_isGotSo_363 : decode cL_isGotSo 363 = .ok (.iload 7, 2) := by decide +kernel
theorem dL_isGotSo_365 : decode cL_isGotSo 365 = .ok (.if_icmp .gt 24, 3) := by decide +kernel
theorem dL_isGotSo_368 : decode cL_isGotSo 368 = .ok (.aload_n 0, 1) := by decide +kernel
theorem dL_isGotSo_369 : decode cL_isGotSo 369 = .ok (.iload_n 1, 1) := by decide +kernel
theorem dL_isGotSo_370 : decode cL_isGotSo 370 = .ok (.bipush 6, 2) := by decide +kernel
theorem dL_isGotSo_372 : decode cL_isGotSo 372 = .ok (.invokevirtual 43, 3) := by decide +kernel
theorem dL_isGotSo_375 : decode cL_isGotSo 375 = .ok (.iload 8, 2) := by decide +kernel
theorem dL_isGotSo_377 : decode cL_isGotSo 377 = .ok (.if_icmp .gt 12, 3) := by decide +kernel
theorem dL_isGotSo_380 : decode cL_isGotSo 380 = .ok (.aload_n 0, 1) := by decide +kernel
theorem dL_isGotSo_381 : decode cL_isGotSo 381 = .ok (.iload_n 1, 1) := by decide +kernel
theorem dL_isGotSo_382 : decode cL_isGotSo 382 = .ok (.iconst 3, 1) := by decide +kernel
theorem dL_isGotSo_383 : decode cL_isGotSo 383 = .ok (.invokevirtual 43, 3) := by decide +kernel
theorem dL_isGotSo_386 : decode cL_isGotSo 386 = .ok (.ifCond .le 7, 3) := by decide +kernel
theorem dL_isGotSo_389 : decode cL_isGotSo 389 = .ok (.iconst 1, 1) := by decide +kernel
theorem dL_isGotSo_390 : decode cL_isGotSo 390 = .ok (.goto 4, 3) := by decide +kernel
theorem dL_isGotSo_393 : decode cL_isGotSo 393 = .ok (.iconst 0, 1) := by decide +kernel
theorem dL_isGotSo_394 : decode cL_isGotSo 394 = .ok (.istore 11, 2) := by decide +kernel
theorem dL_isGotSo_396 : decode cL_isGotSo 396 = .ok (.aload_n 0, 1) := by decide +kernel
theorem dL_isGotSo_397 : decode cL_isGotSo 397 = .ok (.invokevirtual 73, 3) := by decide +kernel
theorem dL_isGotSo_400 : decode cL_isGotSo 400 = .ok (.istore 14, 2) := by decide +kernel
theorem dL_isGotSo_402 : decode cL_isGotSo 402 = .ok (.aload_n 0, 1) := by decide +kernel
theorem dL_isGotSo_403 : decode cL_isGotSo 403 = .ok (.invokevirtual 73, 3) := by decide +kernel
theorem dL_isGotSo_406 : decode cL_isGotSo 406 = .ok (.istore 14, 2) := by decide +kernel
theorem dL_isGotSo_408 : decode cL_isGotSo 408 = .ok (.iload 11, 2) := by decide +kernel
theorem dL_isGotSo_410 : decode cL_isGotSo 410 = .ok (.ifCond .eq 34, 3) := by decide +kernel
theorem dL_isGotSo_413 : decode cL_isGotSo 413 = .ok (.iload 14, 2) := by decide +kernel
theorem dL_isGotSo_415 : decode cL_isGotSo 415 = .ok (.ifCond .lt 29, 3) := by decide +kernel
theorem dL_isGotSo_418 : decode cL_isGotSo 418 = .ok (.aload_n 0, 1) := by decide +kernel
theorem dL_isGotSo_419 : decode cL_isGotSo 419 = .ok (.iload_n 1, 1) := by decide +kernel
theorem dL_isGotSo_420 : decode cL_isGotSo 420 = .ok (.iconst 1, 1) := by decide +kernel
theorem dL_isGotSo_421 : decode cL_isGotSo 421 = .ok (.invokevirtual 43, 3) := by decide +kernel
theorem dL_isGotSo_424 : decode cL_isGotSo 424 = .ok (.iload 6, 2) := by decide +kernel
theorem dL_isGotSo_426 : decode cL_isGotSo 426 = .ok (.if_icmp .ne 18, 3) := by decide +kernel
theorem dL_isGotSo_429 : decode cL_isGotSo 429 = .ok (.iload 12, 2) := by decide +kernel
theorem dL_isGotSo_431 : decode cL_isGotSo 431 = .ok (.aload_n 0, 1) := by decide +kernel
theorem dL_isGotSo_432 : decode cL_isGotSo 432 = .ok (.iload_n 1, 1) := by decide +kernel
theorem dL_isGotSo_433 : decode cL_isGotSo 433 = .ok (.iconst 0, 1) := by decide +kernel
theorem dL_isGotSo_434 : decode cL_isGotSo 434 = .ok (.invokevirtual 43, 3) := by decide +kernel
theorem dL_isGotSo_437 : decode cL_isGotSo 437 = .ok (.if_icmp .ne 7, 3) := by decide +kernel
theorem dL_isGotSo_440 : decode cL_isGotSo 440 = .ok (.iconst 1, 1) := by decide +kernel
theorem dL_isGotSo_441 : decode cL_isGotSo 441 = .ok (.goto 4, 3) := by decide +kernel
theorem dL_isGotSo_444 : decode cL_isGotSo 444 = .ok (.iconst 0, 1) := by decide +kernel
theorem dL_isGotSo_445 : decode cL_isGotSo 445 = .ok (.ireturn, 1) := by decide +kernel
