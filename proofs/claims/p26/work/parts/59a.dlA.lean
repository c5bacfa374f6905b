theorem dL_cell_0 : decode cL_cell 0 = .ok (.iload_n 1, 1) := by decide +kernel
theorem dL_cell_1 : decode cL_cell 1 = .ok (.aload_n 0, 1) := by decide +kernel
theorem dL_cell_2 : decode cL_cell 2 = .ok (.arraylength, 1) := by decide +kernel
theorem dL_cell_3 : decode cL_cell 3 = .ok (.if_icmp .ge 9, 3) := by decide +kernel
theorem dL_cell_6 : decode cL_cell 6 = .ok (.aload_n 0, 1) := by decide +kernel
theorem dL_cell_7 : decode cL_cell 7 = .ok (.iload_n 1, 1) := by decide +kernel
theorem dL_cell_8 : decode cL_cell 8 = .ok (.iaload, 1) := by decide +kernel
theorem dL_cell_9 : decode cL_cell 9 = .ok (.goto 15, 3) := by decide +kernel
theorem dL_cell_12 : decode cL_cell 12 = .ok (.sipush 7919, 3) := by decide +kernel
theorem dL_cell_15 : decode cL_cell 15 = .ok (.iload_n 1, 1) := by decide +kernel
theorem dL_cell_16 : decode cL_cell 16 = .ok (.iconst 3, 1) := by decide +kernel
theorem dL_cell_17 : decode cL_cell 17 = .ok (.iadd, 1) := by decide +kernel
theorem dL_cell_18 : decode cL_cell 18 = .ok (.imul, 1) := by decide +kernel
theorem dL_cell_19 : decode cL_cell 19 = .ok (.iload_n 1, 1) := by decide +kernel
theorem dL_cell_20 : decode cL_cell 20 = .ok (.bipush 11, 2) := by decide +kernel
theorem dL_cell_22 : decode cL_cell 22 = .ok (.iadd, 1) := by decide +kernel
theorem dL_cell_23 : decode cL_cell 23 = .ok (.imul, 1) := by decide +kernel
theorem dL_cell_24 : decode cL_cell 24 = .ok (.ireturn, 1) := by decide +kernel
theorem dL_low_0 : decode cL_low 0 = .ok (.iload_n 0, 1) := by decide +kernel
theorem dL_low_1 : decode cL_low 1 = .ok (.ldc 7, 2) := by decide +kernel
theorem dL_low_3 : decode cL_low 3 = .ok (.iand, 1) := by decide +kernel
theorem dL_low_4 : decode cL_low 4 = .ok (.iload_n 1, 1) := by decide +kernel
theorem dL_low_5 : decode cL_low 5 = .ok (.irem, 1) := by decide +kernel
theorem dL_low_6 : decode cL_low 6 = .ok (.ireturn, 1) := by decide +kernel
set_option maxRecDepth 20000 in
theorem ggL_does_L_low : GoodIn wsL_does wsL_low := goodIn_r _ [5, 6] (by decide +kernel) (by decide +kernel)
set_option maxRecDepth 20000 in
theorem gL_does_L_low : GoodIn wsL_does (va_wsS RL 8 yL_low wsL_low) := goodIn_app (goodIn_of _ (by decide +kernel)) ggL_does_L_low
set_option maxRecDepth 20000 in
theorem ggL_does_X5_size : GoodIn wsL_does wsX5_size := goodIn_ca (goodIn_r _ [11, 12, 13, 14, 15, 16, 17, 18, 19, 20, 21, 22, 23, 24, 25, 26, 27, 28, 29, 30, 31, 32, 33, 34, 35, 36, 37, 10, 38, 39, 40, 41, 42, 43, 44, 45, 46, 47, 48, 49, 50, 51, 52, 53, 54, 55, 56, 57, 58, 59, 60, 61, 62, 63, 64, 65, 66, 67, 68, 69, 70, 71, 72, 73, 74, 75, 241, 242, 243, 244, 245, 246, 247, 248, 249, 250, 251, 252, 253, 254, 255, 256, 257, 258, 259, 260, 261, 262] (by decide +kernel) (by decide +kernel)) (goodIn_sub (fun _ h => List.mem_cons_of_mem _ (List.mem_append_left _ (List.mem_append_right _ h))) (by decide +kernel))
set_option maxRecDepth 20000 in
theorem gL_does_X5_size : GoodIn wsL_does (wsV RL 14 RX5 yX5_size wsX5_size) := goodIn_app (goodIn_of _ (by decide +kernel)) ggL_does_X5_size
set_option maxRecDepth 20000 in
theorem ggL_does_X5_count : GoodIn wsL_does wsX5_count := goodIn_ca (goodIn_r _ [79, 80, 81, 10, 82, 12, 13, 83, 84, 85, 86, 15, 14, 87, 88, 89, 31, 90, 36, 91, 92, 93, 94, 95, 96, 97, 98, 33, 99, 100, 101, 54, 102, 57, 103, 104, 105, 106, 107, 108, 109, 110, 111, 112, 113, 114, 115, 116, 117, 35, 241, 242, 243, 244, 245, 246, 247, 248, 249, 250, 251, 252, 253, 254, 255, 256, 257, 258, 259, 260, 261, 262] (by decide +kernel) (by decide +kernel)) (goodIn_sub (fun _ h => List.mem_cons_of_mem _ (List.mem_append_left _ (List.mem_append_right _ h))) (by decide +kernel))
set_option maxRecDepth 20000 in
theorem gL_does_X5_count : GoodIn wsL_does (wsV RL 20 RX5 yX5_count wsX5_count) := goodIn_app (goodIn_of _ (by decide +kernel)) ggL_does_X5_count
set_option maxRecDepth 20000 in
theorem ggL_does_X5_write : GoodIn wsL_does wsX5_write := goodIn_ca (goodIn_ca (goodIn_r _ [121, 12, 13, 122, 14, 15, 123, 124, 125, 10, 126, 127, 128, 16, 17, 18, 19, 20, 21, 22, 23, 24, 25, 26, 27, 28, 29, 30, 31, 32, 33, 34, 35, 36, 37, 38, 39, 40, 41, 42, 43, 44, 45, 46, 47, 48, 49, 50, 51, 52, 53, 54, 55, 56, 57, 58, 59, 60, 61, 62, 63, 129, 115, 116, 117, 130, 131, 132, 133, 68, 69, 70, 71, 72, 73, 74, 75, 241, 242, 243, 244, 245, 246, 247, 248, 249, 250, 251, 252, 253, 254, 255, 256, 257, 258, 259, 260, 261, 262] (by decide +kernel) (by decide +kernel)) (goodIn_sub (fun _ h => List.mem_cons_of_mem _ (List.mem_append_left _ (List.mem_append_right _ h))) (by decide +kernel))) (goodIn_sub (fun _ h => List.mem_cons_of_mem _ (List.mem_append_right _ h)) (by decide +kernel))
set_option maxRecDepth 20000 in
theorem gL_does_X5_write : GoodIn wsL_does (wsV RL 24 RX5 yX5_write wsX5_write) := goodIn_app (goodIn_of _ (by decide +kernel)) ggL_does_X5_write
set_option maxRecDepth 20000 in
theorem ggL_does_X5_listen : GoodIn wsL_does wsX5_listen := goodIn_ca (goodIn_r _ [137, 14, 15, 138, 139, 140, 10, 141, 127, 128, 142, 48, 49, 31, 50, 36, 16, 17, 18, 19, 20, 21, 22, 23, 24, 25, 26, 27, 28, 29, 30, 32, 33, 34, 35, 37, 38, 39, 40, 41, 42, 43, 44, 45, 46, 47, 51, 52, 53, 54, 55, 56, 57, 58, 59, 60, 61, 62, 63, 241, 242, 243, 244, 245, 246, 247, 255, 256, 257, 258, 259, 260, 261, 262, 248, 249, 250, 251, 252, 253, 254] (by decide +kernel) (by decide +kernel)) (goodIn_sub (fun _ h => List.mem_cons_of_mem _ (List.mem_append_right _ h)) (by decide +kernel))
set_option maxRecDepth 20000 in
theorem gL_does_X5_listen : GoodIn wsL_does (wsV RL 27 RX5 yX5_listen wsX5_listen) := goodIn_app (goodIn_of _ (by decide +kernel)) ggL_does_X5_listen
set_option maxRecDepth 20000 in
theorem ggL_does_X5_forget : GoodIn wsL_does wsX5_forget := goodIn_ca (goodIn_r _ [146, 14, 15, 138, 139, 140, 10, 141, 127, 128, 142, 48, 49, 31, 50, 36, 16, 17, 18, 19, 20, 21, 22, 23, 24, 25, 26, 27, 28, 29, 30, 32, 33, 34, 35, 37, 38, 39, 40, 41, 42, 43, 44, 45, 46, 47, 51, 52, 53, 54, 55, 56, 57, 58, 59, 60, 61, 62, 63, 147, 100, 101, 102, 103, 104, 105, 106, 107, 108, 109, 148, 73, 74, 75, 241, 242, 243, 244, 245, 246, 247, 248, 249, 250, 251, 252, 253, 254, 255, 256, 257, 258, 259, 260, 261, 262] (by decide +kernel) (by decide +kernel)) (goodIn_sub (fun _ h => List.mem_cons_of_mem _ (List.mem_append_right _ h)) (by decide +kernel))
set_option maxRecDepth 20000 in
theorem gL_does_X5_forget : GoodIn wsL_does (wsV RL 31 RX5 yX5_forget wsX5_forget) := goodIn_app (goodIn_of _ (by decide +kernel)) ggL_does_X5_forget
set_option maxRecDepth 20000 in
theorem ggL_does_X5_eliminate : GoodIn wsL_does wsX5_eliminate := goodIn_ca (goodIn_r _ [152, 14, 15, 153, 138, 139, 140, 10, 141, 127, 128, 142, 48, 49, 31, 50, 36, 16, 17, 18, 19, 20, 21, 22, 23, 24, 25, 26, 27, 28, 29, 30, 32, 33, 34, 35, 37, 38, 39, 40, 41, 42, 43, 44, 45, 46, 47, 51, 52, 53, 54, 55, 56, 57, 58, 59, 60, 61, 62, 63, 154, 155, 156, 157, 158, 159, 160, 161, 162, 163, 164, 165, 166, 167, 168, 169, 170, 171, 172, 173, 174, 175, 176, 177, 178, 179, 180, 104, 105, 106, 107, 108, 109, 181, 182, 183, 184, 185, 186, 187, 188, 189, 190, 191, 192, 193, 194, 195, 196, 197, 198, 199, 200, 201, 202, 203, 204, 205, 206, 207, 208, 209, 210, 211, 212, 241, 242, 243, 244, 245, 246, 247, 248, 249, 250, 251, 252, 253, 254, 255, 256, 257, 258, 259, 260, 261, 262, 263, 264] (by decide +kernel) (by decide +kernel)) (goodIn_sub (fun _ h => List.mem_cons_of_mem _ (List.mem_append_right _ h)) (by decide +kernel))
set_option maxRecDepth 20000 in
theorem gL_does_X5_eliminate : GoodIn wsL_does (wsV RL 34 RX5 yX5_eliminate wsX5_eliminate) := goodIn_app (goodIn_of _ (by decide +kernel)) ggL_does_X5_eliminate
set_option maxRecDepth 20000 in
theorem ggL_does_X5_send : GoodIn wsL_does wsX5_send := goodIn_ca (goodIn_r _ [216, 14, 15, 217, 218, 10, 219, 12, 13, 16, 17, 18, 19, 20, 21, 22, 23, 24, 25, 26, 27, 28, 29, 30, 31, 32, 33, 34, 35, 36, 37, 38, 39, 40, 41, 42, 43, 44, 45, 46, 47, 48, 49, 50, 51, 52, 53, 54, 55, 56, 57, 58, 59, 60, 61, 62, 63, 220, 221, 222, 223, 224, 225, 226, 227, 228, 229, 230, 231, 232, 173, 174, 114, 115, 116, 117, 233, 234, 235, 236, 237, 238, 239, 240, 202, 203, 204, 104, 105, 106, 107, 108, 109, 190, 191, 192, 193, 175, 176, 194, 195, 196, 197, 198, 199, 200, 201, 205, 206, 207, 208, 209, 210, 211, 212, 241, 242, 243, 244, 245, 246, 247, 252, 253, 254, 248, 249, 250, 251, 255, 256, 257, 258, 259, 260, 261, 262] (by decide +kernel) (by decide +kernel)) (goodIn_sub (fun _ h => List.mem_cons_of_mem _ (List.mem_append_left _ (List.mem_append_right _ h))) (by decide +kernel))
set_option maxRecDepth 20000 in
theorem gL_does_X5_send : GoodIn wsL_does (wsV RL 37 RX5 yX5_send wsX5_send) := goodIn_app (goodIn_of _ (by decide +kernel)) ggL_does_X5_send
theorem dL_does_0 : decode cL_does 0 = .ok (.iload_n 1, 1) := by decide +kernel
theorem dL_does_1 : decode cL_does 1 = .ok (.iconst 4, 1) := by decide +kernel
theorem dL_does_2 : decode cL_does 2 = .ok (.ishr, 1) := by decide +kernel
theorem dL_does_3 : decode cL_does 3 = .ok (.iconst 3, 1) := by decide +kernel
theorem dL_does_4 : decode cL_does 4 = .ok (.invokestatic 8, 3) := by decide +kernel
theorem dL_does_7 : decode cL_does 7 = .ok (.istore_n 2, 1) := by decide +kernel
theorem dL_does_8 : decode cL_does 8 = .ok (.iload_n 1, 1) := by decide +kernel
theorem dL_does_9 : decode cL_does 9 = .ok (.bipush 15, 2) := by decide +kernel
theorem dL_does_11 : decode cL_does 11 = .ok (.iand, 1) := by decide +kernel
theorem dL_does_12 : decode cL_does 12 = .ok (.tableswitch 133 0 4 #[36, 88, 88, 108, 127], 36) := by decide +kernel
theorem dL_does_48 : decode cL_does 48 = .ok (.iload_n 1, 1) := by decide +kernel
theorem dL_does_49 : decode cL_does 49 = .ok (.iconst 4, 1) := by decide +kernel
theorem dL_does_50 : decode cL_does 50 = .ok (.ishr, 1) := by decide +kernel
theorem dL_does_51 : decode cL_does 51 = .ok (.iconst 3, 1) := by decide +kernel
theorem dL_does_52 : decode cL_does 52 = .ok (.iand, 1) := by decide +kernel
theorem dL_does_53 : decode cL_does 53 = .ok (.ifCond .ne 21, 3) := by decide +kernel
theorem dL_does_56 : decode cL_does 56 = .ok (.aload_n 0, 1) := by decide +kernel
theorem dL_does_57 : decode cL_does 57 = .ok (.iconst 2, 1) := by decide +kernel
theorem dL_does_58 : decode cL_does 58 = .ok (.iload_n 1, 1) := by decide +kernel
theorem dL_does_59 : decode cL_does 59 = .ok (.bipush 6, 2) := by decide +kernel
theorem dL_does_61 : decode cL_does 61 = .ok (.ishr, 1) := by decide +kernel
theorem dL_does_62 : decode cL_does 62 = .ok (.bipush 11, 2) := by decide +kernel
theorem dL_does_64 : decode cL_does 64 = .ok (.invokestatic 8, 3) := by decide +kernel
theorem dL_does_67 : decode cL_does 67 = .ok (.iadd, 1) := by decide +kernel
theorem dL_does_68 : decode cL_does 68 = .ok (.invokevirtual 14, 3) := by decide +kernel
theorem dL_does_71 : decode cL_does 71 = .ok (.goto 28, 3) := by decide +kernel
theorem dL_does_74 : decode cL_does 74 = .ok (.aload_n 0, 1) := by decide +kernel
theorem dL_does_75 : decode cL_does 75 = .ok (.iload_n 1, 1) := by decide +kernel
theorem dL_does_76 : decode cL_does 76 = .ok (.bipush 6, 2) := by decide +kernel
theorem dL_does_78 : decode cL_does 78 = .ok (.ishr, 1) := by decide +kernel
theorem dL_does_79 : decode cL_does 79 = .ok (.aload_n 0, 1) := by decide +kernel
theorem dL_does_80 : decode cL_does 80 = .ok (.iconst 0, 1) := by decide +kernel
theorem dL_does_81 : decode cL_does 81 = .ok (.invokevirtual 20, 3) := by decide +kernel
theorem dL_does_84 : decode cL_does 84 = .ok (.invokestatic 8, 3) := by decide +kernel
theorem dL_does_87 : decode cL_does 87 = .ok (.iload_n 1, 1) := by decide +kernel
theorem dL_does_88 : decode cL_does 88 = .ok (.bipush 8, 2) := by decide +kernel
theorem dL_does_90 : decode cL_does 90 = .ok (.ishr, 1) := by decide +kernel
theorem dL_does_91 : decode cL_does 91 = .ok (.ldc 23, 2) := by decide +kernel
theorem dL_does_93 : decode cL_does 93 = .ok (.invokestatic 8, 3) := by decide +kernel
theorem dL_does_96 : decode cL_does 96 = .ok (.invokevirtual 24, 3) := by decide +kernel
theorem dL_does_99 : decode cL_does 99 = .ok (.ireturn, 1) := by decide +kernel
theorem dL_does_100 : decode cL_does 100 = .ok (.aload_n 0, 1) := by decide +kernel
theorem dL_does_101 : decode cL_does 101 = .ok (.iload_n 2, 1) := by decide +kernel
theorem dL_does_102 : decode cL_does 102 = .ok (.iload_n 1, 1) := by decide +kernel
theorem dL_does_103 : decode cL_does 103 = .ok (.bipush 6, 2) := by decide +kernel
theorem dL_does_105 : decode cL_does 105 = .ok (.ishr, 1) := by decide +kernel
theorem dL_does_106 : decode cL_does 106 = .ok (.iconst 3, 1) := by decide +kernel
theorem dL_does_107 : decode cL_does 107 = .ok (.iand, 1) := by decide +kernel
theorem dL_does_108 : decode cL_does 108 = .ok (.ifCond .le 7, 3) := by decide +kernel
theorem dL_does_111 : decode cL_does 111 = .ok (.iconst 1, 1) := by decide +kernel
theorem dL_does_112 : decode cL_does 112 = .ok (.goto 4, 3) := by decide +kernel
theorem dL_does_115 : decode cL_does 115 = .ok (.iconst 0, 1) := by decide +kernel
theorem dL_does_116 : decode cL_does 116 = .ok (.invokevirtual 27, 3) := by decide +kernel
theorem dL_does_119 : decode cL_does 119 = .ok (.ireturn, 1) := by decide +kernel
theorem dL_does_120 : decode cL_does 120 = .ok (.iload_n 1, 1) := by decide +kernel
theorem dL_does_121 : decode cL_does 121 = .ok (.bipush 6, 2) := by decide +kernel
theorem dL_does_123 : decode cL_does 123 = .ok (.ishr, 1) := by decide +kernel
theorem dL_does_124 : decode cL_does 124 = .ok (.iconst 3, 1) := by decide +kernel
theorem dL_does_125 : decode cL_does 125 = .ok (.iand, 1) := by decide +kernel
theorem dL_does_126 : decode cL_does 126 = .ok (.ifCond .ne 11, 3) := by decide +kernel
theorem dL_does_129 : decode cL_does 129 = .ok (.aload_n 0, 1) := by decide +kernel
theorem dL_does_130 : decode cL_does 130 = .ok (.iload_n 2, 1) := by decide +kernel
theorem dL_does_131 : decode cL_does 131 = .ok (.invokevirtual 31, 3) := by decide +kernel
theorem dL_does_134 : decode cL_does 134 = .ok (.goto 4, 3) := by decide +kernel
theorem dL_does_137 : decode cL_does 137 = .ok (.iconst 0, 1) := by decide +kernel
theorem dL_does_138 : decode cL_does 138 = .ok (.ireturn, 1) := by decide +kernel
theorem dL_does_139 : decode cL_does 139 = .ok (.aload_n 0, 1) := by decide +kernel
theorem dL_does_140 : decode cL_does 140 = .ok (.iload_n 2, 1) := by decide +kernel
theorem dL_does_141 : decode cL_does 141 = .ok (.invokevirtual 34, 3) := by decide +kernel
theorem dL_does_144 : decode cL_does 144 = .ok (.ireturn, 1) := by decide +kernel
theorem dL_does_145 : decode cL_does 145 = .ok (.aload_n 0, 1) := by decide +kernel
theorem dL_does_146 : decode cL_does 146 = .ok (.iload_n 1, 1) := by decide +kernel
theorem dL_does_147 : decode cL_does 147 = .ok (.iconst 4, 1) := by decide +kernel
theorem dL_does_148 : decode cL_does 148 = .ok (.ishr, 1) := by decide +kernel
theorem dL_does_149 : decode cL_does 149 = .ok (.sipush 10000, 3) := by decide +kernel
theorem dL_does_152 : decode cL_does 152 = .ok (.invokestatic 8, 3) := by decide +kernel
theorem dL_does_155 : decode cL_does 155 = .ok (.invokevirtual 37, 3) := by decide +kernel
theorem dL_does_158 : decode cL_does 158 = .ok (.ireturn, 1) := by decide +kernel
theorem dL_bits_0 : decode cL_bits 0 = .ok (.iconst 0, 1) := by decide +kernel
theorem dL_bits_1 : decode cL_bits 1 = .ok (.istore_n 1, 1) := by decide +kernel
theorem dL_bits_2 : decode cL_bits 2 = .ok (.iconst 0, 1) := by decide +kernel
theorem dL_bits_3 : decode cL_bits 3 = .ok (.istore_n 2, 1) := by decide +kernel
theorem dL_bits_4 : decode cL_bits 4 = .ok (.iload_n 2, 1) := by decide +kernel
theorem dL_bits_5 : decode cL_bits 5 = .ok (.bipush 12, 2) := by decide +kernel
theorem dL_bits_7 : decode cL_bits 7 = .ok (.if_icmp .ge 17, 3) := by decide +kernel
theorem dL_bits_10 : decode cL_bits 10 = .ok (.iload_n 1, 1) := by decide +kernel
theorem dL_bits_11 : decode cL_bits 11 = .ok (.iload_n 0, 1) := by decide +kernel
theorem dL_bits_12 : decode cL_bits 12 = .ok (.iload_n 2, 1) := by decide +kernel
theorem dL_bits_13 : decode cL_bits 13 = .ok (.ishr, 1) := by decide +kernel
theorem dL_bits_14 : decode cL_bits 14 = .ok (.iconst 1, 1) := by decide +kernel
theorem dL_bits_15 : decode cL_bits 15 = .ok (.iand, 1) := by decide +kernel
theorem dL_bits_16 : decode cL_bits 16 = .ok (.iadd, 1) := by decide +kernel
theorem dL_bits_17 : decode cL_bits 17 = .ok (.istore_n 1, 1) := by decide +kernel
theorem dL_bits_18 : decode cL_bits 18 = .ok (.iinc 2 1, 3) := by decide +kernel
theorem dL_bits_21 : decode cL_bits 21 = .ok (.goto (-17), 3) := by decide +kernel
theorem dL_bits_24 : decode cL_bits 24 = .ok (.iload_n 1, 1) := by decide +kernel
theorem dL_bits_25 : decode cL_bits 25 = .ok (.ireturn, 1) := by decide +kernel
set_option maxRecDepth 20000 in
theorem ggL_value_X5_count : GoodIn wsL_value wsX5_count := goodIn_ca (goodIn_r _ [5, 6, 7, 4, 8, 9, 10, 11, 12, 13, 14, 15, 16, 17, 18, 19, 20, 21, 22, 23, 24, 25, 26, 27, 28, 29, 30, 31, 32, 33, 34, 35, 36, 37, 38, 39, 40, 41, 42, 43, 44, 45, 46, 47, 48, 49, 50, 51, 52, 53, 65, 66, 67, 68, 69, 70, 71, 72, 73, 74, 75, 76, 77, 78, 79, 80, 81, 82, 83, 84, 85, 86] (by decide +kernel) (by decide +kernel)) (goodIn_sub (fun _ h => List.mem_cons_of_mem _ (List.mem_append_left _ (List.mem_append_right _ h))) (by decide +kernel))
set_option maxRecDepth 20000 in
theorem gL_value_X5_count : GoodIn wsL_value (wsV RL 20 RX5 yX5_count wsX5_count) := goodIn_app (goodIn_of _ (by decide +kernel)) ggL_value_X5_count
set_option maxRecDepth 20000 in
theorem ggL_value_X5_block : GoodIn wsL_value wsX5_block := goodIn_ca (goodIn_r _ [57, 15, 58, 59, 60, 4, 61, 62, 63, 64, 50, 51, 20, 52, 53, 65, 66, 67, 68, 69, 70, 71, 72, 73, 74, 75] (by decide +kernel) (by decide +kernel)) (goodIn_sub (fun _ h => List.mem_cons_of_mem _ (List.mem_append_right _ h)) (by decide +kernel))
set_option maxRecDepth 20000 in
theorem gL_value_X5_block : GoodIn wsL_value (wsV RL 40 RX5 yX5_block wsX5_block) := goodIn_app (goodIn_of _ (by decide +kernel)) ggL_value_X5_block
theorem dL_value_0 : decode cL_value 0 = .ok (.iconst 0, 1) := by decide +kernel
theorem dL_value_1 : decode cL_value 1 = .ok (.istore_n 2, 1) := by decide +kernel
theorem dL_value_2 : decode cL_value 2 = .ok (.iconst 0, 1) := by decide +kernel
theorem dL_value_3 : decode cL_value 3 = .ok (.istore_n 3, 1) := by decide +kernel
theorem dL_value_4 : decode cL_value 4 = .ok (.iload_n 3, 1) := by decide +kernel
theorem dL_value_5 : decode cL_value 5 = .ok (.aload_n 0, 1) := by decide +kernel
theorem dL_value_6 : decode cL_value 6 = .ok (.iconst 0, 1) := by decide +kernel
theorem dL_value_7 : decode cL_value 7 = .ok (.invokevirtual 20, 3) := by decide +kernel
theorem dL_value_10 : decode cL_value 10 = .ok (.if_icmp .ge 30, 3) := by decide +kernel
theorem dL_value_13 : decode cL_value 13 = .ok (.iload_n 2, 1) := by decide +kernel
theorem dL_value_14 : decode cL_value 14 = .ok (.iload_n 1, 1) := by decide +kernel
theorem dL_value_15 : decode cL_value 15 = .ok (.iload_n 3, 1) := by decide +kernel
theorem dL_value_16 : decode cL_value 16 = .ok (.ishr, 1) := by decide +kernel
theorem dL_value_17 : decode cL_value 17 = .ok (.iconst 1, 1) := by decide +kernel
theorem dL_value_18 : decode cL_value 18 = .ok (.iand, 1) := by decide +kernel
theorem dL_value_19 : decode cL_value 19 = .ok (.iconst 1, 1) := by decide +kernel
theorem dL_value_20 : decode cL_value 20 = .ok (.if_icmp .ne 11, 3) := by decide +kernel
theorem dL_value_23 : decode cL_value 23 = .ok (.aload_n 0, 1) := by decide +kernel
theorem dL_value_24 : decode cL_value 24 = .ok (.iload_n 3, 1) := by decide +kernel
theorem dL_value_25 : decode cL_value 25 = .ok (.invokevirtual 40, 3) := by decide +kernel
theorem dL_value_28 : decode cL_value 28 = .ok (.goto 4, 3) := by decide +kernel
theorem dL_value_31 : decode cL_value 31 = .ok (.iconst 0, 1) := by decide +kernel
theorem dL_value_32 : decode cL_value 32 = .ok (.ixor, 1) := by decide +kernel
theorem dL_value_33 : decode cL_value 33 = .ok (.istore_n 2, 1) := by decide +kernel
theorem dL_value_34 : decode cL_value 34 = .ok (.iinc 3 1, 3) := by decide +kernel
theorem dL_value_37 : decode cL_value 37 = .ok (.goto (-33), 3) := by decide +kernel
theorem dL_value_40 : decode cL_value 40 = .ok (.iload_n 2, 1) := by decide +kernel
theorem dL_value_41 : decode cL_value 41 = .ok (.ireturn, 1) := by decide +kernel
set_option maxRecDepth 20000 in
theorem ggL_isReceiverSo_X5_count : GoodIn wsL_isReceiverSo wsX5_count := goodIn_ca (goodIn_r _ [5, 6, 7, 4, 8, 9, 10, 11, 12, 13, 14, 15, 16, 17, 18, 19, 20, 21, 22, 23, 24, 25, 26, 27, 28, 29, 30, 31, 32, 33, 34, 35, 36, 37, 38, 39, 40, 41, 42, 43, 44, 45, 46, 47, 48, 49, 50, 51, 52, 53, 153, 154, 155, 156, 157, 158, 159, 160, 161, 162, 163, 164, 165, 166, 167, 168, 169, 170, 171, 172, 173, 174] (by decide +kernel) (by decide +kernel)) (goodIn_sub (fun _ h => List.mem_cons_of_mem _ (List.mem_append_left _ (List.mem_append_right _ h))) (by decide +kernel))
set_option maxRecDepth 20000 in
theorem gL_isReceiverSo_X5_count : GoodIn wsL_isReceiverSo (wsV RL 20 RX5 yX5_count wsX5_count) := goodIn_app (goodIn_of _ (by decide +kernel)) ggL_isReceiverSo_X5_count
set_option maxRecDepth 20000 in
theorem ggL_isReceiverSo_X5_receiver : GoodIn wsL_isReceiverSo wsX5_receiver := goodIn_ca (goodIn_ca (goodIn_r _ [57, 58, 59, 60, 4, 61, 62, 63, 15, 64, 65, 66, 20, 67, 22, 6, 7, 8, 9, 10, 68, 69, 70, 71, 72, 73, 33, 34, 35, 36, 37, 38, 39, 40, 41, 42, 43, 44, 74, 28, 29, 30, 31, 32, 75, 76, 77, 78, 79, 80, 81, 82, 83, 84, 85, 86, 87, 88, 89, 90, 91, 92, 93, 94, 95, 96, 97, 98, 99, 100, 101, 102, 103, 104, 153, 154, 155, 156, 157, 158, 159, 160, 161, 162, 163, 167, 168, 169, 170, 171, 172, 173, 174, 175, 176] (by decide +kernel) (by decide +kernel)) (goodIn_sub (fun _ h => List.mem_cons_of_mem _ (List.mem_append_right _ h)) (by decide +kernel))) (goodIn_sub (fun _ h => List.mem_cons_of_mem _ (List.mem_append_left _ (List.mem_append_right _ h))) (by decide +kernel))
set_option maxRecDepth 20000 in
theorem gL_isReceiverSo_X5_receiver : GoodIn wsL_isReceiverSo (wsV RL 43 RX5 yX5_receiver wsX5_receiver) := goodIn_app (goodIn_of _ (by decide +kernel)) ggL_isReceiverSo_X5_receiver
set_option maxRecDepth 20000 in
theorem ggL_isReceiverSo_L_bits : GoodIn wsL_isReceiverSo wsL_bits := goodIn_r _ [108] (by decide +kernel) (by decide +kernel)
set_option maxRecDepth 20000 in
theorem gL_isReceiverSo_L_bits : GoodIn wsL_isReceiverSo (va_wsS RL 46 yL_bits wsL_bits) := goodIn_app (goodIn_of _ (by decide +kernel)) ggL_isReceiverSo_L_bits
set_option maxRecDepth 20000 in
theorem ggL_isReceiverSo_X5_waiting : GoodIn wsL_isReceiverSo wsX5_waiting := goodIn_ca (goodIn_ca (goodIn_r _ [112, 9, 10, 58, 59, 60, 4, 61, 62, 63, 15, 64, 65, 66, 20, 67, 22, 6, 7, 8, 113, 114, 115, 35, 116, 84, 117, 98, 99, 118, 119, 120, 167, 168, 169, 170, 171, 172, 173, 174, 153, 154, 155, 156, 157, 158, 159, 160, 161, 162, 163] (by decide +kernel) (by decide +kernel)) (goodIn_sub (fun _ h => List.mem_cons_of_mem _ (List.mem_append_left _ (List.mem_append_right _ h))) (by decide +kernel))) (goodIn_sub (fun _ h => List.mem_cons_of_mem _ (List.mem_append_right _ h)) (by decide +kernel))
set_option maxRecDepth 20000 in
theorem gL_isReceiverSo_X5_waiting : GoodIn wsL_isReceiverSo (wsV RL 49 RX5 yX5_waiting wsX5_waiting) := goodIn_app (goodIn_of _ (by decide +kernel)) ggL_isReceiverSo_X5_waiting
set_option maxRecDepth 20000 in
theorem ggL_isReceiverSo_X5_use : GoodIn wsL_isReceiverSo wsX5_use := goodIn_ca (goodIn_r _ [124, 58, 59, 60, 4, 61, 62, 63, 15, 64, 65, 66, 20, 67, 22, 125, 126, 127, 35, 128, 129, 130, 131, 153, 154, 155, 156, 157, 158, 159, 160, 161, 162, 163, 167, 168, 169, 170, 171, 172, 173, 174] (by decide +kernel) (by decide +kernel)) (goodIn_sub (fun _ h => List.mem_cons_of_mem _ (List.mem_append_right _ h)) (by decide +kernel))
set_option maxRecDepth 20000 in
theorem gL_isReceiverSo_X5_use : GoodIn wsL_isReceiverSo (wsV RL 53 RX5 yX5_use wsX5_use) := goodIn_app (goodIn_of _ (by decide +kernel)) ggL_isReceiverSo_X5_use
set_option maxRecDepth 20000 in
theorem ggL_isReceiverSo_X5_known : GoodIn wsL_isReceiverSo wsX5_known := goodIn_ca (goodIn_r _ [135, 58, 59, 60, 4, 61, 62, 63, 15, 64, 65, 66, 20, 67, 22, 136, 137, 138, 139, 140, 141, 142, 35, 143, 144, 37, 96, 97, 119, 120, 153, 154, 155, 156, 157, 158, 159, 160, 161, 162, 163, 167, 168, 169, 170, 171, 172, 173, 174] (by decide +kernel) (by decide +kernel)) (goodIn_sub (fun _ h => List.mem_cons_of_mem _ (List.mem_append_right _ h)) (by decide +kernel))
set_option maxRecDepth 20000 in
theorem gL_isReceiverSo_X5_known : GoodIn wsL_isReceiverSo (wsV RL 57 RX5 yX5_known wsX5_known) := goodIn_app (goodIn_of _ (by decide +kernel)) ggL_isReceiverSo_X5_known
set_option maxRecDepth 20000 in
theorem ggL_isReceiverSo_X5_block : GoodIn wsL_isReceiverSo wsX5_block := goodIn_ca (goodIn_r _ [148, 15, 136, 137, 138, 4, 139, 62, 63, 149, 50, 51, 20, 52, 53, 153, 154, 155, 156, 157, 158, 159, 160, 161, 162, 163] (by decide +kernel) (by decide +kernel)) (goodIn_sub (fun _ h => List.mem_cons_of_mem _ (List.mem_append_right _ h)) (by decide +kernel))
set_option maxRecDepth 20000 in
theorem gL_isReceiverSo_X5_block : GoodIn wsL_isReceiverSo (wsV RL 40 RX5 yX5_block wsX5_block) := goodIn_app (goodIn_of _ (by decide +kernel)) ggL_isReceiverSo_X5_block
set_option maxRecDepth 20000 in
theorem ggL_isReceiverSo_L_value : GoodIn wsL_isReceiverSo wsL_value := goodIn_ca (goodIn_ca (goodIn_r _ [152, 1, 2, 3, 4, 5, 6, 7, 8, 9, 10, 11, 12, 13, 14, 15, 16, 17, 18, 19, 20, 21, 22, 23, 24, 25, 26, 27, 28, 29, 30, 31, 32, 33, 34, 35, 36, 37, 38, 39, 40, 41, 42, 43, 44, 45, 46, 47, 48, 49, 50, 51, 52, 53, 145, 146, 147, 148, 136, 137, 138, 139, 62, 63, 149, 153, 154, 155, 156, 157, 158, 159, 160, 161, 162, 163, 164, 165, 166, 167, 168, 169, 170, 171, 172, 173, 174] (by decide +kernel) (by decide +kernel)) (goodIn_sub (fun _ h => List.mem_cons_of_mem _ (List.mem_append_left _ (List.mem_append_right _ h))) (by decide +kernel))) (goodIn_sub (fun _ h => List.mem_cons_of_mem _ (List.mem_append_right _ h)) (by decide +kernel))
set_option maxRecDepth 20000 in
theorem gL_isReceiverSo_L_value : GoodIn wsL_isReceiverSo (va_wsS RL 60 yL_value wsL_value) := goodIn_app (goodIn_of _ (by decide +kernel)) ggL_isReceiverSo_L_value
theorem dL_isReceiverSo_0 : decode cL_isReceiverSo 0 = .ok (.aload_n 0, 1) := by decide +kernel
theorem dL_isReceiverSo_1 : decode cL_isReceiverSo 1 = .ok (.iconst 0, 1) := by decide +kernel
theorem dL_isReceiverSo_2 : decode cL_isReceiverSo 2 = .ok (.invokevirtual 20, 3) := by decide +kernel
theorem dL_isReceiverSo_5 : decode cL_isReceiverSo 5 = .ok (.istore_n 2, 1) := by decide +kernel
theorem dL_isReceiverSo_6 : decode cL_isReceiverSo 6 = .ok (.aload_n 0, 1) := by decide +kernel
theorem dL_isReceiverSo_7 : decode cL_isReceiverSo 7 = .ok (.iload_n 1, 1) := by decide +kernel
theorem dL_isReceiverSo_8 : decode cL_isReceiverSo 8 = .ok (.iconst 2, 1) := by decide +kernel
theorem dL_isReceiverSo_9 : decode cL_isReceiverSo 9 = .ok (.invokevirtual 43, 3) := by decide +kernel
theorem dL_isReceiverSo_12 : decode cL_isReceiverSo 12 = .ok (.istore_n 3, 1) := by decide +kernel
theorem dL_isReceiverSo_13 : decode cL_isReceiverSo 13 = .ok (.aload_n 0, 1) := by decide +kernel
theorem dL_isReceiverSo_14 : decode cL_isReceiverSo 14 = .ok (.iload_n 1, 1) := by decide +kernel
theorem dL_isReceiverSo_15 : decode cL_isReceiverSo 15 = .ok (.iconst 3, 1) := by decide +kernel
theorem dL_isReceiverSo_16 : decode cL_isReceiverSo 16 = .ok (.invokevirtual 43, 3) := by decide +kernel
theorem dL_isReceiverSo_19 : decode cL_isReceiverSo 19 = .ok (.istore 4, 2) := by decide +kernel
theorem dL_isReceiverSo_21 : decode cL_isReceiverSo 21 = .ok (.aload_n 0, 1) := by decide +kernel
theorem dL_isReceiverSo_22 : decode cL_isReceiverSo 22 = .ok (.iload_n 1, 1) := by decide +kernel
theorem dL_isReceiverSo_23 : decode cL_isReceiverSo 23 = .ok (.bipush 8, 2) := by decide +kernel
theorem dL_isReceiverSo_25 : decode cL_isReceiverSo 25 = .ok (.invokevirtual 43, 3) := by decide +kernel
theorem dL_isReceiverSo_28 : decode cL_isReceiverSo 28 = .ok (.istore 5, 2) := by decide +kernel
theorem dL_isReceiverSo_30 : decode cL_isReceiverSo 30 = .ok (.aload_n 0, 1) := by decide +kernel
theorem dL_isReceiverSo_31 : decode cL_isReceiverSo 31 = .ok (.iload_n 1, 1) := by decide +kernel
theorem dL_isReceiverSo_32 : decode cL_isReceiverSo 32 = .ok (.iconst 1, 1) := by decide +kernel
theorem dL_isReceiverSo_33 : decode cL_isReceiverSo 33 = .ok (.invokevirtual 43, 3) := by decide +kernel
theorem dL_isReceiverSo_36 : decode cL_isReceiverSo 36 = .ok (.iload_n 3, 1) := by decide +kernel
theorem dL_isReceiverSo_37 : decode cL_isReceiverSo 37 = .ok (.invokestatic 46, 3) := by decide +kernel
theorem dL_isReceiverSo_40 : decode cL_isReceiverSo 40 = .ok (.if_icmp .ne 128, 3) := by decide +kernel
theorem dL_isReceiverSo_43 : decode cL_isReceiverSo 43 = .ok (.aload_n 0, 1) := by decide +kernel
theorem dL_isReceiverSo_44 : decode cL_isReceiverSo 44 = .ok (.iload_n 1, 1) := by decide +kernel
theorem dL_isReceiverSo_45 : decode cL_isReceiverSo 45 = .ok (.bipush 7, 2) := by decide +kernel
theorem dL_isReceiverSo_47 : decode cL_isReceiverSo 47 = .ok (.invokevirtual 43, 3) := by decide +kernel
theorem dL_isReceiverSo_50 : decode cL_isReceiverSo 50 = .ok (.iconst 1, 1) := by decide +kernel
theorem dL_isReceiverSo_51 : decode cL_isReceiverSo 51 = .ok (.if_icmp .ne 7, 3) := by decide +kernel
theorem dL_isReceiverSo_54 : decode cL_isReceiverSo 54 = .ok (.iconst 1, 1) := by decide +kernel
theorem dL_isReceiverSo_55 : decode cL_isReceiverSo 55 = .ok (.goto 4, 3) := by decide +kernel
theorem dL_isReceiverSo_58 : decode cL_isReceiverSo 58 = .ok (.iconst 0, 1) := by decide +kernel
theorem dL_isReceiverSo_59 : decode cL_isReceiverSo 59 = .ok (.iload_n 3, 1) := by decide +kernel
theorem dL_isReceiverSo_60 : decode cL_isReceiverSo 60 = .ok (.invokestatic 46, 3) := by decide +kernel
theorem dL_isReceiverSo_63 : decode cL_isReceiverSo 63 = .ok (.iload_n 2, 1) := by decide +kernel
theorem dL_isReceiverSo_64 : decode cL_isReceiverSo 64 = .ok (.if_icmp .ne 7, 3) := by decide +kernel
theorem dL_isReceiverSo_67 : decode cL_isReceiverSo 67 = .ok (.iconst 1, 1) := by decide +kernel
theorem dL_isReceiverSo_68 : decode cL_isReceiverSo 68 = .ok (.goto 4, 3) := by decide +kernel
theorem dL_isReceiverSo_71 : decode cL_isReceiverSo 71 = .ok (.iconst 0, 1) := by decide +kernel
theorem dL_isReceiverSo_72 : decode cL_isReceiverSo 72 = .ok (.if_icmp .ne 96, 3) := by decide +kernel
theorem dL_isReceiverSo_75 : decode cL_isReceiverSo 75 = .ok (.iload 4, 2) := by decide +kernel
theorem dL_isReceiverSo_77 : decode cL_isReceiverSo 77 = .ok (.bipush 24, 2) := by decide +kernel
theorem dL_isReceiverSo_79 : decode cL_isReceiverSo 79 = .ok (.if_icmp .gt 89, 3) := by decide +kernel
theorem dL_isReceiverSo_82 : decode cL_isReceiverSo 82 = .ok (.iload 5, 2) := by decide +kernel
theorem dL_isReceiverSo_84 : decode cL_isReceiverSo 84 = .ok (.iload_n 3, 1) := by decide +kernel
theorem dL_isReceiverSo_85 : decode cL_isReceiverSo 85 = .ok (.invokestatic 46, 3) := by decide +kernel
theorem dL_isReceiverSo_88 : decode cL_isReceiverSo 88 = .ok (.if_icmp .lt 80, 3) := by decide +kernel
theorem dL_isReceiverSo_91 : decode cL_isReceiverSo 91 = .ok (.iload 5, 2) := by decide +kernel
theorem dL_isReceiverSo_93 : decode cL_isReceiverSo 93 = .ok (.iload_n 2, 1) := by decide +kernel
theorem dL_isReceiverSo_94 : decode cL_isReceiverSo 94 = .ok (.if_icmp .gt 74, 3) := by decide +kernel
theorem dL_isReceiverSo_97 : decode cL_isReceiverSo 97 = .ok (.iload 5, 2) := by decide +kernel
theorem dL_isReceiverSo_99 : decode cL_isReceiverSo 99 = .ok (.iload_n 3, 1) := by decide +kernel
theorem dL_isReceiverSo_100 : decode cL_isReceiverSo 100 = .ok (.invokestatic 46, 3) := by decide +kernel
theorem dL_isReceiverSo_103 : decode cL_isReceiverSo 103 = .ok (.iload 4, 2) := by decide +kernel
theorem dL_isReceiverSo_105 : decode cL_isReceiverSo 105 = .ok (.iadd, 1) := by decide +kernel
theorem dL_isReceiverSo_106 : decode cL_isReceiverSo 106 = .ok (.if_icmp .gt 62, 3) := by decide +kernel
theorem dL_isReceiverSo_109 : decode cL_isReceiverSo 109 = .ok (.aload_n 0, 1) := by decide +kernel
theorem dL_isReceiverSo_110 : decode cL_isReceiverSo 110 = .ok (.iload_n 1, 1) := by decide +kernel
theorem dL_isReceiverSo_111 : decode cL_isReceiverSo 111 = .ok (.iconst 5, 1) := by decide +kernel
theorem dL_isReceiverSo_112 : decode cL_isReceiverSo 112 = .ok (.invokevirtual 43, 3) := by decide +kernel
theorem dL_isReceiverSo_115 : decode cL_isReceiverSo 115 = .ok (.aload_n 0, 1) := by decide +kernel
theorem dL_isReceiverSo_116 : decode cL_isReceiverSo 116 = .ok (.iload_n 1, 1) := by decide +kernel
theorem dL_isReceiverSo_117 : decode cL_isReceiverSo 117 = .ok (.bipush 6, 2) := by decide +kernel
theorem dL_isReceiverSo_119 : decode cL_isReceiverSo 119 = .ok (.invokevirtual 43, 3) := by decide +kernel
theorem dL_isReceiverSo_122 : decode cL_isReceiverSo 122 = .ok (.iadd, 1) := by decide +kernel
theorem dL_isReceiverSo_123 : decode cL_isReceiverSo 123 = .ok (.aload_n 0, 1) := by decide +kernel
theorem dL_isReceiverSo_124 : decode cL_isReceiverSo 124 = .ok (.iload_n 1, 1) := by decide +kernel
theorem dL_isReceiverSo_125 : decode cL_isReceiverSo 125 = .ok (.iconst 4, 1) := by decide +kernel
theorem dL_isReceiverSo_126 : decode cL_isReceiverSo 126 = .ok (.invokevirtual 43, 3) := by decide +kernel
theorem dL_isReceiverSo_129 : decode cL_isReceiverSo 129 = .ok (.if_icmp .gt 39, 3) := by decide +kernel
theorem dL_isReceiverSo_132 : decode cL_isReceiverSo 132 = .ok (.aload_n 0, 1) := by decide +kernel
theorem dL_isReceiverSo_133 : decode cL_isReceiverSo 133 = .ok (.iload_n 1, 1) := by decide +kernel
theorem dL_isReceiverSo_134 : decode cL_isReceiverSo 134 = .ok (.iload 4, 2) := by decide +kernel
theorem dL_isReceiverSo_136 : decode cL_isReceiverSo 136 = .ok (.iconst 0, 1) := by decide +kernel
theorem dL_isReceiverSo_137 : decode cL_isReceiverSo 137 = .ok (.invokevirtual 49, 3) := by decide +kernel
theorem dL_isReceiverSo_140 : decode cL_isReceiverSo 140 = .ok (.iconst (-1), 1) := by decide +kernel
theorem dL_isReceiverSo_141 : decode cL_isReceiverSo 141 = .ok (.if_icmp .ne 27, 3) := by decide +kernel
theorem dL_isReceiverSo_144 : decode cL_isReceiverSo 144 = .ok (.aload_n 0, 1) := by decide +kernel
theorem dL_isReceiverSo_145 : decode cL_isReceiverSo 145 = .ok (.iload_n 1, 1) := by decide +kernel
theorem dL_isReceiverSo_146 : decode cL_isReceiverSo 146 = .ok (.invokevirtual 53, 3) := by decide +kernel
theorem dL_isReceiverSo_149 : decode cL_isReceiverSo 149 = .ok (.dconst 0, 1) := by decide +kernel
theorem dL_isReceiverSo_150 : decode cL_isReceiverSo 150 = .ok (.dcmp .l, 1) := by decide +kernel
theorem dL_isReceiverSo_151 : decode cL_isReceiverSo 151 = .ok (.ifCond .lt 17, 3) := by decide +kernel
theorem dL_isReceiverSo_154 : decode cL_isReceiverSo 154 = .ok (.aload_n 0, 1) := by decide +kernel
theorem dL_isReceiverSo_155 : decode cL_isReceiverSo 155 = .ok (.iload_n 1, 1) := by decide +kernel
theorem dL_isReceiverSo_156 : decode cL_isReceiverSo 156 = .ok (.invokevirtual 53, 3) := by decide +kernel
theorem dL_isReceiverSo_159 : decode cL_isReceiverSo 159 = .ok (.dconst 1, 1) := by decide +kernel
theorem dL_isReceiverSo_160 : decode cL_isReceiverSo 160 = .ok (.dcmp .g, 1) := by decide +kernel
theorem dL_isReceiverSo_161 : decode cL_isReceiverSo 161 = .ok (.ifCond .gt 7, 3) := by decide +kernel
theorem dL_isReceiverSo_164 : decode cL_isReceiverSo 164 = .ok (.iconst 1, 1) := by decide +kernel
theorem dL_isReceiverSo_165 : decode cL_isReceiverSo 165 = .ok (.goto 4, 3) := by decide +kernel
theorem dL_isReceiverSo_168 : decode cL_isReceiverSo 168 = .ok (.iconst 0, 1) := by decide +kernel
theorem dL_isReceiverSo_169 : decode cL_isReceiverSo 169 = .ok (.istore 6, 2) := by decide +kernel
theorem dL_isReceiverSo_171 : decode cL_isReceiverSo 171 = .ok (.iconst 0, 1) := by decide +kernel
theorem dL_isReceiverSo_172 : decode cL_isReceiverSo 172 = .ok (.istore 7, 2) := by decide +kernel
theorem dL_isReceiverSo_174 : decode cL_isReceiverSo 174 = .ok (.iload 7, 2) := by decide +kernel
theorem dL_isReceiverSo_176 : decode cL_isReceiverSo 176 = .ok (.iload_n 2, 1) := by decide +kernel
theorem dL_isReceiverSo_177 : decode cL_isReceiverSo 177 = .ok (.if_icmp .ge 51, 3) := by decide +kernel
theorem dL_isReceiverSo_180 : decode cL_isReceiverSo 180 = .ok (.iload 6, 2) := by decide +kernel
theorem dL_isReceiverSo_182 : decode cL_isReceiverSo 182 = .ok (.ifCond .eq 37, 3) := by decide +kernel
theorem dL_isReceiverSo_185 : decode cL_isReceiverSo 185 = .ok (.aload_n 0, 1) := by decide +kernel
theorem dL_isReceiverSo_186 : decode cL_isReceiverSo 186 = .ok (.iload_n 1, 1) := by decide +kernel
theorem dL_isReceiverSo_187 : decode cL_isReceiverSo 187 = .ok (.iload 7, 2) := by decide +kernel
theorem dL_isReceiverSo_189 : decode cL_isReceiverSo 189 = .ok (.invokevirtual 57, 3) := by decide +kernel
theorem dL_isReceiverSo_192 : decode cL_isReceiverSo 192 = .ok (.iload_n 3, 1) := by decide +kernel
theorem dL_isReceiverSo_193 : decode cL_isReceiverSo 193 = .ok (.iload 7, 2) := by decide +kernel
theorem dL_isReceiverSo_195 : decode cL_isReceiverSo 195 = .ok (.ishr, 1) := by decide +kernel
theorem dL_isReceiverSo_196 : decode cL_isReceiverSo 196 = .ok (.iconst 1, 1) := by decide +kernel
theorem dL_isReceiverSo_197 : decode cL_isReceiverSo 197 = .ok (.iand, 1) := by decide +kernel
theorem dL_isReceiverSo_198 : decode cL_isReceiverSo 198 = .ok (.iconst 1, 1) := by decide +kernel
theorem dL_isReceiverSo_199 : decode cL_isReceiverSo 199 = .ok (.if_icmp .ne 12, 3) := by decide +kernel
theorem dL_isReceiverSo_202 : decode cL_isReceiverSo 202 = .ok (.aload_n 0, 1) := by decide +kernel
theorem dL_isReceiverSo_203 : decode cL_isReceiverSo 203 = .ok (.iload 7, 2) := by decide +kernel
theorem dL_isReceiverSo_205 : decode cL_isReceiverSo 205 = .ok (.invokevirtual 40, 3) := by decide +kernel
theorem dL_isReceiverSo_208 : decode cL_isReceiverSo 208 = .ok (.goto 4, 3) := by decide +kernel
theorem dL_isReceiverSo_211 : decode cL_isReceiverSo 211 = .ok (.iconst (-1), 1) := by decide +kernel
theorem dL_isReceiverSo_212 : decode cL_isReceiverSo 212 = .ok (.if_icmp .ne 7, 3) := by decide +kernel
theorem dL_isReceiverSo_215 : decode cL_isReceiverSo 215 = .ok (.iconst 1, 1) := by decide +kernel
theorem dL_isReceiverSo_216 : decode cL_isReceiverSo 216 = .ok (.goto 4, 3) := by decide +kernel
theorem dL_isReceiverSo_219 : decode cL_isReceiverSo 219 = .ok (.iconst 0, 1) := by decide +kernel
theorem dL_isReceiverSo_220 : decode cL_isReceiverSo 220 = .ok (.istore 6, 2) := by decide +kernel
theorem dL_isReceiverSo_222 : decode cL_isReceiverSo 222 = .ok (.iinc 7 1, 3) := by decide +kernel
theorem dL_isReceiverSo_225 : decode cL_isReceiverSo 225 = .ok (.goto (-51), 3) := by decide +kernel
theorem dL_isReceiverSo_228 : decode cL_isReceiverSo 228 = .ok (.iconst 0, 1) := by decide +kernel
theorem dL_isReceiverSo_229 : decode cL_isReceiverSo 229 = .ok (.istore 7, 2) := by decide +kernel
theorem dL_isReceiverSo_231 : decode cL_isReceiverSo 231 = .ok (.iload 7, 2) := by decide +kernel
theorem dL_isReceiverSo_233 : decode cL_isReceiverSo 233 = .ok (.iload 4, 2) := by decide +kernel
theorem dL_isReceiverSo_235 : decode cL_isReceiverSo 235 = .ok (.if_icmp .ge 72, 3) := by decide +kernel
theorem dL_isReceiverSo_238 : decode cL_isReceiverSo 238 = .ok (.aload_n 0, 1) := by decide +kernel
theorem dL_isReceiverSo_239 : decode cL_isReceiverSo 239 = .ok (.iload_n 1, 1) := by decide +kernel
theorem dL_isReceiverSo_240 : decode cL_isReceiverSo 240 = .ok (.iload 7, 2) := by decide +kernel
theorem dL_isReceiverSo_242 : decode cL_isReceiverSo 242 = .ok (.iconst 0, 1) := by decide +kernel
theorem dL_isReceiverSo_243 : decode cL_isReceiverSo 243 = .ok (.invokevirtual 49, 3) := by decide +kernel
theorem dL_isReceiverSo_246 : decode cL_isReceiverSo 246 = .ok (.istore 8, 2) := by decide +kernel
theorem dL_isReceiverSo_248 : decode cL_isReceiverSo 248 = .ok (.iload 6, 2) := by decide +kernel
theorem dL_isReceiverSo_250 : decode cL_isReceiverSo 250 = .ok (.ifCond .eq 48, 3) := by decide +kernel
theorem dL_isReceiverSo_253 : decode cL_isReceiverSo 253 = .ok (.iload 8, 2) := by decide +kernel
theorem dL_isReceiverSo_255 : decode cL_isReceiverSo 255 = .ok (.invokestatic 46, 3) := by decide +kernel
theorem dL_isReceiverSo_258 : decode cL_isReceiverSo 258 = .ok (.iconst 1, 1) := by decide +kernel
theorem dL_isReceiverSo_259 : decode cL_isReceiverSo 259 = .ok (.if_icmp .le 39, 3) := by decide +kernel
theorem dL_isReceiverSo_262 : decode cL_isReceiverSo 262 = .ok (.iload 8, 2) := by decide +kernel
theorem dL_isReceiverSo_264 : decode cL_isReceiverSo 264 = .ok (.iload_n 3, 1) := by decide +kernel
theorem dL_isReceiverSo_265 : decode cL_isReceiverSo 265 = .ok (.iand, 1) := by decide +kernel
theorem dL_isReceiverSo_266 : decode cL_isReceiverSo 266 = .ok (.ifCond .ne 32, 3) := by decide +kernel
theorem dL_isReceiverSo_269 : decode cL_isReceiverSo 269 = .ok (.iload 8, 2) := by decide +kernel
theorem dL_isReceiverSo_271 : decode cL_isReceiverSo 271 = .ok (.iconst 1, 1) := by decide +kernel
theorem dL_isReceiverSo_272 : decode cL_isReceiverSo 272 = .ok (.iload_n 2, 1) := by decide +kernel
theorem dL_isReceiverSo_273 : decode cL_isReceiverSo 273 = .ok (.ishl, 1) := by decide +kernel
theorem dL_isReceiverSo_274 : decode cL_isReceiverSo 274 = .ok (.if_icmp .ge 24, 3) := by decide +kernel
theorem dL_isReceiverSo_277 : decode cL_isReceiverSo 277 = .ok (.aload_n 0, 1) := by decide +kernel
theorem dL_isReceiverSo_278 : decode cL_isReceiverSo 278 = .ok (.iload_n 1, 1) := by decide +kernel
theorem dL_isReceiverSo_279 : decode cL_isReceiverSo 279 = .ok (.iload 7, 2) := by decide +kernel
theorem dL_isReceiverSo_281 : decode cL_isReceiverSo 281 = .ok (.iconst 1, 1) := by decide +kernel
theorem dL_isReceiverSo_282 : decode cL_isReceiverSo 282 = .ok (.invokevirtual 49, 3) := by decide +kernel
theorem dL_isReceiverSo_285 : decode cL_isReceiverSo 285 = .ok (.aload_n 0, 1) := by decide +kernel
theorem dL_isReceiverSo_286 : decode cL_isReceiverSo 286 = .ok (.iload 8, 2) := by decide +kernel
theorem dL_isReceiverSo_288 : decode cL_isReceiverSo 288 = .ok (.invokestatic 60, 3) := by decide +kernel
theorem dL_isReceiverSo_291 : decode cL_isReceiverSo 291 = .ok (.if_icmp .ne 7, 3) := by decide +kernel
theorem dL_isReceiverSo_294 : decode cL_isReceiverSo 294 = .ok (.iconst 1, 1) := by decide +kernel
theorem dL_isReceiverSo_295 : decode cL_isReceiverSo 295 = .ok (.goto 4, 3) := by decide +kernel
theorem dL_isReceiverSo_298 : decode cL_isReceiverSo 298 = .ok (.iconst 0, 1) := by decide +kernel
theorem dL_isReceiverSo_299 : decode cL_isReceiverSo 299 = .ok (.istore 6, 2) := by decide +kernel
theorem dL_isReceiverSo_301 : decode cL_isReceiverSo 301 = .ok (.iinc 7 1, 3) := by decide +kernel
theorem dL_isReceiverSo_304 : decode cL_isReceiverSo 304 = .ok (.goto (-73), 3) := by decide +kernel
theorem dL_isReceiverSo_307 : decode cL_isReceiverSo 307 = .ok (.iload 6, 2) := by decide +kernel
theorem dL_isReceiverSo_309 : decode cL_isReceiverSo 309 = .ok (.ireturn, 1) := by decide +kernel
