set_option maxRecDepth 20000 in
theorem ggX5_init_X4_init : GoodIn wsX5_init wsX4_init := goodIn_r _ [29, 30, 2, 3, 31, 12, 32, 33, 34, 35, 20, 21, 36, 37, 38, 39, 40, 41, 65, 66, 67, 68, 82, 83, 84, 85, 86, 87, 88, 89] (by decide +kernel) (by decide +kernel)
set_option maxRecDepth 20000 in
theorem gX5_init_X4_init : GoodIn wsX5_init (wsX4_init) := ggX5_init_X4_init
set_option maxRecDepth 20000 in
theorem ggX5_init_X1_init : GoodIn wsX5_init wsX1_init := goodIn_r _ [44, 45, 2, 3, 46, 47, 5, 6, 48, 49, 50, 28, 29, 30, 31, 12, 32, 33, 34, 35, 20, 21, 36, 37, 38, 39, 40, 41, 76, 77, 78, 65, 66, 67, 68, 82, 83, 84, 85, 86, 87, 88, 89] (by decide +kernel) (by decide +kernel)
set_option maxRecDepth 20000 in
theorem gX5_init_X1_init : GoodIn wsX5_init (wsX1_init) := ggX5_init_X1_init
set_option maxRecDepth 20000 in
theorem ggX5_init_X2_init : GoodIn wsX5_init wsX2_init := goodIn_r _ [53, 54, 2, 3, 55, 56, 57, 79, 80, 81] (by decide +kernel) (by decide +kernel)
set_option maxRecDepth 20000 in
theorem gX5_init_X2_init : GoodIn wsX5_init (wsX2_init) := ggX5_init_X2_init
set_option maxRecDepth 20000 in
theorem ggX5_init_X3_init : GoodIn wsX5_init wsX3_init := goodIn_r _ [38, 39, 2, 3, 12, 40, 41, 82, 83, 84, 85, 86, 87, 88, 89] (by decide +kernel) (by decide +kernel)
set_option maxRecDepth 20000 in
theorem gX5_init_X3_init : GoodIn wsX5_init (wsX3_init) := ggX5_init_X3_init
set_option maxRecDepth 20000 in
theorem ggX5_init_X0_init : GoodIn wsX5_init wsX0_init := goodIn_r _ [61, 62, 2, 3, 12, 63, 64, 90, 91] (by decide +kernel) (by decide +kernel)
set_option maxRecDepth 20000 in
theorem gX5_init_X0_init : GoodIn wsX5_init (wsX0_init) := ggX5_init_X0_init
theorem dX5_init_0 : decode cX5_init 0 = .ok (.aload_n 0, 1) := by decide +kernel
theorem dX5_init_1 : decode cX5_init 1 = .ok (.invokespecial 3, 3) := by decide +kernel
theorem dX5_init_4 : decode cX5_init 4 = .ok (.aload_n 0, 1) := by decide +kernel
theorem dX5_init_5 : decode cX5_init 5 = .ok (.new 9, 3) := by decide +kernel
theorem dX5_init_8 : decode cX5_init 8 = .ok (.dup, 1) := by decide +kernel
theorem dX5_init_9 : decode cX5_init 9 = .ok (.invokespecial 11, 3) := by decide +kernel
theorem dX5_init_12 : decode cX5_init 12 = .ok (.putfield 12, 3) := by decide +kernel
theorem dX5_init_15 : decode cX5_init 15 = .ok (.aload_n 0, 1) := by decide +kernel
theorem dX5_init_16 : decode cX5_init 16 = .ok (.new 16, 3) := by decide +kernel
theorem dX5_init_19 : decode cX5_init 19 = .ok (.dup, 1) := by decide +kernel
theorem dX5_init_20 : decode cX5_init 20 = .ok (.invokespecial 18, 3) := by decide +kernel
theorem dX5_init_23 : decode cX5_init 23 = .ok (.putfield 19, 3) := by decide +kernel
theorem dX5_init_26 : decode cX5_init 26 = .ok (.aload_n 0, 1) := by decide +kernel
theorem dX5_init_27 : decode cX5_init 27 = .ok (.bipush 60, 2) := by decide +kernel
theorem dX5_init_29 : decode cX5_init 29 = .ok (.newarray .int, 2) := by decide +kernel
theorem dX5_init_31 : decode cX5_init 31 = .ok (.putfield 23, 3) := by decide +kernel
theorem dX5_init_34 : decode cX5_init 34 = .ok (.aload_n 0, 1) := by decide +kernel
theorem dX5_init_35 : decode cX5_init 35 = .ok (.iconst 0, 1) := by decide +kernel
theorem dX5_init_36 : decode cX5_init 36 = .ok (.putfield 27, 3) := by decide +kernel
theorem dX5_init_39 : decode cX5_init 39 = .ok (.aload_n 0, 1) := by decide +kernel
theorem dX5_init_40 : decode cX5_init 40 = .ok (.new 31, 3) := by decide +kernel
theorem dX5_init_43 : decode cX5_init 43 = .ok (.dup, 1) := by decide +kernel
theorem dX5_init_44 : decode cX5_init 44 = .ok (.invokespecial 33, 3) := by decide +kernel
theorem dX5_init_47 : decode cX5_init 47 = .ok (.putfield 34, 3) := by decide +kernel
theorem dX5_init_50 : decode cX5_init 50 = .ok (.aload_n 0, 1) := by decide +kernel
theorem dX5_init_51 : decode cX5_init 51 = .ok (.new 38, 3) := by decide +kernel
theorem dX5_init_54 : decode cX5_init 54 = .ok (.dup, 1) := by decide +kernel
theorem dX5_init_55 : decode cX5_init 55 = .ok (.invokespecial 40, 3) := by decide +kernel
theorem dX5_init_58 : decode cX5_init 58 = .ok (.putfield 41, 3) := by decide +kernel
theorem dX5_init_61 : decode cX5_init 61 = .ok (.aload_n 0, 1) := by decide +kernel
theorem dX5_init_62 : decode cX5_init 62 = .ok (.new 45, 3) := by decide +kernel
theorem dX5_init_65 : decode cX5_init 65 = .ok (.dup, 1) := by decide +kernel
theorem dX5_init_66 : decode cX5_init 66 = .ok (.invokespecial 47, 3) := by decide +kernel
theorem dX5_init_69 : decode cX5_init 69 = .ok (.putfield 48, 3) := by decide +kernel
theorem dX5_init_72 : decode cX5_init 72 = .ok (.return_, 1) := by decide +kernel
set_option maxRecDepth 20000 in
theorem ggX5_size_X1_keep : GoodIn wsX5_size wsX1_keep := goodIn_r _ [9, 10, 11, 12, 13, 14, 8, 15, 16, 17, 18, 19, 20, 21, 22, 23, 24, 25, 26, 27, 28, 29, 30, 31, 32, 33, 34, 35, 36, 37, 38, 39, 40, 41, 42, 43, 44, 45, 46, 47, 48, 49, 50, 51, 52, 53, 77, 78, 79, 73, 74, 75, 76, 80, 81, 82, 83, 84, 85, 86, 87] (by decide +kernel) (by decide +kernel)
set_option maxRecDepth 20000 in
theorem gX5_size_X1_keep : GoodIn wsX5_size (wsV RX5 59 RX1 yX1_keep wsX1_keep) := goodIn_app (goodIn_of _ (by decide +kernel)) ggX5_size_X1_keep
set_option maxRecDepth 20000 in
theorem ggX5_size_X4_resize : GoodIn wsX5_size wsX4_resize := goodIn_r _ [57, 22, 24, 58, 59, 60, 20, 61, 25, 62, 63, 64, 44, 65, 47, 50, 48, 73, 74, 75, 76, 80, 81, 82, 83, 84, 85, 86, 87] (by decide +kernel) (by decide +kernel)
set_option maxRecDepth 20000 in
theorem gX5_size_X4_resize : GoodIn wsX5_size (wsV RX5 66 RX4 yX4_resize wsX4_resize) := goodIn_app (goodIn_of _ (by decide +kernel)) ggX5_size_X4_resize
theorem dX5_size_0 : decode cX5_size 0 = .ok (.iload_n 1, 1) := by decide +kernel
theorem dX5_size_1 : decode cX5_size 1 = .ok (.iconst 2, 1) := by decide +kernel
theorem dX5_size_2 : decode cX5_size 2 = .ok (.if_icmp .lt 9, 3) := by decide +kernel
theorem dX5_size_5 : decode cX5_size 5 = .ok (.iload_n 1, 1) := by decide +kernel
theorem dX5_size_6 : decode cX5_size 6 = .ok (.bipush 12, 2) := by decide +kernel
theorem dX5_size_8 : decode cX5_size 8 = .ok (.if_icmp .le 13, 3) := by decide +kernel
theorem dX5_size_11 : decode cX5_size 11 = .ok (.new 52, 3) := by decide +kernel
theorem dX5_size_14 : decode cX5_size 14 = .ok (.dup, 1) := by decide +kernel
theorem dX5_size_15 : decode cX5_size 15 = .ok (.ldc 54, 2) := by decide +kernel
theorem dX5_size_17 : decode cX5_size 17 = .ok (.invokespecial 56, 3) := by decide +kernel
theorem dX5_size_20 : decode cX5_size 20 = .ok (.athrow, 1) := by decide +kernel
theorem dX5_size_21 : decode cX5_size 21 = .ok (.aload_n 0, 1) := by decide +kernel
theorem dX5_size_22 : decode cX5_size 22 = .ok (.getfield 19, 3) := by decide +kernel
theorem dX5_size_25 : decode cX5_size 25 = .ok (.aload_n 0, 1) := by decide +kernel
theorem dX5_size_26 : decode cX5_size 26 = .ok (.getfield 12, 3) := by decide +kernel
theorem dX5_size_29 : decode cX5_size 29 = .ok (.invokevirtual 59, 3) := by decide +kernel
theorem dX5_size_32 : decode cX5_size 32 = .ok (.aload_n 0, 1) := by decide +kernel
theorem dX5_size_33 : decode cX5_size 33 = .ok (.getfield 12, 3) := by decide +kernel
theorem dX5_size_36 : decode cX5_size 36 = .ok (.getfield 63, 3) := by decide +kernel
theorem dX5_size_39 : decode cX5_size 39 = .ok (.istore_n 2, 1) := by decide +kernel
theorem dX5_size_40 : decode cX5_size 40 = .ok (.aload_n 0, 1) := by decide +kernel
theorem dX5_size_41 : decode cX5_size 41 = .ok (.getfield 12, 3) := by decide +kernel
theorem dX5_size_44 : decode cX5_size 44 = .ok (.iload_n 1, 1) := by decide +kernel
theorem dX5_size_45 : decode cX5_size 45 = .ok (.invokevirtual 66, 3) := by decide +kernel
theorem dX5_size_48 : decode cX5_size 48 = .ok (.iload_n 2, 1) := by decide +kernel
theorem dX5_size_49 : decode cX5_size 49 = .ok (.ireturn, 1) := by decide +kernel
set_option maxRecDepth 20000 in
theorem ggX5_write_X5_checkBlock : GoodIn wsX5_write wsX5_checkBlock := goodIn_ca (goodIn_r _ [10, 11, 12, 5, 77, 78, 79, 80, 81, 82, 83, 84, 85, 86, 87] (by decide +kernel) (by decide +kernel)) (goodIn_sub (fun _ h => List.mem_cons_of_mem _ (List.mem_append_right _ h)) (by decide +kernel))
set_option maxRecDepth 20000 in
theorem gX5_write_X5_checkBlock : GoodIn wsX5_write (wsV RX5 70 RX5 yX5_checkBlock wsX5_checkBlock) := goodIn_app (goodIn_of _ (by decide +kernel)) ggX5_write_X5_checkBlock
set_option maxRecDepth 20000 in
theorem ggX5_write_X1_keep : GoodIn wsX5_write wsX1_keep := goodIn_r _ [17, 18, 19, 20, 21, 22, 16, 23, 24, 25, 26, 27, 28, 29, 30, 31, 32, 33, 34, 9, 35, 36, 37, 38, 39, 40, 41, 42, 43, 44, 45, 46, 47, 48, 49, 50, 51, 52, 53, 54, 55, 56, 57, 58, 59, 60, 88, 89, 90, 84, 85, 86, 87, 91, 92, 93, 94, 95, 96, 97, 98] (by decide +kernel) (by decide +kernel)
set_option maxRecDepth 20000 in
theorem gX5_write_X1_keep : GoodIn wsX5_write (wsV RX5 59 RX1 yX1_keep wsX1_keep) := goodIn_app (goodIn_of _ (by decide +kernel)) ggX5_write_X1_keep
set_option maxRecDepth 20000 in
theorem ggX5_write_X4_valueAt : GoodIn wsX5_write wsX4_valueAt := goodIn_r _ [64, 32, 84, 85, 86, 87] (by decide +kernel) (by decide +kernel)
set_option maxRecDepth 20000 in
theorem gX5_write_X4_valueAt : GoodIn wsX5_write (wsV RX5 76 RX4 yX4_valueAt wsX4_valueAt) := goodIn_app (goodIn_of _ (by decide +kernel)) ggX5_write_X4_valueAt
set_option maxRecDepth 20000 in
theorem ggX5_write_X4_change : GoodIn wsX5_write wsX4_change := goodIn_r _ [68, 32, 69, 70, 71, 28, 72, 33, 73, 74, 75, 51, 76, 54, 57, 55, 84, 85, 86, 87, 91, 92, 93, 94, 95, 96, 97, 98] (by decide +kernel) (by decide +kernel)
set_option maxRecDepth 20000 in
theorem gX5_write_X4_change : GoodIn wsX5_write (wsV RX5 80 RX4 yX4_change wsX4_change) := goodIn_app (goodIn_of _ (by decide +kernel)) ggX5_write_X4_change
theorem dX5_write_0 : decode cX5_write 0 = .ok (.aload_n 0, 1) := by decide +kernel
theorem dX5_write_1 : decode cX5_write 1 = .ok (.iload_n 1, 1) := by decide +kernel
theorem dX5_write_2 : decode cX5_write 2 = .ok (.invokevirtual 70, 3) := by decide +kernel
theorem dX5_write_5 : decode cX5_write 5 = .ok (.iload_n 2, 1) := by decide +kernel
theorem dX5_write_6 : decode cX5_write 6 = .ok (.ifCond .lt 9, 3) := by decide +kernel
theorem dX5_write_9 : decode cX5_write 9 = .ok (.iload_n 2, 1) := by decide +kernel
theorem dX5_write_10 : decode cX5_write 10 = .ok (.ldc 73, 2) := by decide +kernel
theorem dX5_write_12 : decode cX5_write 12 = .ok (.if_icmp .le 13, 3) := by decide +kernel
theorem dX5_write_15 : decode cX5_write 15 = .ok (.new 52, 3) := by decide +kernel
theorem dX5_write_18 : decode cX5_write 18 = .ok (.dup, 1) := by decide +kernel
theorem dX5_write_19 : decode cX5_write 19 = .ok (.ldc 74, 2) := by decide +kernel
theorem dX5_write_21 : decode cX5_write 21 = .ok (.invokespecial 56, 3) := by decide +kernel
theorem dX5_write_24 : decode cX5_write 24 = .ok (.athrow, 1) := by decide +kernel
theorem dX5_write_25 : decode cX5_write 25 = .ok (.aload_n 0, 1) := by decide +kernel
theorem dX5_write_26 : decode cX5_write 26 = .ok (.getfield 19, 3) := by decide +kernel
theorem dX5_write_29 : decode cX5_write 29 = .ok (.aload_n 0, 1) := by decide +kernel
theorem dX5_write_30 : decode cX5_write 30 = .ok (.getfield 12, 3) := by decide +kernel
theorem dX5_write_33 : decode cX5_write 33 = .ok (.invokevirtual 59, 3) := by decide +kernel
theorem dX5_write_36 : decode cX5_write 36 = .ok (.aload_n 0, 1) := by decide +kernel
theorem dX5_write_37 : decode cX5_write 37 = .ok (.getfield 12, 3) := by decide +kernel
theorem dX5_write_40 : decode cX5_write 40 = .ok (.iload_n 1, 1) := by decide +kernel
theorem dX5_write_41 : decode cX5_write 41 = .ok (.invokevirtual 76, 3) := by decide +kernel
theorem dX5_write_44 : decode cX5_write 44 = .ok (.istore_n 3, 1) := by decide +kernel
theorem dX5_write_45 : decode cX5_write 45 = .ok (.aload_n 0, 1) := by decide +kernel
theorem dX5_write_46 : decode cX5_write 46 = .ok (.getfield 12, 3) := by decide +kernel
theorem dX5_write_49 : decode cX5_write 49 = .ok (.iload_n 1, 1) := by decide +kernel
theorem dX5_write_50 : decode cX5_write 50 = .ok (.iload_n 2, 1) := by decide +kernel
theorem dX5_write_51 : decode cX5_write 51 = .ok (.invokevirtual 80, 3) := by decide +kernel
theorem dX5_write_54 : decode cX5_write 54 = .ok (.iload_n 3, 1) := by decide +kernel
theorem dX5_write_55 : decode cX5_write 55 = .ok (.ireturn, 1) := by decide +kernel
set_option maxRecDepth 20000 in
theorem ggX5_listen_X5_existing : GoodIn wsX5_listen wsX5_existing := goodIn_ca (goodIn_r _ [7, 8, 9, 2, 10, 11, 12, 13, 14, 15, 59, 60, 61, 62, 63, 64, 65, 74, 75, 76, 77] (by decide +kernel) (by decide +kernel)) (goodIn_sub (fun _ h => List.mem_cons_of_mem _ (List.mem_append_right _ h)) (by decide +kernel))
set_option maxRecDepth 20000 in
theorem gX5_listen_X5_existing : GoodIn wsX5_listen (wsV RX5 84 RX5 yX5_existing wsX5_existing) := goodIn_app (goodIn_of _ (by decide +kernel)) ggX5_listen_X5_existing
set_option maxRecDepth 20000 in
theorem ggX5_listen_X1_keep : GoodIn wsX5_listen wsX1_keep := goodIn_r _ [20, 21, 22, 23, 24, 25, 19, 26, 27, 28, 29, 30, 13, 31, 32, 33, 34, 15, 35, 6, 36, 37, 38, 39, 40, 41, 42, 43, 44, 45, 11, 12, 14, 46, 47, 48, 49, 50, 51, 52, 53, 54, 55, 56, 57, 58, 78, 79, 80, 74, 75, 76, 77, 66, 67, 68, 69, 70, 71, 72, 73] (by decide +kernel) (by decide +kernel)
set_option maxRecDepth 20000 in
theorem gX5_listen_X1_keep : GoodIn wsX5_listen (wsV RX5 59 RX1 yX1_keep wsX1_keep) := goodIn_app (goodIn_of _ (by decide +kernel)) ggX5_listen_X1_keep
theorem dX5_listen_0 : decode cX5_listen 0 = .ok (.aload_n 0, 1) := by decide +kernel
theorem dX5_listen_1 : decode cX5_listen 1 = .ok (.iload_n 1, 1) := by decide +kernel
theorem dX5_listen_2 : decode cX5_listen 2 = .ok (.invokevirtual 84, 3) := by decide +kernel
theorem dX5_listen_5 : decode cX5_listen 5 = .ok (.astore_n 3, 1) := by decide +kernel
theorem dX5_listen_6 : decode cX5_listen 6 = .ok (.aload_n 0, 1) := by decide +kernel
theorem dX5_listen_7 : decode cX5_listen 7 = .ok (.getfield 19, 3) := by decide +kernel
theorem dX5_listen_10 : decode cX5_listen 10 = .ok (.aload_n 0, 1) := by decide +kernel
theorem dX5_listen_11 : decode cX5_listen 11 = .ok (.getfield 12, 3) := by decide +kernel
theorem dX5_listen_14 : decode cX5_listen 14 = .ok (.invokevirtual 59, 3) := by decide +kernel
theorem dX5_listen_17 : decode cX5_listen 17 = .ok (.aload_n 3, 1) := by decide +kernel
theorem dX5_listen_18 : decode cX5_listen 18 = .ok (.getfield 88, 3) := by decide +kernel
theorem dX5_listen_21 : decode cX5_listen 21 = .ok (.ifCond .eq 7, 3) := by decide +kernel
theorem dX5_listen_24 : decode cX5_listen 24 = .ok (.iconst 1, 1) := by decide +kernel
theorem dX5_listen_25 : decode cX5_listen 25 = .ok (.goto 4, 3) := by decide +kernel
theorem dX5_listen_28 : decode cX5_listen 28 = .ok (.iconst 0, 1) := by decide +kernel
theorem dX5_listen_29 : decode cX5_listen 29 = .ok (.istore 4, 2) := by decide +kernel
theorem dX5_listen_31 : decode cX5_listen 31 = .ok (.aload_n 3, 1) := by decide +kernel
theorem dX5_listen_32 : decode cX5_listen 32 = .ok (.iload_n 2, 1) := by decide +kernel
theorem dX5_listen_33 : decode cX5_listen 33 = .ok (.putfield 88, 3) := by decide +kernel
theorem dX5_listen_36 : decode cX5_listen 36 = .ok (.iload 4, 2) := by decide +kernel
theorem dX5_listen_38 : decode cX5_listen 38 = .ok (.ireturn, 1) := by decide +kernel
set_option maxRecDepth 20000 in
theorem ggX5_forget_X5_existing : GoodIn wsX5_forget wsX5_existing := goodIn_ca (goodIn_r _ [7, 8, 9, 2, 10, 11, 12, 13, 14, 15, 74, 75, 76, 77, 78, 79, 80, 81, 82, 83, 84] (by decide +kernel) (by decide +kernel)) (goodIn_sub (fun _ h => List.mem_cons_of_mem _ (List.mem_append_right _ h)) (by decide +kernel))
set_option maxRecDepth 20000 in
theorem gX5_forget_X5_existing : GoodIn wsX5_forget (wsV RX5 84 RX5 yX5_existing wsX5_existing) := goodIn_app (goodIn_of _ (by decide +kernel)) ggX5_forget_X5_existing
set_option maxRecDepth 20000 in
theorem ggX5_forget_X1_keep : GoodIn wsX5_forget wsX1_keep := goodIn_r _ [20, 21, 22, 23, 24, 25, 19, 26, 27, 28, 29, 30, 13, 31, 32, 33, 34, 15, 35, 6, 36, 37, 38, 39, 40, 41, 42, 43, 44, 45, 11, 12, 14, 46, 47, 48, 49, 50, 51, 52, 53, 54, 55, 56, 57, 58, 85, 86, 87, 81, 82, 83, 84, 88, 89, 90, 91, 92, 93, 94, 95] (by decide +kernel) (by decide +kernel)
set_option maxRecDepth 20000 in
theorem gX5_forget_X1_keep : GoodIn wsX5_forget (wsV RX5 59 RX1 yX1_keep wsX1_keep) := goodIn_app (goodIn_of _ (by decide +kernel)) ggX5_forget_X1_keep
set_option maxRecDepth 20000 in
theorem ggX5_forget_X3_knows : GoodIn wsX5_forget wsX3_knows := goodIn_r _ [62, 52, 63, 64, 65, 66, 67, 68, 69, 88, 89, 90, 91, 92, 93, 94, 95] (by decide +kernel) (by decide +kernel)
set_option maxRecDepth 20000 in
theorem gX5_forget_X3_knows : GoodIn wsX5_forget (wsV RX5 92 RX3 yX3_knows wsX3_knows) := goodIn_app (goodIn_of _ (by decide +kernel)) ggX5_forget_X3_knows
set_option maxRecDepth 20000 in
theorem ggX5_forget_X3_forgetAll : GoodIn wsX5_forget wsX3_forgetAll := goodIn_r _ [73, 52, 55, 53, 88, 89, 90, 91, 92, 93, 94, 95] (by decide +kernel) (by decide +kernel)
set_option maxRecDepth 20000 in
theorem gX5_forget_X3_forgetAll : GoodIn wsX5_forget (wsV RX5 96 RX3 yX3_forgetAll wsX3_forgetAll) := goodIn_app (goodIn_of _ (by decide +kernel)) ggX5_forget_X3_forgetAll
theorem dX5_forget_0 : decode cX5_forget 0 = .ok (.aload_n 0, 1) := by decide +kernel
theorem dX5_forget_1 : decode cX5_forget 1 = .ok (.iload_n 1, 1) := by decide +kernel
theorem dX5_forget_2 : decode cX5_forget 2 = .ok (.invokevirtual 84, 3) := by decide +kernel
theorem dX5_forget_5 : decode cX5_forget 5 = .ok (.astore_n 2, 1) := by decide +kernel
theorem dX5_forget_6 : decode cX5_forget 6 = .ok (.aload_n 0, 1) := by decide +kernel
theorem dX5_forget_7 : decode cX5_forget 7 = .ok (.getfield 19, 3) := by decide +kernel
theorem dX5_forget_10 : decode cX5_forget 10 = .ok (.aload_n 0, 1) := by decide +kernel
theorem dX5_forget_11 : decode cX5_forget 11 = .ok (.getfield 12, 3) := by decide +kernel
theorem dX5_forget_14 : decode cX5_forget 14 = .ok (.invokevirtual 59, 3) := by decide +kernel
theorem dX5_forget_17 : decode cX5_forget 17 = .ok (.aload_n 2, 1) := by decide +kernel
theorem dX5_forget_18 : decode cX5_forget 18 = .ok (.invokevirtual 92, 3) := by decide +kernel
theorem dX5_forget_21 : decode cX5_forget 21 = .ok (.istore_n 3, 1) := by decide +kernel
theorem dX5_forget_22 : decode cX5_forget 22 = .ok (.aload_n 2, 1) := by decide +kernel
theorem dX5_forget_23 : decode cX5_forget 23 = .ok (.invokevirtual 96, 3) := by decide +kernel
theorem dX5_forget_26 : decode cX5_forget 26 = .ok (.iload_n 3, 1) := by decide +kernel
theorem dX5_forget_27 : decode cX5_forget 27 = .ok (.ireturn, 1) := by decide +kernel
set_option maxRecDepth 20000 in
theorem ggX5_send_X5_checkMix : GoodIn wsX5_send wsX5_checkMix := goodIn_ca (goodIn_r _ [6, 7, 8] (by decide +kernel) (by decide +kernel)) (goodIn_sub (fun _ h => List.mem_cons_of_mem _ (List.mem_append_right _ h)) (by decide +kernel))
set_option maxRecDepth 20000 in
theorem gX5_send_X5_checkMix : GoodIn wsX5_send (va_wsS RX5 99 yX5_checkMix wsX5_checkMix) := goodIn_app (goodIn_of _ (by decide +kernel)) ggX5_send_X5_checkMix
set_option maxRecDepth 20000 in
theorem ggX5_send_X1_keep : GoodIn wsX5_send wsX1_keep := goodIn_r _ [13, 14, 15, 16, 17, 18, 12, 19, 20, 21, 22, 23, 24, 25, 26, 27, 28, 29, 30, 5, 31, 32, 33, 34, 35, 36, 37, 38, 39, 40, 41, 42, 43, 44, 45, 46, 47, 48, 49, 50, 51, 52, 53, 54, 55, 56, 122, 123, 124, 125, 126, 127, 128, 129, 130, 131, 132, 133, 134, 135, 136] (by decide +kernel) (by decide +kernel)
set_option maxRecDepth 20000 in
theorem gX5_send_X1_keep : GoodIn wsX5_send (wsV RX5 59 RX1 yX1_keep wsX1_keep) := goodIn_app (goodIn_of _ (by decide +kernel)) ggX5_send_X1_keep
set_option maxRecDepth 20000 in
theorem ggX5_send_X4_sendOne : GoodIn wsX5_send wsX4_sendOne := goodIn_r _ [60, 27, 29, 61, 62, 63, 24, 64, 26, 65, 33, 34, 35, 66, 67, 68, 69, 70, 5, 71, 72, 73, 74, 75, 28, 76, 77, 78, 47, 79, 54, 53, 52, 56, 80, 81, 82, 83, 51, 84, 85, 86, 87, 88, 89, 90, 91, 92, 93, 94, 95, 96, 55, 97, 98, 99, 100, 101, 102, 50, 103, 104, 105, 106, 107, 108, 109, 110, 111, 112, 113, 114, 125, 126, 127, 128, 129, 130, 131, 132, 133, 134, 135, 136] (by decide +kernel) (by decide +kernel)
set_option maxRecDepth 20000 in
theorem gX5_send_X4_sendOne : GoodIn wsX5_send (wsV RX5 102 RX4 yX4_sendOne wsX4_sendOne) := goodIn_app (goodIn_of _ (by decide +kernel)) ggX5_send_X4_sendOne
theorem dX5_send_0 : decode cX5_send 0 = .ok (.iload_n 1, 1) := by decide +kernel
theorem dX5_send_1 : decode cX5_send 1 = .ok (.invokestatic 99, 3) := by decide +kernel
theorem dX5_send_4 : decode cX5_send 4 = .ok (.aload_n 0, 1) := by decide +kernel
theorem dX5_send_5 : decode cX5_send 5 = .ok (.getfield 19, 3) := by decide +kernel
theorem dX5_send_8 : decode cX5_send 8 = .ok (.aload_n 0, 1) := by decide +kernel
theorem dX5_send_9 : decode cX5_send 9 = .ok (.getfield 12, 3) := by decide +kernel
theorem dX5_send_12 : decode cX5_send 12 = .ok (.invokevirtual 59, 3) := by decide +kernel
theorem dX5_send_15 : decode cX5_send 15 = .ok (.aload_n 0, 1) := by decide +kernel
theorem dX5_send_16 : decode cX5_send 16 = .ok (.getfield 12, 3) := by decide +kernel
theorem dX5_send_19 : decode cX5_send 19 = .ok (.iload_n 1, 1) := by decide +kernel
theorem dX5_send_20 : decode cX5_send 20 = .ok (.invokevirtual 102, 3) := by decide +kernel
theorem dX5_send_23 : decode cX5_send 23 = .ok (.ireturn, 1) := by decide +kernel
set_option maxRecDepth 20000 in
theorem ggX5_eliminate_X5_existing : GoodIn wsX5_eliminate wsX5_existing := goodIn_ca (goodIn_r _ [8, 9, 10, 2, 11, 12, 13, 14, 15, 16, 125, 126, 127, 128, 129, 130, 131, 132, 133, 134, 135] (by decide +kernel) (by decide +kernel)) (goodIn_sub (fun _ h => List.mem_cons_of_mem _ (List.mem_append_right _ h)) (by decide +kernel))
set_option maxRecDepth 20000 in
theorem gX5_eliminate_X5_existing : GoodIn wsX5_eliminate (wsV RX5 84 RX5 yX5_existing wsX5_existing) := goodIn_app (goodIn_of _ (by decide +kernel)) ggX5_eliminate_X5_existing
set_option maxRecDepth 20000 in
theorem ggX5_eliminate_X1_keep : GoodIn wsX5_eliminate wsX1_keep := goodIn_r _ [21, 22, 23, 24, 25, 26, 20, 27, 28, 29, 30, 31, 14, 32, 33, 34, 35, 16, 36, 7, 37, 38, 39, 40, 41, 42, 43, 44, 45, 46, 12, 13, 15, 47, 48, 49, 50, 51, 52, 53, 54, 55, 56, 57, 58, 59, 136, 137, 138, 132, 133, 134, 135, 139, 140, 141, 142, 143, 144, 145, 146] (by decide +kernel) (by decide +kernel)
set_option maxRecDepth 20000 in
theorem gX5_eliminate_X1_keep : GoodIn wsX5_eliminate (wsV RX5 59 RX1 yX1_keep wsX1_keep) := goodIn_app (goodIn_of _ (by decide +kernel)) ggX5_eliminate_X1_keep
set_option maxRecDepth 20000 in
theorem ggX5_eliminate_X3_findTogether : GoodIn wsX5_eliminate wsX3_findTogether := goodIn_r _ [63, 53, 64, 65, 66, 50, 67, 56, 55, 68, 69, 70, 71, 72, 73, 74, 75, 76, 77, 78, 79, 7, 80, 81, 82, 83, 84, 85, 86, 87, 88, 89, 90, 91, 92, 93, 94, 95, 96, 97, 98, 99, 100, 101, 102, 103, 104, 105, 58, 106, 107, 108, 109, 54, 110, 111, 112, 113, 114, 115, 116, 117, 118, 119, 120, 121, 122, 123, 124, 139, 140, 141, 142, 143, 144, 145, 146, 147, 148] (by decide +kernel) (by decide +kernel)
set_option maxRecDepth 20000 in
theorem gX5_eliminate_X3_findTogether : GoodIn wsX5_eliminate (wsV RX5 105 RX3 yX3_findTogether wsX3_findTogether) := goodIn_app (goodIn_of _ (by decide +kernel)) ggX5_eliminate_X3_findTogether
theorem dX5_eliminate_0 : decode cX5_eliminate 0 = .ok (.aload_n 0, 1) := by decide +kernel
theorem dX5_eliminate_1 : decode cX5_eliminate 1 = .ok (.iload_n 1, 1) := by decide +kernel
theorem dX5_eliminate_2 : decode cX5_eliminate 2 = .ok (.invokevirtual 84, 3) := by decide +kernel
theorem dX5_eliminate_5 : decode cX5_eliminate 5 = .ok (.astore_n 2, 1) := by decide +kernel
theorem dX5_eliminate_6 : decode cX5_eliminate 6 = .ok (.aload_n 0, 1) := by decide +kernel
theorem dX5_eliminate_7 : decode cX5_eliminate 7 = .ok (.getfield 19, 3) := by decide +kernel
theorem dX5_eliminate_10 : decode cX5_eliminate 10 = .ok (.aload_n 0, 1) := by decide +kernel
theorem dX5_eliminate_11 : decode cX5_eliminate 11 = .ok (.getfield 12, 3) := by decide +kernel
theorem dX5_eliminate_14 : decode cX5_eliminate 14 = .ok (.invokevirtual 59, 3) := by decide +kernel
theorem dX5_eliminate_17 : decode cX5_eliminate 17 = .ok (.aload_n 2, 1) := by decide +kernel
theorem dX5_eliminate_18 : decode cX5_eliminate 18 = .ok (.aload_n 0, 1) := by decide +kernel
theorem dX5_eliminate_19 : decode cX5_eliminate 19 = .ok (.getfield 48, 3) := by decide +kernel
theorem dX5_eliminate_22 : decode cX5_eliminate 22 = .ok (.invokevirtual 105, 3) := by decide +kernel
theorem dX5_eliminate_25 : decode cX5_eliminate 25 = .ok (.ireturn, 1) := by decide +kernel
set_option maxRecDepth 20000 in
theorem ggX5_undo_X1_giveBack : GoodIn wsX5_undo wsX1_giveBack := goodIn_r _ [9, 10, 11, 12, 13, 8, 14, 15, 16, 17, 18, 19, 20, 21, 22, 23, 24, 25, 26, 27, 28, 29, 30, 31, 32, 33, 34, 35, 36, 37, 38, 39, 40, 41, 42, 43, 44, 45, 46, 47, 48, 49, 50, 51, 52, 53, 61, 62, 63, 64, 65, 66, 67, 68, 69, 70, 71, 72, 73, 74, 75] (by decide +kernel) (by decide +kernel)
set_option maxRecDepth 20000 in
theorem gX5_undo_X1_giveBack : GoodIn wsX5_undo (wsV RX5 132 RX1 yX1_giveBack wsX1_giveBack) := goodIn_app (goodIn_of _ (by decide +kernel)) ggX5_undo_X1_giveBack
theorem dX5_undo_0 : decode cX5_undo 0 = .ok (.aload_n 0, 1) := by decide +kernel
theorem dX5_undo_1 : decode cX5_undo 1 = .ok (.getfield 19, 3) := by decide +kernel
theorem dX5_undo_4 : decode cX5_undo 4 = .ok (.aload_n 0, 1) := by decide +kernel
theorem dX5_undo_5 : decode cX5_undo 5 = .ok (.getfield 12, 3) := by decide +kernel
theorem dX5_undo_8 : decode cX5_undo 8 = .ok (.invokevirtual 132, 3) := by decide +kernel
theorem dX5_undo_11 : decode cX5_undo 11 = .ok (.ifCond .ne 13, 3) := by decide +kernel
theorem dX5_undo_14 : decode cX5_undo 14 = .ok (.new 111, 3) := by decide +kernel
theorem dX5_undo_17 : decode cX5_undo 17 = .ok (.dup, 1) := by decide +kernel
theorem dX5_undo_18 : decode cX5_undo 18 = .ok (.ldc 136, 2) := by decide +kernel
theorem dX5_undo_20 : decode cX5_undo 20 = .ok (.invokespecial 115, 3) := by decide +kernel
theorem dX5_undo_23 : decode cX5_undo 23 = .ok (.athrow, 1) := by decide +kernel
theorem dX5_undo_24 : decode cX5_undo 24 = .ok (.aload_n 0, 1) := by decide +kernel
theorem dX5_undo_25 : decode cX5_undo 25 = .ok (.getfield 19, 3) := by decide +kernel
theorem dX5_undo_28 : decode cX5_undo 28 = .ok (.getfield 138, 3) := by decide +kernel
theorem dX5_undo_31 : decode cX5_undo 31 = .ok (.ireturn, 1) := by decide +kernel
set_option maxRecDepth 20000 in
theorem ggX5_mix_X5_checkMix : GoodIn wsX5_mix wsX5_checkMix := goodIn_ca (goodIn_r _ [5, 6, 7] (by decide +kernel) (by decide +kernel)) (goodIn_sub (fun _ h => List.mem_cons_of_mem _ (List.mem_append_right _ h)) (by decide +kernel))
set_option maxRecDepth 20000 in
theorem gX5_mix_X5_checkMix : GoodIn wsX5_mix (va_wsS RX5 99 yX5_checkMix wsX5_checkMix) := goodIn_app (goodIn_of _ (by decide +kernel)) ggX5_mix_X5_checkMix
set_option maxRecDepth 20000 in
theorem ggX5_mix_X5_checkWhat : GoodIn wsX5_mix wsX5_checkWhat := goodIn_ca (goodIn_r _ [10, 6, 7] (by decide +kernel) (by decide +kernel)) (goodIn_sub (fun _ h => List.mem_cons_of_mem _ (List.mem_append_right _ h)) (by decide +kernel))
set_option maxRecDepth 20000 in
theorem gX5_mix_X5_checkWhat : GoodIn wsX5_mix (va_wsS RX5 141 yX5_checkWhat wsX5_checkWhat) := goodIn_app (goodIn_of _ (by decide +kernel)) ggX5_mix_X5_checkWhat
set_option maxRecDepth 20000 in
theorem ggX5_mix_X4_mixOf : GoodIn wsX5_mix wsX4_mixOf := goodIn_r _ [15, 16, 17, 18, 19, 20, 21, 22, 23, 14, 24, 25, 4, 26, 27, 28, 29, 30, 31, 55, 56, 57, 58] (by decide +kernel) (by decide +kernel)
set_option maxRecDepth 20000 in
theorem gX5_mix_X4_mixOf : GoodIn wsX5_mix (wsV RX5 144 RX4 yX4_mixOf wsX4_mixOf) := goodIn_app (goodIn_of _ (by decide +kernel)) ggX5_mix_X4_mixOf
set_option maxRecDepth 20000 in
theorem ggX5_mix_X5_blockCountOf : GoodIn wsX5_mix wsX5_blockCountOf := goodIn_r _ [34, 35, 36, 37, 38, 39, 40, 41] (by decide +kernel) (by decide +kernel)
set_option maxRecDepth 20000 in
theorem gX5_mix_X5_blockCountOf : GoodIn wsX5_mix (va_wsS RX5 147 yX5_blockCountOf wsX5_blockCountOf) := goodIn_app (goodIn_of _ (by decide +kernel)) ggX5_mix_X5_blockCountOf
set_option maxRecDepth 20000 in
theorem ggX5_mix_X5_blocksOf : GoodIn wsX5_mix wsX5_blocksOf := goodIn_r _ [44] (by decide +kernel) (by decide +kernel)
set_option maxRecDepth 20000 in
theorem gX5_mix_X5_blocksOf : GoodIn wsX5_mix (va_wsS RX5 150 yX5_blocksOf wsX5_blocksOf) := goodIn_app (goodIn_of _ (by decide +kernel)) ggX5_mix_X5_blocksOf
set_option maxRecDepth 20000 in
theorem ggX5_mix_X5_valueOf : GoodIn wsX5_mix wsX5_valueOf := goodIn_r _ [47] (by decide +kernel) (by decide +kernel)
set_option maxRecDepth 20000 in
theorem gX5_mix_X5_valueOf : GoodIn wsX5_mix (va_wsS RX5 153 yX5_valueOf wsX5_valueOf) := goodIn_app (goodIn_of _ (by decide +kernel)) ggX5_mix_X5_valueOf
theorem dX5_mix_0 : decode cX5_mix 0 = .ok (.iload_n 1, 1) := by decide +kernel
theorem dX5_mix_1 : decode cX5_mix 1 = .ok (.invokestatic 99, 3) := by decide +kernel
theorem dX5_mix_4 : decode cX5_mix 4 = .ok (.iload_n 2, 1) := by decide +kernel
theorem dX5_mix_5 : decode cX5_mix 5 = .ok (.iconst 3, 1) := by decide +kernel
theorem dX5_mix_6 : decode cX5_mix 6 = .ok (.invokestatic 141, 3) := by decide +kernel
theorem dX5_mix_9 : decode cX5_mix 9 = .ok (.aload_n 0, 1) := by decide +kernel
theorem dX5_mix_10 : decode cX5_mix 10 = .ok (.getfield 12, 3) := by decide +kernel
theorem dX5_mix_13 : decode cX5_mix 13 = .ok (.iload_n 1, 1) := by decide +kernel
theorem dX5_mix_14 : decode cX5_mix 14 = .ok (.invokevirtual 144, 3) := by decide +kernel
theorem dX5_mix_17 : decode cX5_mix 17 = .ok (.istore_n 3, 1) := by decide +kernel
theorem dX5_mix_18 : decode cX5_mix 18 = .ok (.iload_n 2, 1) := by decide +kernel
theorem dX5_mix_19 : decode cX5_mix 19 = .ok (.lookupswitch 35 #[(0, 25), (1, 30)], 25) := by decide +kernel
theorem dX5_mix_44 : decode cX5_mix 44 = .ok (.iload_n 3, 1) := by decide +kernel
theorem dX5_mix_45 : decode cX5_mix 45 = .ok (.invokestatic 147, 3) := by decide +kernel
theorem dX5_mix_48 : decode cX5_mix 48 = .ok (.ireturn, 1) := by decide +kernel
theorem dX5_mix_49 : decode cX5_mix 49 = .ok (.iload_n 3, 1) := by decide +kernel
theorem dX5_mix_50 : decode cX5_mix 50 = .ok (.invokestatic 150, 3) := by decide +kernel
theorem dX5_mix_53 : decode cX5_mix 53 = .ok (.ireturn, 1) := by decide +kernel
theorem dX5_mix_54 : decode cX5_mix 54 = .ok (.iload_n 3, 1) := by decide +kernel
theorem dX5_mix_55 : decode cX5_mix 55 = .ok (.invokestatic 153, 3) := by decide +kernel
theorem dX5_mix_58 : decode cX5_mix 58 = .ok (.ireturn, 1) := by decide +kernel
set_option maxRecDepth 20000 in
theorem ggX5_receiver_X5_existing : GoodIn wsX5_receiver wsX5_existing := goodIn_ca (goodIn_r _ [5, 6, 7, 8, 9, 10, 11, 12, 13, 14, 74, 75, 76, 77, 78, 79, 80, 81, 82, 83, 84] (by decide +kernel) (by decide +kernel)) (goodIn_sub (fun _ h => List.mem_cons_of_mem _ (List.mem_append_left _ (List.mem_append_right _ h))) (by decide +kernel))
set_option maxRecDepth 20000 in
theorem gX5_receiver_X5_existing : GoodIn wsX5_receiver (wsV RX5 84 RX5 yX5_existing wsX5_existing) := goodIn_app (goodIn_of _ (by decide +kernel)) ggX5_receiver_X5_existing
set_option maxRecDepth 20000 in
theorem ggX5_receiver_X5_checkWhat : GoodIn wsX5_receiver wsX5_checkWhat := goodIn_ca (goodIn_r _ [17, 18, 19] (by decide +kernel) (by decide +kernel)) (goodIn_sub (fun _ h => List.mem_cons_of_mem _ (List.mem_append_right _ h)) (by decide +kernel))
set_option maxRecDepth 20000 in
theorem gX5_receiver_X5_checkWhat : GoodIn wsX5_receiver (va_wsS RX5 141 yX5_checkWhat wsX5_checkWhat) := goodIn_app (goodIn_of _ (by decide +kernel)) ggX5_receiver_X5_checkWhat
set_option maxRecDepth 20000 in
theorem ggX5_receiver_X5_numberOf : GoodIn wsX5_receiver wsX5_numberOf := goodIn_r _ [23, 8, 24, 25, 26, 27, 28, 29, 30, 31, 32, 33, 34, 35, 36, 37, 38, 39, 40, 12, 41, 42, 43, 44, 45, 46, 47, 48, 49, 50, 51, 52, 53, 54, 55, 56, 57, 58, 59, 60, 61, 62, 63, 64, 65, 4, 66, 67, 68, 69, 70, 71, 72, 73, 85, 86, 87, 88, 89, 90, 91, 92, 74, 75, 76, 77, 78, 79, 80, 81, 82, 83, 84, 93, 94] (by decide +kernel) (by decide +kernel)
set_option maxRecDepth 20000 in
theorem gX5_receiver_X5_numberOf : GoodIn wsX5_receiver (wsV RX5 156 RX5 yX5_numberOf wsX5_numberOf) := goodIn_app (goodIn_of _ (by decide +kernel)) ggX5_receiver_X5_numberOf
theorem dX5_receiver_0 : decode cX5_receiver 0 = .ok (.aload_n 0, 1) := by decide +kernel
theorem dX5_receiver_1 : decode cX5_receiver 1 = .ok (.iload_n 1, 1) := by decide +kernel
theorem dX5_receiver_2 : decode cX5_receiver 2 = .ok (.invokevirtual 84, 3) := by decide +kernel
theorem dX5_receiver_5 : decode cX5_receiver 5 = .ok (.astore_n 3, 1) := by decide +kernel
theorem dX5_receiver_6 : decode cX5_receiver 6 = .ok (.iload_n 2, 1) := by decide +kernel
theorem dX5_receiver_7 : decode cX5_receiver 7 = .ok (.bipush 9, 2) := by decide +kernel
theorem dX5_receiver_9 : decode cX5_receiver 9 = .ok (.invokestatic 141, 3) := by decide +kernel
theorem dX5_receiver_12 : decode cX5_receiver 12 = .ok (.aload_n 0, 1) := by decide +kernel
theorem dX5_receiver_13 : decode cX5_receiver 13 = .ok (.aload_n 3, 1) := by decide +kernel
theorem dX5_receiver_14 : decode cX5_receiver 14 = .ok (.iload_n 2, 1) := by decide +kernel
theorem dX5_receiver_15 : decode cX5_receiver 15 = .ok (.invokevirtual 156, 3) := by decide +kernel
theorem dX5_receiver_18 : decode cX5_receiver 18 = .ok (.ireturn, 1) := by decide +kernel
set_option maxRecDepth 20000 in
theorem ggX5_known_X5_existing : GoodIn wsX5_known wsX5_existing := goodIn_ca (goodIn_r _ [5, 6, 7, 8, 9, 10, 11, 12, 13, 14, 30, 31, 32, 33, 34, 35, 36, 37, 38, 39, 40] (by decide +kernel) (by decide +kernel)) (goodIn_sub (fun _ h => List.mem_cons_of_mem _ (List.mem_append_right _ h)) (by decide +kernel))
set_option maxRecDepth 20000 in
theorem gX5_known_X5_existing : GoodIn wsX5_known (wsV RX5 84 RX5 yX5_existing wsX5_existing) := goodIn_app (goodIn_of _ (by decide +kernel)) ggX5_known_X5_existing
set_option maxRecDepth 20000 in
theorem ggX5_known_X5_checkBlock : GoodIn wsX5_known wsX5_checkBlock := goodIn_ca (goodIn_r _ [18, 6, 7, 8, 30, 31, 32, 33, 34, 35, 36, 37, 38, 39, 40] (by decide +kernel) (by decide +kernel)) (goodIn_sub (fun _ h => List.mem_cons_of_mem _ (List.mem_append_right _ h)) (by decide +kernel))
set_option maxRecDepth 20000 in
theorem gX5_known_X5_checkBlock : GoodIn wsX5_known (wsV RX5 70 RX5 yX5_checkBlock wsX5_checkBlock) := goodIn_app (goodIn_of _ (by decide +kernel)) ggX5_known_X5_checkBlock
set_option maxRecDepth 20000 in
theorem ggX5_known_X3_valueKnown : GoodIn wsX5_known wsX3_valueKnown := goodIn_r _ [23, 24, 25, 26, 4, 27, 28, 29, 41, 42, 43, 44, 45, 46, 47, 48] (by decide +kernel) (by decide +kernel)
set_option maxRecDepth 20000 in
theorem gX5_known_X3_valueKnown : GoodIn wsX5_known (wsV RX5 160 RX3 yX3_valueKnown wsX3_valueKnown) := goodIn_app (goodIn_of _ (by decide +kernel)) ggX5_known_X3_valueKnown
theorem dX5_known_0 : decode cX5_known 0 = .ok (.aload_n 0, 1) := by decide +kernel
theorem dX5_known_1 : decode cX5_known 1 = .ok (.iload_n 1, 1) := by decide +kernel
theorem dX5_known_2 : decode cX5_known 2 = .ok (.invokevirtual 84, 3) := by decide +kernel
theorem dX5_known_5 : decode cX5_known 5 = .ok (.astore_n 3, 1) := by decide +kernel
theorem dX5_known_6 : decode cX5_known 6 = .ok (.aload_n 0, 1) := by decide +kernel
theorem dX5_known_7 : decode cX5_known 7 = .ok (.iload_n 2, 1) := by decide +kernel
theorem dX5_known_8 : decode cX5_known 8 = .ok (.invokevirtual 70, 3) := by decide +kernel
theorem dX5_known_11 : decode cX5_known 11 = .ok (.aload_n 3, 1) := by decide +kernel
theorem dX5_known_12 : decode cX5_known 12 = .ok (.iload_n 2, 1) := by decide +kernel
theorem dX5_known_13 : decode cX5_known 13 = .ok (.invokevirtual 160, 3) := by decide +kernel
theorem dX5_known_16 : decode cX5_known 16 = .ok (.ireturn, 1) := by decide +kernel
set_option maxRecDepth 20000 in
theorem ggX5_waiting_X5_existing : GoodIn wsX5_waiting wsX5_existing := goodIn_ca (goodIn_r _ [7, 8, 9, 10, 11, 12, 13, 14, 15, 16, 40, 41, 42, 43, 44, 45, 46, 47, 48, 49, 50] (by decide +kernel) (by decide +kernel)) (goodIn_sub (fun _ h => List.mem_cons_of_mem _ (List.mem_append_right _ h)) (by decide +kernel))
set_option maxRecDepth 20000 in
theorem gX5_waiting_X5_existing : GoodIn wsX5_waiting (wsV RX5 84 RX5 yX5_existing wsX5_existing) := goodIn_app (goodIn_of _ (by decide +kernel)) ggX5_waiting_X5_existing
set_option maxRecDepth 20000 in
theorem ggX5_waiting_X5_checkWhat : GoodIn wsX5_waiting wsX5_checkWhat := goodIn_ca (goodIn_r _ [19, 1, 2] (by decide +kernel) (by decide +kernel)) (goodIn_sub (fun _ h => List.mem_cons_of_mem _ (List.mem_append_left _ (List.mem_append_right _ h))) (by decide +kernel))
set_option maxRecDepth 20000 in
theorem gX5_waiting_X5_checkWhat : GoodIn wsX5_waiting (va_wsS RX5 141 yX5_checkWhat wsX5_checkWhat) := goodIn_app (goodIn_of _ (by decide +kernel)) ggX5_waiting_X5_checkWhat
set_option maxRecDepth 20000 in
theorem ggX5_waiting_X3_waitingAt : GoodIn wsX5_waiting wsX3_waitingAt := goodIn_r _ [24, 25, 32, 33, 34, 35, 36, 37, 38, 39] (by decide +kernel) (by decide +kernel)
set_option maxRecDepth 20000 in
theorem gX5_waiting_X3_waitingAt : GoodIn wsX5_waiting (wsV RX5 168 RX3 yX3_waitingAt wsX3_waitingAt) := goodIn_app (goodIn_of _ (by decide +kernel)) ggX5_waiting_X3_waitingAt
set_option maxRecDepth 20000 in
theorem ggX5_waiting_X5_blocksOf : GoodIn wsX5_waiting wsX5_blocksOf := goodIn_r _ [28] (by decide +kernel) (by decide +kernel)
set_option maxRecDepth 20000 in
theorem gX5_waiting_X5_blocksOf : GoodIn wsX5_waiting (va_wsS RX5 150 yX5_blocksOf wsX5_blocksOf) := goodIn_app (goodIn_of _ (by decide +kernel)) ggX5_waiting_X5_blocksOf
set_option maxRecDepth 20000 in
theorem ggX5_waiting_X5_valueOf : GoodIn wsX5_waiting wsX5_valueOf := goodIn_r _ [31] (by decide +kernel) (by decide +kernel)
set_option maxRecDepth 20000 in
theorem gX5_waiting_X5_valueOf : GoodIn wsX5_waiting (va_wsS RX5 153 yX5_valueOf wsX5_valueOf) := goodIn_app (goodIn_of _ (by decide +kernel)) ggX5_waiting_X5_valueOf
theorem dX5_waiting_0 : decode cX5_waiting 0 = .ok (.aload_n 0, 1) := by decide +kernel
theorem dX5_waiting_1 : decode cX5_waiting 1 = .ok (.iload_n 1, 1) := by decide +kernel
theorem dX5_waiting_2 : decode cX5_waiting 2 = .ok (.invokevirtual 84, 3) := by decide +kernel
theorem dX5_waiting_5 : decode cX5_waiting 5 = .ok (.astore 4, 2) := by decide +kernel
theorem dX5_waiting_7 : decode cX5_waiting 7 = .ok (.iload_n 2, 1) := by decide +kernel
theorem dX5_waiting_8 : decode cX5_waiting 8 = .ok (.ifCond .ge 13, 3) := by decide +kernel
theorem dX5_waiting_11 : decode cX5_waiting 11 = .ok (.new 52, 3) := by decide +kernel
theorem dX5_waiting_14 : decode cX5_waiting 14 = .ok (.dup, 1) := by decide +kernel
theorem dX5_waiting_15 : decode cX5_waiting 15 = .ok (.ldc 163, 2) := by decide +kernel
theorem dX5_waiting_17 : decode cX5_waiting 17 = .ok (.invokespecial 56, 3) := by decide +kernel
theorem dX5_waiting_20 : decode cX5_waiting 20 = .ok (.athrow, 1) := by decide +kernel
theorem dX5_waiting_21 : decode cX5_waiting 21 = .ok (.iload_n 3, 1) := by decide +kernel
theorem dX5_waiting_22 : decode cX5_waiting 22 = .ok (.iconst 2, 1) := by decide +kernel
theorem dX5_waiting_23 : decode cX5_waiting 23 = .ok (.invokestatic 141, 3) := by decide +kernel
theorem dX5_waiting_26 : decode cX5_waiting 26 = .ok (.iload_n 2, 1) := by decide +kernel
theorem dX5_waiting_27 : decode cX5_waiting 27 = .ok (.aload 4, 2) := by decide +kernel
theorem dX5_waiting_29 : decode cX5_waiting 29 = .ok (.getfield 165, 3) := by decide +kernel
theorem dX5_waiting_32 : decode cX5_waiting 32 = .ok (.if_icmp .lt 5, 3) := by decide +kernel
theorem dX5_waiting_35 : decode cX5_waiting 35 = .ok (.iconst (-1), 1) := by decide +kernel
theorem dX5_waiting_36 : decode cX5_waiting 36 = .ok (.ireturn, 1) := by decide +kernel
theorem dX5_waiting_37 : decode cX5_waiting 37 = .ok (.aload 4, 2) := by decide +kernel
theorem dX5_waiting_39 : decode cX5_waiting 39 = .ok (.iload_n 2, 1) := by decide +kernel
theorem dX5_waiting_40 : decode cX5_waiting 40 = .ok (.invokevirtual 168, 3) := by decide +kernel
theorem dX5_waiting_43 : decode cX5_waiting 43 = .ok (.istore 5, 2) := by decide +kernel
theorem dX5_waiting_45 : decode cX5_waiting 45 = .ok (.iload_n 3, 1) := by decide +kernel
theorem dX5_waiting_46 : decode cX5_waiting 46 = .ok (.ifCond .ne 11, 3) := by decide +kernel
theorem dX5_waiting_49 : decode cX5_waiting 49 = .ok (.iload 5, 2) := by decide +kernel
theorem dX5_waiting_51 : decode cX5_waiting 51 = .ok (.invokestatic 150, 3) := by decide +kernel
theorem dX5_waiting_54 : decode cX5_waiting 54 = .ok (.goto 8, 3) := by decide +kernel
theorem dX5_waiting_57 : decode cX5_waiting 57 = .ok (.iload 5, 2) := by decide +kernel
theorem dX5_waiting_59 : decode cX5_waiting 59 = .ok (.invokestatic 153, 3) := by decide +kernel
theorem dX5_waiting_62 : decode cX5_waiting 62 = .ok (.ireturn, 1) := by decide +kernel
set_option maxRecDepth 20000 in
theorem ggX5_count_X5_checkWhat : GoodIn wsX5_count wsX5_checkWhat := goodIn_ca (goodIn_r _ [4, 5, 6] (by decide +kernel) (by decide +kernel)) (goodIn_sub (fun _ h => List.mem_cons_of_mem _ (List.mem_append_right _ h)) (by decide +kernel))
set_option maxRecDepth 20000 in
theorem gX5_count_X5_checkWhat : GoodIn wsX5_count (va_wsS RX5 141 yX5_checkWhat wsX5_checkWhat) := goodIn_app (goodIn_of _ (by decide +kernel)) ggX5_count_X5_checkWhat
set_option maxRecDepth 20000 in
theorem ggX5_count_X5_countOf : GoodIn wsX5_count wsX5_countOf := goodIn_r _ [10, 11, 12, 13, 14, 15, 16, 17, 18, 19, 20, 21, 22, 23, 24, 25, 26, 27, 28, 29, 30, 31, 32, 33, 34, 35, 36, 37, 38, 39, 40, 41, 42, 43, 44, 45, 46, 47, 48, 49, 50, 51, 52, 53, 54, 55, 56, 57, 58, 59, 60, 61, 62, 63, 64, 65, 66, 67, 68, 69, 70, 71] (by decide +kernel) (by decide +kernel)
set_option maxRecDepth 20000 in
theorem gX5_count_X5_countOf : GoodIn wsX5_count (wsV RX5 171 RX5 yX5_countOf wsX5_countOf) := goodIn_app (goodIn_of _ (by decide +kernel)) ggX5_count_X5_countOf
theorem dX5_count_0 : decode cX5_count 0 = .ok (.iload_n 1, 1) := by decide +kernel
theorem dX5_count_1 : decode cX5_count 1 = .ok (.bipush 6, 2) := by decide +kernel
theorem dX5_count_3 : decode cX5_count 3 = .ok (.invokestatic 141, 3) := by decide +kernel
theorem dX5_count_6 : decode cX5_count 6 = .ok (.aload_n 0, 1) := by decide +kernel
theorem dX5_count_7 : decode cX5_count 7 = .ok (.iload_n 1, 1) := by decide +kernel
theorem dX5_count_8 : decode cX5_count 8 = .ok (.invokevirtual 171, 3) := by decide +kernel
theorem dX5_count_11 : decode cX5_count 11 = .ok (.ireturn, 1) := by decide +kernel
set_option maxRecDepth 20000 in
theorem ggX5_block_X5_checkBlock : GoodIn wsX5_block wsX5_checkBlock := goodIn_ca (goodIn_r _ [6, 7, 8, 1, 15, 16, 17, 18, 19, 20, 21, 22, 23, 24, 25] (by decide +kernel) (by decide +kernel)) (goodIn_sub (fun _ h => List.mem_cons_of_mem _ (List.mem_append_right _ h)) (by decide +kernel))
set_option maxRecDepth 20000 in
theorem gX5_block_X5_checkBlock : GoodIn wsX5_block (wsV RX5 70 RX5 yX5_checkBlock wsX5_checkBlock) := goodIn_app (goodIn_of _ (by decide +kernel)) ggX5_block_X5_checkBlock
set_option maxRecDepth 20000 in
theorem ggX5_block_X4_valueAt : GoodIn wsX5_block wsX4_valueAt := goodIn_r _ [13, 14, 22, 23, 24, 25] (by decide +kernel) (by decide +kernel)
set_option maxRecDepth 20000 in
theorem gX5_block_X4_valueAt : GoodIn wsX5_block (wsV RX5 76 RX4 yX4_valueAt wsX4_valueAt) := goodIn_app (goodIn_of _ (by decide +kernel)) ggX5_block_X4_valueAt
theorem dX5_block_0 : decode cX5_block 0 = .ok (.aload_n 0, 1) := by decide +kernel
theorem dX5_block_1 : decode cX5_block 1 = .ok (.iload_n 1, 1) := by decide +kernel
theorem dX5_block_2 : decode cX5_block 2 = .ok (.invokevirtual 70, 3) := by decide +kernel
theorem dX5_block_5 : decode cX5_block 5 = .ok (.aload_n 0, 1) := by decide +kernel
theorem dX5_block_6 : decode cX5_block 6 = .ok (.getfield 12, 3) := by decide +kernel
theorem dX5_block_9 : decode cX5_block 9 = .ok (.iload_n 1, 1) := by decide +kernel
theorem dX5_block_10 : decode cX5_block 10 = .ok (.invokevirtual 76, 3) := by decide +kernel
theorem dX5_block_13 : decode cX5_block 13 = .ok (.ireturn, 1) := by decide +kernel
set_option maxRecDepth 20000 in
theorem ggX5_ifGot_X5_existing : GoodIn wsX5_ifGot wsX5_existing := goodIn_ca (goodIn_r _ [5, 6, 7, 8, 9, 10, 11, 12, 13, 14, 140, 141, 142, 143, 144, 145, 146, 147, 148, 149, 150] (by decide +kernel) (by decide +kernel)) (goodIn_sub (fun _ h => List.mem_cons_of_mem _ (List.mem_append_left _ (List.mem_append_right _ h))) (by decide +kernel))
set_option maxRecDepth 20000 in
theorem gX5_ifGot_X5_existing : GoodIn wsX5_ifGot (wsV RX5 84 RX5 yX5_existing wsX5_existing) := goodIn_app (goodIn_of _ (by decide +kernel)) ggX5_ifGot_X5_existing
set_option maxRecDepth 20000 in
theorem ggX5_ifGot_X5_checkMix : GoodIn wsX5_ifGot wsX5_checkMix := goodIn_ca (goodIn_r _ [17, 18, 19] (by decide +kernel) (by decide +kernel)) (goodIn_sub (fun _ h => List.mem_cons_of_mem _ (List.mem_append_right _ h)) (by decide +kernel))
set_option maxRecDepth 20000 in
theorem gX5_ifGot_X5_checkMix : GoodIn wsX5_ifGot (va_wsS RX5 99 yX5_checkMix wsX5_checkMix) := goodIn_app (goodIn_of _ (by decide +kernel)) ggX5_ifGot_X5_checkMix
set_option maxRecDepth 20000 in
theorem ggX5_ifGot_X5_checkWhat : GoodIn wsX5_ifGot wsX5_checkWhat := goodIn_ca (goodIn_r _ [22, 18, 19] (by decide +kernel) (by decide +kernel)) (goodIn_sub (fun _ h => List.mem_cons_of_mem _ (List.mem_append_right _ h)) (by decide +kernel))
set_option maxRecDepth 20000 in
theorem gX5_ifGot_X5_checkWhat : GoodIn wsX5_ifGot (va_wsS RX5 141 yX5_checkWhat wsX5_checkWhat) := goodIn_app (goodIn_of _ (by decide +kernel)) ggX5_ifGot_X5_checkWhat
set_option maxRecDepth 20000 in
theorem ggX5_ifGot_X5_foundIfGot : GoodIn wsX5_ifGot wsX5_foundIfGot := goodIn_r _ [26, 27, 8, 28, 29, 30, 31, 32, 33, 34, 35, 36, 37, 38, 39, 40, 41, 4, 42, 43, 44, 45, 46, 47, 48, 49, 50, 51, 52, 53, 12, 54, 55, 56, 57, 58, 59, 60, 61, 62, 63, 64, 65, 66, 67, 68, 69, 70, 71, 72, 73, 74, 75, 76, 77, 78, 79, 80, 81, 82, 83, 84, 85, 86, 87, 88, 89, 90, 91, 92, 93, 94, 95, 96, 97, 98, 99, 100, 101, 102, 103, 104, 105, 106, 140, 141, 142, 143, 144, 145, 146, 151, 152, 153, 154, 155, 156, 157, 158, 147, 148, 149, 150] (by decide +kernel) (by decide +kernel)
set_option maxRecDepth 20000 in
theorem gX5_ifGot_X5_foundIfGot : GoodIn wsX5_ifGot (wsV RX5 174 RX5 yX5_foundIfGot wsX5_foundIfGot) := goodIn_app (goodIn_of _ (by decide +kernel)) ggX5_ifGot_X5_foundIfGot
set_option maxRecDepth 20000 in
theorem ggX5_ifGot_X5_rankIfGot : GoodIn wsX5_ifGot wsX5_rankIfGot := goodIn_r _ [110, 27, 8, 111, 28, 29, 30, 31, 32, 33, 34, 35, 36, 37, 38, 39, 40, 41, 4, 42, 43, 44, 45, 46, 47, 48, 49, 50, 51, 52, 53, 12, 54, 55, 56, 57, 58, 59, 60, 61, 62, 63, 64, 65, 66, 67, 68, 69, 70, 71, 72, 73, 74, 75, 76, 77, 78, 79, 80, 81, 82, 83, 84, 85, 86, 87, 88, 89, 90, 91, 92, 93, 94, 95, 96, 97, 98, 99, 100, 101, 102, 103, 104, 105, 106, 112, 113, 114, 115, 116, 117, 118, 119, 120, 121, 122, 123, 124, 125, 126, 127, 128, 129, 130, 131, 132, 133, 134, 135, 136, 137, 138, 139, 140, 141, 142, 143, 144, 145, 146, 151, 152, 153, 154, 155, 156, 157, 158, 147, 148, 149, 150, 159, 160] (by decide +kernel) (by decide +kernel)
set_option maxRecDepth 20000 in
theorem gX5_ifGot_X5_rankIfGot : GoodIn wsX5_ifGot (wsV RX5 177 RX5 yX5_rankIfGot wsX5_rankIfGot) := goodIn_app (goodIn_of _ (by decide +kernel)) ggX5_ifGot_X5_rankIfGot
theorem dX5_ifGot_0 : decode cX5_ifGot 0 = .ok (.aload_n 0, 1) := by decide +kernel
theorem dX5_ifGot_1 : decode cX5_ifGot 1 = .ok (.iload_n 1, 1) := by decide +kernel
theorem dX5_ifGot_2 : decode cX5_ifGot 2 = .ok (.invokevirtual 84, 3) := by decide +kernel
theorem dX5_ifGot_5 : decode cX5_ifGot 5 = .ok (.astore 4, 2) := by decide +kernel
theorem dX5_ifGot_7 : decode cX5_ifGot 7 = .ok (.iload_n 2, 1) := by decide +kernel
theorem dX5_ifGot_8 : decode cX5_ifGot 8 = .ok (.invokestatic 99, 3) := by decide +kernel
theorem dX5_ifGot_11 : decode cX5_ifGot 11 = .ok (.iload_n 3, 1) := by decide +kernel
theorem dX5_ifGot_12 : decode cX5_ifGot 12 = .ok (.iconst 2, 1) := by decide +kernel
theorem dX5_ifGot_13 : decode cX5_ifGot 13 = .ok (.invokestatic 141, 3) := by decide +kernel
theorem dX5_ifGot_16 : decode cX5_ifGot 16 = .ok (.iload_n 3, 1) := by decide +kernel
theorem dX5_ifGot_17 : decode cX5_ifGot 17 = .ok (.ifCond .ne 13, 3) := by decide +kernel
theorem dX5_ifGot_20 : decode cX5_ifGot 20 = .ok (.aload_n 0, 1) := by decide +kernel
theorem dX5_ifGot_21 : decode cX5_ifGot 21 = .ok (.aload 4, 2) := by decide +kernel
theorem dX5_ifGot_23 : decode cX5_ifGot 23 = .ok (.iload_n 2, 1) := by decide +kernel
theorem dX5_ifGot_24 : decode cX5_ifGot 24 = .ok (.invokevirtual 174, 3) := by decide +kernel
theorem dX5_ifGot_27 : decode cX5_ifGot 27 = .ok (.goto 10, 3) := by decide +kernel
theorem dX5_ifGot_30 : decode cX5_ifGot 30 = .ok (.aload_n 0, 1) := by decide +kernel
theorem dX5_ifGot_31 : decode cX5_ifGot 31 = .ok (.aload 4, 2) := by decide +kernel
theorem dX5_ifGot_33 : decode cX5_ifGot 33 = .ok (.iload_n 2, 1) := by decide +kernel
theorem dX5_ifGot_34 : decode cX5_ifGot 34 = .ok (.invokevirtual 177, 3) := by decide +kernel
theorem dX5_ifGot_37 : decode cX5_ifGot 37 = .ok (.ireturn, 1) := by decide +kernel
set_option maxRecDepth 20000 in
theorem ggX5_helps_X5_existing : GoodIn wsX5_helps wsX5_existing := goodIn_ca (goodIn_r _ [5, 6, 7, 8, 9, 10, 11, 12, 13, 14, 60, 61, 62, 63, 64, 65, 66, 67, 68, 69, 70] (by decide +kernel) (by decide +kernel)) (goodIn_sub (fun _ h => List.mem_cons_of_mem _ (List.mem_append_left _ (List.mem_append_right _ h))) (by decide +kernel))
set_option maxRecDepth 20000 in
theorem gX5_helps_X5_existing : GoodIn wsX5_helps (wsV RX5 84 RX5 yX5_existing wsX5_existing) := goodIn_app (goodIn_of _ (by decide +kernel)) ggX5_helps_X5_existing
set_option maxRecDepth 20000 in
theorem ggX5_helps_X5_checkMix : GoodIn wsX5_helps wsX5_checkMix := goodIn_ca (goodIn_r _ [17, 18, 19] (by decide +kernel) (by decide +kernel)) (goodIn_sub (fun _ h => List.mem_cons_of_mem _ (List.mem_append_right _ h)) (by decide +kernel))
set_option maxRecDepth 20000 in
theorem gX5_helps_X5_checkMix : GoodIn wsX5_helps (va_wsS RX5 99 yX5_checkMix wsX5_checkMix) := goodIn_app (goodIn_of _ (by decide +kernel)) ggX5_helps_X5_checkMix
set_option maxRecDepth 20000 in
theorem ggX5_helps_X5_nextHelp : GoodIn wsX5_helps wsX5_nextHelp := goodIn_r _ [23, 8, 24, 25, 26, 12, 27, 28, 29, 30, 31, 32, 33, 34, 35, 36, 37, 4, 38, 39, 40, 41, 42, 43, 44, 45, 46, 47, 48, 49, 50, 51, 52, 53, 54, 55, 56, 57, 58, 59, 60, 61, 62, 63, 64, 65, 66, 67, 68, 69, 70, 71, 72, 73, 74, 75, 76, 77, 78] (by decide +kernel) (by decide +kernel)
set_option maxRecDepth 20000 in
theorem gX5_helps_X5_nextHelp : GoodIn wsX5_helps (wsV RX5 180 RX5 yX5_nextHelp wsX5_nextHelp) := goodIn_app (goodIn_of _ (by decide +kernel)) ggX5_helps_X5_nextHelp
theorem dX5_helps_0 : decode cX5_helps 0 = .ok (.aload_n 0, 1) := by decide +kernel
theorem dX5_helps_1 : decode cX5_helps 1 = .ok (.iload_n 1, 1) := by decide +kernel
theorem dX5_helps_2 : decode cX5_helps 2 = .ok (.invokevirtual 84, 3) := by decide +kernel
theorem dX5_helps_5 : decode cX5_helps 5 = .ok (.astore_n 3, 1) := by decide +kernel
theorem dX5_helps_6 : decode cX5_helps 6 = .ok (.iload_n 2, 1) := by decide +kernel
theorem dX5_helps_7 : decode cX5_helps 7 = .ok (.invokestatic 99, 3) := by decide +kernel
theorem dX5_helps_10 : decode cX5_helps 10 = .ok (.aload_n 0, 1) := by decide +kernel
theorem dX5_helps_11 : decode cX5_helps 11 = .ok (.aload_n 3, 1) := by decide +kernel
theorem dX5_helps_12 : decode cX5_helps 12 = .ok (.iload_n 2, 1) := by decide +kernel
theorem dX5_helps_13 : decode cX5_helps 13 = .ok (.invokevirtual 180, 3) := by decide +kernel
theorem dX5_helps_16 : decode cX5_helps 16 = .ok (.ireturn, 1) := by decide +kernel
set_option maxRecDepth 20000 in
theorem ggX5_needs_X5_existing : GoodIn wsX5_needs wsX5_existing := goodIn_ca (goodIn_r _ [7, 8, 9, 10, 11, 12, 13, 14, 15, 16, 143, 144, 145, 146, 147, 148, 149, 150, 151, 152, 153] (by decide +kernel) (by decide +kernel)) (goodIn_sub (fun _ h => List.mem_cons_of_mem _ (List.mem_append_right _ h)) (by decide +kernel))
set_option maxRecDepth 20000 in
theorem gX5_needs_X5_existing : GoodIn wsX5_needs (wsV RX5 84 RX5 yX5_existing wsX5_existing) := goodIn_app (goodIn_of _ (by decide +kernel)) ggX5_needs_X5_existing
set_option maxRecDepth 20000 in
theorem ggX5_needs_X5_mixesNeeded : GoodIn wsX5_needs wsX5_mixesNeeded := goodIn_r _ [20, 21, 10, 22, 23, 24, 25, 26, 27, 28, 29, 30, 31, 32, 33, 34, 35, 36, 6, 37, 38, 39, 40, 41, 42, 43, 44, 45, 46, 47, 48, 14, 49, 50, 51, 52, 53, 54, 55, 56, 57, 58, 59, 60, 61, 62, 63, 64, 65, 66, 67, 68, 69, 70, 71, 72, 73, 74, 75, 76, 77, 78, 79, 80, 81, 82, 83, 84, 85, 86, 87, 88, 89, 90, 91, 92, 93, 94, 95, 96, 97, 98, 99, 100, 101, 102, 103, 104, 105, 106, 107, 108, 109, 110, 111, 112, 113, 114, 115, 116, 117, 118, 119, 120, 121, 122, 123, 124, 125, 126, 127, 128, 129, 130, 131, 132, 133, 134, 135, 136, 137, 138, 139, 140, 141, 142, 143, 144, 145, 146, 147, 148, 149, 154, 155, 156, 157, 158, 159, 160, 161, 150, 151, 152, 153, 162, 163] (by decide +kernel) (by decide +kernel)
set_option maxRecDepth 20000 in
theorem gX5_needs_X5_mixesNeeded : GoodIn wsX5_needs (wsV RX5 185 RX5 yX5_mixesNeeded wsX5_mixesNeeded) := goodIn_app (goodIn_of _ (by decide +kernel)) ggX5_needs_X5_mixesNeeded
theorem dX5_needs_0 : decode cX5_needs 0 = .ok (.aload_n 0, 1) := by decide +kernel
theorem dX5_needs_1 : decode cX5_needs 1 = .ok (.iload_n 1, 1) := by decide +kernel
theorem dX5_needs_2 : decode cX5_needs 2 = .ok (.invokevirtual 84, 3) := by decide +kernel
theorem dX5_needs_5 : decode cX5_needs 5 = .ok (.astore 4, 2) := by decide +kernel
theorem dX5_needs_7 : decode cX5_needs 7 = .ok (.iload_n 2, 1) := by decide +kernel
theorem dX5_needs_8 : decode cX5_needs 8 = .ok (.ifCond .lt 10, 3) := by decide +kernel
theorem dX5_needs_11 : decode cX5_needs 11 = .ok (.iload_n 2, 1) := by decide +kernel
theorem dX5_needs_12 : decode cX5_needs 12 = .ok (.sipush 9899, 3) := by decide +kernel
theorem dX5_needs_15 : decode cX5_needs 15 = .ok (.if_icmp .le 13, 3) := by decide +kernel
theorem dX5_needs_18 : decode cX5_needs 18 = .ok (.new 52, 3) := by decide +kernel
theorem dX5_needs_21 : decode cX5_needs 21 = .ok (.dup, 1) := by decide +kernel
theorem dX5_needs_22 : decode cX5_needs 22 = .ok (.ldc 183, 2) := by decide +kernel
theorem dX5_needs_24 : decode cX5_needs 24 = .ok (.invokespecial 56, 3) := by decide +kernel
theorem dX5_needs_27 : decode cX5_needs 27 = .ok (.athrow, 1) := by decide +kernel
theorem dX5_needs_28 : decode cX5_needs 28 = .ok (.aload_n 0, 1) := by decide +kernel
theorem dX5_needs_29 : decode cX5_needs 29 = .ok (.aload 4, 2) := by decide +kernel
theorem dX5_needs_31 : decode cX5_needs 31 = .ok (.iload_n 2, 1) := by decide +kernel
theorem dX5_needs_32 : decode cX5_needs 32 = .ok (.iload_n 3, 1) := by decide +kernel
theorem dX5_needs_33 : decode cX5_needs 33 = .ok (.invokevirtual 185, 3) := by decide +kernel
theorem dX5_needs_36 : decode cX5_needs 36 = .ok (.ireturn, 1) := by decide +kernel
set_option maxRecDepth 20000 in
theorem ggX5_ifEliminated_X5_existing : GoodIn wsX5_ifEliminated wsX5_existing := goodIn_ca (goodIn_r _ [5, 6, 7, 8, 9, 10, 11, 12, 13, 14, 109, 110, 111, 112, 113, 114, 115, 116, 117, 118, 119] (by decide +kernel) (by decide +kernel)) (goodIn_sub (fun _ h => List.mem_cons_of_mem _ (List.mem_append_right _ h)) (by decide +kernel))
set_option maxRecDepth 20000 in
theorem gX5_ifEliminated_X5_existing : GoodIn wsX5_ifEliminated (wsV RX5 84 RX5 yX5_existing wsX5_existing) := goodIn_app (goodIn_of _ (by decide +kernel)) ggX5_ifEliminated_X5_existing
set_option maxRecDepth 20000 in
theorem ggX5_ifEliminated_X5_foundIfEliminated : GoodIn wsX5_ifEliminated wsX5_foundIfEliminated := goodIn_r _ [18, 19, 20, 21, 22, 23, 24, 25, 26, 27, 28, 29, 30, 31, 32, 33, 34, 4, 35, 36, 37, 38, 39, 40, 41, 42, 43, 44, 45, 46, 47, 48, 49, 50, 51, 52, 53, 54, 55, 56, 57, 58, 59, 60, 61, 62, 63, 64, 65, 66, 67, 68, 69, 70, 71, 72, 73, 74, 75, 76, 77, 78, 79, 80, 81, 82, 83, 84, 85, 86, 87, 88, 89, 90, 91, 92, 93, 94, 95, 96, 97, 98, 99, 100, 101, 102, 103, 104, 105, 106, 107, 108, 109, 110, 111, 112, 113, 114, 115, 120, 121, 122, 123, 124, 125, 126, 127, 128, 129] (by decide +kernel) (by decide +kernel)
set_option maxRecDepth 20000 in
theorem gX5_ifEliminated_X5_foundIfEliminated : GoodIn wsX5_ifEliminated (wsV RX5 189 RX5 yX5_foundIfEliminated wsX5_foundIfEliminated) := goodIn_app (goodIn_of _ (by decide +kernel)) ggX5_ifEliminated_X5_foundIfEliminated
theorem dX5_ifEliminated_0 : decode cX5_ifEliminated 0 = .ok (.aload_n 0, 1) := by decide +kernel
theorem dX5_ifEliminated_1 : decode cX5_ifEliminated 1 = .ok (.aload_n 0, 1) := by decide +kernel
theorem dX5_ifEliminated_2 : decode cX5_ifEliminated 2 = .ok (.iload_n 1, 1) := by decide +kernel
theorem dX5_ifEliminated_3 : decode cX5_ifEliminated 3 = .ok (.invokevirtual 84, 3) := by decide +kernel
theorem dX5_ifEliminated_6 : decode cX5_ifEliminated 6 = .ok (.invokevirtual 189, 3) := by decide +kernel
theorem dX5_ifEliminated_9 : decode cX5_ifEliminated 9 = .ok (.ireturn, 1) := by decide +kernel
set_option maxRecDepth 20000 in
theorem ggX5_use_X5_existing : GoodIn wsX5_use wsX5_existing := goodIn_ca (goodIn_r _ [5, 6, 7, 8, 9, 10, 11, 12, 13, 14, 23, 24, 25, 26, 27, 28, 29, 30, 31, 32, 33] (by decide +kernel) (by decide +kernel)) (goodIn_sub (fun _ h => List.mem_cons_of_mem _ (List.mem_append_right _ h)) (by decide +kernel))
set_option maxRecDepth 20000 in
theorem gX5_use_X5_existing : GoodIn wsX5_use (wsV RX5 84 RX5 yX5_existing wsX5_existing) := goodIn_app (goodIn_of _ (by decide +kernel)) ggX5_use_X5_existing
set_option maxRecDepth 20000 in
theorem ggX5_use_X3_share : GoodIn wsX5_use wsX3_share := goodIn_r _ [19, 20, 21, 22, 34, 35, 36, 37, 38, 39, 40, 41] (by decide +kernel) (by decide +kernel)
set_option maxRecDepth 20000 in
theorem gX5_use_X3_share : GoodIn wsX5_use (wsV RX5 193 RX3 yX3_share wsX3_share) := goodIn_app (goodIn_of _ (by decide +kernel)) ggX5_use_X3_share
theorem dX5_use_0 : decode cX5_use 0 = .ok (.aload_n 0, 1) := by decide +kernel
theorem dX5_use_1 : decode cX5_use 1 = .ok (.iload_n 1, 1) := by decide +kernel
theorem dX5_use_2 : decode cX5_use 2 = .ok (.invokevirtual 84, 3) := by decide +kernel
theorem dX5_use_5 : decode cX5_use 5 = .ok (.invokevirtual 193, 3) := by decide +kernel
theorem dX5_use_8 : decode cX5_use 8 = .ok (.dreturn, 1) := by decide +kernel
set_option maxRecDepth 20000 in
theorem ggX5_existing_X4_receiverAt : GoodIn wsX5_existing wsX4_receiverAt := goodIn_r _ [8, 9, 17, 18, 19, 20] (by decide +kernel) (by decide +kernel)
set_option maxRecDepth 20000 in
theorem gX5_existing_X4_receiverAt : GoodIn wsX5_existing (wsV RX5 203 RX4 yX4_receiverAt wsX4_receiverAt) := goodIn_app (goodIn_of _ (by decide +kernel)) ggX5_existing_X4_receiverAt
theorem dX5_existing_0 : decode cX5_existing 0 = .ok (.aload_n 0, 1) := by decide +kernel
theorem dX5_existing_1 : decode cX5_existing 1 = .ok (.getfield 12, 3) := by decide +kernel
theorem dX5_existing_4 : decode cX5_existing 4 = .ok (.iload_n 1, 1) := by decide +kernel
theorem dX5_existing_5 : decode cX5_existing 5 = .ok (.invokevirtual 203, 3) := by decide +kernel
theorem dX5_existing_8 : decode cX5_existing 8 = .ok (.astore_n 2, 1) := by decide +kernel
theorem dX5_existing_9 : decode cX5_existing 9 = .ok (.aload_n 2, 1) := by decide +kernel
theorem dX5_existing_10 : decode cX5_existing 10 = .ok (.ifnonnull 13, 3) := by decide +kernel
theorem dX5_existing_13 : decode cX5_existing 13 = .ok (.new 213, 3) := by decide +kernel
theorem dX5_existing_16 : decode cX5_existing 16 = .ok (.dup, 1) := by decide +kernel
theorem dX5_existing_17 : decode cX5_existing 17 = .ok (.ldc 215, 2) := by decide +kernel
theorem dX5_existing_19 : decode cX5_existing 19 = .ok (.invokespecial 217, 3) := by decide +kernel
theorem dX5_existing_22 : decode cX5_existing 22 = .ok (.athrow, 1) := by decide +kernel
theorem dX5_existing_23 : decode cX5_existing 23 = .ok (.aload_n 2, 1) := by decide +kernel
theorem dX5_existing_24 : decode cX5_existing 24 = .ok (.areturn, 1) := by decide +kernel
theorem dX5_checkBlock_0 : decode cX5_checkBlock 0 = .ok (.iload_n 1, 1) := by decide +kernel
theorem dX5_checkBlock_1 : decode cX5_checkBlock 1 = .ok (.ifCond .lt 14, 3) := by decide +kernel
theorem dX5_checkBlock_4 : decode cX5_checkBlock 4 = .ok (.iload_n 1, 1) := by decide +kernel
theorem dX5_checkBlock_5 : decode cX5_checkBlock 5 = .ok (.aload_n 0, 1) := by decide +kernel
theorem dX5_checkBlock_6 : decode cX5_checkBlock 6 = .ok (.getfield 12, 3) := by decide +kernel
theorem dX5_checkBlock_9 : decode cX5_checkBlock 9 = .ok (.getfield 63, 3) := by decide +kernel
theorem dX5_checkBlock_12 : decode cX5_checkBlock 12 = .ok (.if_icmp .lt 13, 3) := by decide +kernel
theorem dX5_checkBlock_15 : decode cX5_checkBlock 15 = .ok (.new 213, 3) := by decide +kernel
theorem dX5_checkBlock_18 : decode cX5_checkBlock 18 = .ok (.dup, 1) := by decide +kernel
theorem dX5_checkBlock_19 : decode cX5_checkBlock 19 = .ok (.ldc 218, 2) := by decide +kernel
theorem dX5_checkBlock_21 : decode cX5_checkBlock 21 = .ok (.invokespecial 217, 3) := by decide +kernel
theorem dX5_checkBlock_24 : decode cX5_checkBlock 24 = .ok (.athrow, 1) := by decide +kernel
theorem dX5_checkBlock_25 : decode cX5_checkBlock 25 = .ok (.return_, 1) := by decide +kernel
theorem dX5_checkMix_0 : decode cX5_checkMix 0 = .ok (.iload_n 0, 1) := by decide +kernel
theorem dX5_checkMix_1 : decode cX5_checkMix 1 = .ok (.ifCond .lt 10, 3) := by decide +kernel
theorem dX5_checkMix_4 : decode cX5_checkMix 4 = .ok (.iload_n 0, 1) := by decide +kernel
theorem dX5_checkMix_5 : decode cX5_checkMix 5 = .ok (.sipush 9999, 3) := by decide +kernel
theorem dX5_checkMix_8 : decode cX5_checkMix 8 = .ok (.if_icmp .le 13, 3) := by decide +kernel
theorem dX5_checkMix_11 : decode cX5_checkMix 11 = .ok (.new 52, 3) := by decide +kernel
theorem dX5_checkMix_14 : decode cX5_checkMix 14 = .ok (.dup, 1) := by decide +kernel
theorem dX5_checkMix_15 : decode cX5_checkMix 15 = .ok (.ldc 220, 2) := by decide +kernel
theorem dX5_checkMix_17 : decode cX5_checkMix 17 = .ok (.invokespecial 56, 3) := by decide +kernel
theorem dX5_checkMix_20 : decode cX5_checkMix 20 = .ok (.athrow, 1) := by decide +kernel
theorem dX5_checkMix_21 : decode cX5_checkMix 21 = .ok (.return_, 1) := by decide +kernel
theorem dX5_checkWhat_0 : decode cX5_checkWhat 0 = .ok (.iload_n 0, 1) := by decide +kernel
theorem dX5_checkWhat_1 : decode cX5_checkWhat 1 = .ok (.ifCond .lt 8, 3) := by decide +kernel
theorem dX5_checkWhat_4 : decode cX5_checkWhat 4 = .ok (.iload_n 0, 1) := by decide +kernel
theorem dX5_checkWhat_5 : decode cX5_checkWhat 5 = .ok (.iload_n 1, 1) := by decide +kernel
theorem dX5_checkWhat_6 : decode cX5_checkWhat 6 = .ok (.if_icmp .lt 13, 3) := by decide +kernel
theorem dX5_checkWhat_9 : decode cX5_checkWhat 9 = .ok (.new 52, 3) := by decide +kernel
theorem dX5_checkWhat_12 : decode cX5_checkWhat 12 = .ok (.dup, 1) := by decide +kernel
theorem dX5_checkWhat_13 : decode cX5_checkWhat 13 = .ok (.ldc 222, 2) := by decide +kernel
theorem dX5_checkWhat_15 : decode cX5_checkWhat 15 = .ok (.invokespecial 56, 3) := by decide +kernel
theorem dX5_checkWhat_18 : decode cX5_checkWhat 18 = .ok (.athrow, 1) := by decide +kernel
theorem dX5_checkWhat_19 : decode cX5_checkWhat 19 = .ok (.return_, 1) := by decide +kernel
theorem dX5_blocksOf_0 : decode cX5_blocksOf 0 = .ok (.iload_n 0, 1) := by decide +kernel
theorem dX5_blocksOf_1 : decode cX5_blocksOf 1 = .ok (.sipush 4095, 3) := by decide +kernel
theorem dX5_blocksOf_4 : decode cX5_blocksOf 4 = .ok (.iand, 1) := by decide +kernel
theorem dX5_blocksOf_5 : decode cX5_blocksOf 5 = .ok (.ireturn, 1) := by decide +kernel
theorem dX5_valueOf_0 : decode cX5_valueOf 0 = .ok (.iload_n 0, 1) := by decide +kernel
theorem dX5_valueOf_1 : decode cX5_valueOf 1 = .ok (.bipush 12, 2) := by decide +kernel
theorem dX5_valueOf_3 : decode cX5_valueOf 3 = .ok (.ishr, 1) := by decide +kernel
theorem dX5_valueOf_4 : decode cX5_valueOf 4 = .ok (.ireturn, 1) := by decide +kernel
set_option maxRecDepth 20000 in
theorem ggX5_blockCountOf_J6_bitCount_0f7a4 : GoodIn wsX5_blockCountOf wsJ6_bitCount_0f7a4 := goodIn_r _ [4, 5, 6, 7] (by decide +kernel) (by decide +kernel)
set_option maxRecDepth 20000 in
theorem gX5_blockCountOf_J6_bitCount_0f7a4 : GoodIn wsX5_blockCountOf (va_wsS RX5 224 yJ6_bitCount_0f7a4 wsJ6_bitCount_0f7a4) := goodIn_app (goodIn_of _ (by decide +kernel)) ggX5_blockCountOf_J6_bitCount_0f7a4
theorem dX5_blockCountOf_0 : decode cX5_blockCountOf 0 = .ok (.iload_n 0, 1) := by decide +kernel
theorem dX5_blockCountOf_1 : decode cX5_blockCountOf 1 = .ok (.sipush 4095, 3) := by decide +kernel
theorem dX5_blockCountOf_4 : decode cX5_blockCountOf 4 = .ok (.iand, 1) := by decide +kernel
theorem dX5_blockCountOf_5 : decode cX5_blockCountOf 5 = .ok (.invokestatic 224, 3) := by decide +kernel
theorem dX5_blockCountOf_8 : decode cX5_blockCountOf 8 = .ok (.ireturn, 1) := by decide +kernel
theorem dX5_holds_0 : decode cX5_holds 0 = .ok (.iload_n 0, 1) := by decide +kernel
theorem dX5_holds_1 : decode cX5_holds 1 = .ok (.iload_n 1, 1) := by decide +kernel
theorem dX5_holds_2 : decode cX5_holds 2 = .ok (.ishr, 1) := by decide +kernel
theorem dX5_holds_3 : decode cX5_holds 3 = .ok (.iconst 1, 1) := by decide +kernel
theorem dX5_holds_4 : decode cX5_holds 4 = .ok (.iand, 1) := by decide +kernel
theorem dX5_holds_5 : decode cX5_holds 5 = .ok (.iconst 1, 1) := by decide +kernel
theorem dX5_holds_6 : decode cX5_holds 6 = .ok (.if_icmp .ne 7, 3) := by decide +kernel
theorem dX5_holds_9 : decode cX5_holds 9 = .ok (.iconst 1, 1) := by decide +kernel
theorem dX5_holds_10 : decode cX5_holds 10 = .ok (.goto 4, 3) := by decide +kernel
theorem dX5_holds_13 : decode cX5_holds 13 = .ok (.iconst 0, 1) := by decide +kernel
theorem dX5_holds_14 : decode cX5_holds 14 = .ok (.ireturn, 1) := by decide +kernel
theorem dX5_copyRow_0 : decode cX5_copyRow 0 = .ok (.aload_n 0, 1) := by decide +kernel
theorem dX5_copyRow_1 : decode cX5_copyRow 1 = .ok (.iconst 0, 1) := by decide +kernel
theorem dX5_copyRow_2 : decode cX5_copyRow 2 = .ok (.aload_n 1, 1) := by decide +kernel
theorem dX5_copyRow_3 : decode cX5_copyRow 3 = .ok (.iconst 0, 1) := by decide +kernel
theorem dX5_copyRow_4 : decode cX5_copyRow 4 = .ok (.aload_n 0, 1) := by decide +kernel
theorem dX5_copyRow_5 : decode cX5_copyRow 5 = .ok (.arraylength, 1) := by decide +kernel
theorem dX5_copyRow_6 : decode cX5_copyRow 6 = .ok (.aload_n 1, 1) := by decide +kernel
theorem dX5_copyRow_7 : decode cX5_copyRow 7 = .ok (.arraylength, 1) := by decide +kernel
theorem dX5_copyRow_8 : decode cX5_copyRow 8 = .ok (.invokestatic 229, 3) := by decide +kernel
theorem dX5_copyRow_11 : decode cX5_copyRow 11 = .ok (.invokestatic 235, 3) := by decide +kernel
theorem dX5_copyRow_14 : decode cX5_copyRow 14 = .ok (.return_, 1) := by decide +kernel
set_option maxRecDepth 20000 in
theorem ggX5_numberOf_X3_knows : GoodIn wsX5_numberOf wsX3_knows := goodIn_r _ [7, 8, 9, 10, 11, 12, 13, 14, 15, 54, 55, 56, 57, 58, 59, 60, 61] (by decide +kernel) (by decide +kernel)
set_option maxRecDepth 20000 in
theorem gX5_numberOf_X3_knows : GoodIn wsX5_numberOf (wsV RX5 92 RX3 yX3_knows wsX3_knows) := goodIn_app (goodIn_of _ (by decide +kernel)) ggX5_numberOf_X3_knows
set_option maxRecDepth 20000 in
theorem ggX5_numberOf_X4_isDone : GoodIn wsX5_numberOf wsX4_isDone := goodIn_r _ [20, 21, 22, 4, 5, 6, 7, 8, 9, 10, 11, 12, 13, 14, 15, 69, 70, 71, 72, 54, 55, 56, 57, 58, 59, 60, 61] (by decide +kernel) (by decide +kernel)
set_option maxRecDepth 20000 in
theorem gX5_numberOf_X4_isDone : GoodIn wsX5_numberOf (wsV RX5 265 RX4 yX4_isDone wsX4_isDone) := goodIn_app (goodIn_of _ (by decide +kernel)) ggX5_numberOf_X4_isDone
set_option maxRecDepth 20000 in
theorem ggX5_numberOf_X3_rank : GoodIn wsX5_numberOf wsX3_rank := goodIn_r _ [26, 27, 28, 29, 6, 30, 31, 32, 33, 34, 35, 36, 37, 38, 39, 40, 41, 42, 43, 44, 45, 46, 47, 48, 49, 50, 51, 52, 10, 11, 12, 13, 14, 15, 53, 4, 5, 7, 8, 9, 73, 74, 54, 55, 56, 57, 58, 59, 60, 61] (by decide +kernel) (by decide +kernel)
set_option maxRecDepth 20000 in
theorem gX5_numberOf_X3_rank : GoodIn wsX5_numberOf (wsV RX5 269 RX3 yX3_rank wsX3_rank) := goodIn_app (goodIn_of _ (by decide +kernel)) ggX5_numberOf_X3_rank
theorem dX5_numberOf_0 : decode cX5_numberOf 0 = .ok (.iload_n 2, 1) := by decide +kernel
theorem dX5_numberOf_1 : decode cX5_numberOf 1 = .ok (.tableswitch 107 0 7 #[47, 60, 65, 70, 75, 80, 85, 90], 47) := by decide +kernel
theorem dX5_numberOf_48 : decode cX5_numberOf 48 = .ok (.aload_n 1, 1) := by decide +kernel
theorem dX5_numberOf_49 : decode cX5_numberOf 49 = .ok (.getfield 88, 3) := by decide +kernel
theorem dX5_numberOf_52 : decode cX5_numberOf 52 = .ok (.ifCond .eq 7, 3) := by decide +kernel
theorem dX5_numberOf_55 : decode cX5_numberOf 55 = .ok (.iconst 1, 1) := by decide +kernel
theorem dX5_numberOf_56 : decode cX5_numberOf 56 = .ok (.goto 4, 3) := by decide +kernel
theorem dX5_numberOf_59 : decode cX5_numberOf 59 = .ok (.iconst 0, 1) := by decide +kernel
theorem dX5_numberOf_60 : decode cX5_numberOf 60 = .ok (.ireturn, 1) := by decide +kernel
theorem dX5_numberOf_61 : decode cX5_numberOf 61 = .ok (.aload_n 1, 1) := by decide +kernel
theorem dX5_numberOf_62 : decode cX5_numberOf 62 = .ok (.invokevirtual 92, 3) := by decide +kernel
theorem dX5_numberOf_65 : decode cX5_numberOf 65 = .ok (.ireturn, 1) := by decide +kernel
theorem dX5_numberOf_66 : decode cX5_numberOf 66 = .ok (.aload_n 1, 1) := by decide +kernel
theorem dX5_numberOf_67 : decode cX5_numberOf 67 = .ok (.getfield 253, 3) := by decide +kernel
theorem dX5_numberOf_70 : decode cX5_numberOf 70 = .ok (.ireturn, 1) := by decide +kernel
theorem dX5_numberOf_71 : decode cX5_numberOf 71 = .ok (.aload_n 1, 1) := by decide +kernel
theorem dX5_numberOf_72 : decode cX5_numberOf 72 = .ok (.getfield 165, 3) := by decide +kernel
theorem dX5_numberOf_75 : decode cX5_numberOf 75 = .ok (.ireturn, 1) := by decide +kernel
theorem dX5_numberOf_76 : decode cX5_numberOf 76 = .ok (.aload_n 1, 1) := by decide +kernel
theorem dX5_numberOf_77 : decode cX5_numberOf 77 = .ok (.getfield 256, 3) := by decide +kernel
theorem dX5_numberOf_80 : decode cX5_numberOf 80 = .ok (.ireturn, 1) := by decide +kernel
theorem dX5_numberOf_81 : decode cX5_numberOf 81 = .ok (.aload_n 1, 1) := by decide +kernel
theorem dX5_numberOf_82 : decode cX5_numberOf 82 = .ok (.getfield 259, 3) := by decide +kernel
theorem dX5_numberOf_85 : decode cX5_numberOf 85 = .ok (.ireturn, 1) := by decide +kernel
theorem dX5_numberOf_86 : decode cX5_numberOf 86 = .ok (.aload_n 1, 1) := by decide +kernel
theorem dX5_numberOf_87 : decode cX5_numberOf 87 = .ok (.getfield 262, 3) := by decide +kernel
theorem dX5_numberOf_90 : decode cX5_numberOf 90 = .ok (.ireturn, 1) := by decide +kernel
theorem dX5_numberOf_91 : decode cX5_numberOf 91 = .ok (.aload_n 0, 1) := by decide +kernel
theorem dX5_numberOf_92 : decode cX5_numberOf 92 = .ok (.getfield 12, 3) := by decide +kernel
theorem dX5_numberOf_95 : decode cX5_numberOf 95 = .ok (.aload_n 1, 1) := by decide +kernel
theorem dX5_numberOf_96 : decode cX5_numberOf 96 = .ok (.invokevirtual 265, 3) := by decide +kernel
theorem dX5_numberOf_99 : decode cX5_numberOf 99 = .ok (.ifCond .eq 7, 3) := by decide +kernel
theorem dX5_numberOf_102 : decode cX5_numberOf 102 = .ok (.iconst 1, 1) := by decide +kernel
theorem dX5_numberOf_103 : decode cX5_numberOf 103 = .ok (.goto 4, 3) := by decide +kernel
theorem dX5_numberOf_106 : decode cX5_numberOf 106 = .ok (.iconst 0, 1) := by decide +kernel
theorem dX5_numberOf_107 : decode cX5_numberOf 107 = .ok (.ireturn, 1) := by decide +kernel
theorem dX5_numberOf_108 : decode cX5_numberOf 108 = .ok (.aload_n 1, 1) := by decide +kernel
theorem dX5_numberOf_109 : decode cX5_numberOf 109 = .ok (.aload_n 0, 1) := by decide +kernel
theorem dX5_numberOf_110 : decode cX5_numberOf 110 = .ok (.getfield 48, 3) := by decide +kernel
theorem dX5_numberOf_113 : decode cX5_numberOf 113 = .ok (.invokevirtual 269, 3) := by decide +kernel
theorem dX5_numberOf_116 : decode cX5_numberOf 116 = .ok (.ireturn, 1) := by decide +kernel
set_option maxRecDepth 20000 in
theorem ggX5_countOf_X4_listening : GoodIn wsX5_countOf wsX4_listening := goodIn_r _ [7, 8, 47, 48, 49, 50, 54, 55, 56, 57, 58, 59, 60, 61] (by decide +kernel) (by decide +kernel)
set_option maxRecDepth 20000 in
theorem gX5_countOf_X4_listening : GoodIn wsX5_countOf (wsV RX5 275 RX4 yX4_listening wsX4_listening) := goodIn_app (goodIn_of _ (by decide +kernel)) ggX5_countOf_X4_listening
set_option maxRecDepth 20000 in
theorem ggX5_countOf_X4_done : GoodIn wsX5_countOf wsX4_done := goodIn_r _ [12, 8, 13, 14, 15, 6, 16, 17, 18, 19, 20, 21, 22, 23, 24, 25, 26, 27, 28, 29, 30, 47, 48, 49, 50, 54, 55, 56, 57, 58, 59, 60, 61] (by decide +kernel) (by decide +kernel)
set_option maxRecDepth 20000 in
theorem gX5_countOf_X4_done : GoodIn wsX5_countOf (wsV RX5 278 RX4 yX4_done wsX4_done) := goodIn_app (goodIn_of _ (by decide +kernel)) ggX5_countOf_X4_done
set_option maxRecDepth 20000 in
theorem ggX5_countOf_X4_allTogether : GoodIn wsX5_countOf wsX4_allTogether := goodIn_r _ [34, 17, 35, 36, 37, 6, 38, 39, 47, 48, 49, 50] (by decide +kernel) (by decide +kernel)
set_option maxRecDepth 20000 in
theorem gX5_countOf_X4_allTogether : GoodIn wsX5_countOf (wsV RX5 281 RX4 yX4_allTogether wsX4_allTogether) := goodIn_app (goodIn_of _ (by decide +kernel)) ggX5_countOf_X4_allTogether
theorem dX5_countOf_0 : decode cX5_countOf 0 = .ok (.iload_n 1, 1) := by decide +kernel
theorem dX5_countOf_1 : decode cX5_countOf 1 = .ok (.tableswitch 75 0 4 #[35, 43, 51, 59, 67], 35) := by decide +kernel
theorem dX5_countOf_36 : decode cX5_countOf 36 = .ok (.aload_n 0, 1) := by decide +kernel
theorem dX5_countOf_37 : decode cX5_countOf 37 = .ok (.getfield 12, 3) := by decide +kernel
theorem dX5_countOf_40 : decode cX5_countOf 40 = .ok (.getfield 63, 3) := by decide +kernel
theorem dX5_countOf_43 : decode cX5_countOf 43 = .ok (.ireturn, 1) := by decide +kernel
theorem dX5_countOf_44 : decode cX5_countOf 44 = .ok (.aload_n 0, 1) := by decide +kernel
theorem dX5_countOf_45 : decode cX5_countOf 45 = .ok (.getfield 12, 3) := by decide +kernel
theorem dX5_countOf_48 : decode cX5_countOf 48 = .ok (.getfield 272, 3) := by decide +kernel
theorem dX5_countOf_51 : decode cX5_countOf 51 = .ok (.ireturn, 1) := by decide +kernel
theorem dX5_countOf_52 : decode cX5_countOf 52 = .ok (.aload_n 0, 1) := by decide +kernel
theorem dX5_countOf_53 : decode cX5_countOf 53 = .ok (.getfield 12, 3) := by decide +kernel
theorem dX5_countOf_56 : decode cX5_countOf 56 = .ok (.invokevirtual 275, 3) := by decide +kernel
theorem dX5_countOf_59 : decode cX5_countOf 59 = .ok (.ireturn, 1) := by decide +kernel
theorem dX5_countOf_60 : decode cX5_countOf 60 = .ok (.aload_n 0, 1) := by decide +kernel
theorem dX5_countOf_61 : decode cX5_countOf 61 = .ok (.getfield 12, 3) := by decide +kernel
theorem dX5_countOf_64 : decode cX5_countOf 64 = .ok (.invokevirtual 278, 3) := by decide +kernel
theorem dX5_countOf_67 : decode cX5_countOf 67 = .ok (.ireturn, 1) := by decide +kernel
theorem dX5_countOf_68 : decode cX5_countOf 68 = .ok (.aload_n 0, 1) := by decide +kernel
theorem dX5_countOf_69 : decode cX5_countOf 69 = .ok (.getfield 12, 3) := by decide +kernel
theorem dX5_countOf_72 : decode cX5_countOf 72 = .ok (.invokevirtual 281, 3) := by decide +kernel
theorem dX5_countOf_75 : decode cX5_countOf 75 = .ok (.ireturn, 1) := by decide +kernel
theorem dX5_countOf_76 : decode cX5_countOf 76 = .ok (.aload_n 0, 1) := by decide +kernel
theorem dX5_countOf_77 : decode cX5_countOf 77 = .ok (.getfield 19, 3) := by decide +kernel
theorem dX5_countOf_80 : decode cX5_countOf 80 = .ok (.getfield 138, 3) := by decide +kernel
theorem dX5_countOf_83 : decode cX5_countOf 83 = .ok (.ireturn, 1) := by decide +kernel
set_option maxRecDepth 20000 in
theorem ggX5_foundIfGot_X3_become : GoodIn wsX5_foundIfGot wsX3_become := goodIn_r _ [7, 8, 9, 10, 11, 12, 13, 14, 15, 16, 17, 18, 19, 20, 21, 22, 23, 24, 25, 26, 91, 92, 93, 94, 95, 96, 97, 98] (by decide +kernel) (by decide +kernel)
set_option maxRecDepth 20000 in
theorem gX5_foundIfGot_X3_become : GoodIn wsX5_foundIfGot (wsV RX5 284 RX3 yX3_become wsX3_become) := goodIn_app (goodIn_of _ (by decide +kernel)) ggX5_foundIfGot_X3_become
set_option maxRecDepth 20000 in
theorem ggX5_foundIfGot_X4_mixOf : GoodIn wsX5_foundIfGot wsX4_mixOf := goodIn_r _ [31, 32, 33, 20, 21, 22, 34, 35, 36, 30, 37, 38, 17, 39, 40, 41, 42, 43, 44, 99, 100, 101, 102] (by decide +kernel) (by decide +kernel)
set_option maxRecDepth 20000 in
theorem gX5_foundIfGot_X4_mixOf : GoodIn wsX5_foundIfGot (wsV RX5 144 RX4 yX4_mixOf wsX4_mixOf) := goodIn_app (goodIn_of _ (by decide +kernel)) ggX5_foundIfGot_X4_mixOf
set_option maxRecDepth 20000 in
theorem ggX5_foundIfGot_X3_get : GoodIn wsX5_foundIfGot wsX3_get := goodIn_r _ [48, 13, 12, 11, 15, 49, 50, 51, 6, 52, 10, 38, 17, 39, 53, 54, 55, 56, 57, 58, 59, 60, 61, 62, 63, 64, 65, 14, 66, 67, 68, 69, 70, 71, 9, 72, 73, 74, 75, 76, 77, 78, 79, 80, 81, 82, 83, 91, 92, 93, 94, 95, 96, 97, 98] (by decide +kernel) (by decide +kernel)
set_option maxRecDepth 20000 in
theorem gX5_foundIfGot_X3_get : GoodIn wsX5_foundIfGot (wsV RX5 288 RX3 yX3_get wsX3_get) := goodIn_app (goodIn_of _ (by decide +kernel)) ggX5_foundIfGot_X3_get
theorem dX5_foundIfGot_0 : decode cX5_foundIfGot 0 = .ok (.aload_n 0, 1) := by decide +kernel
theorem dX5_foundIfGot_1 : decode cX5_foundIfGot 1 = .ok (.getfield 41, 3) := by decide +kernel
theorem dX5_foundIfGot_4 : decode cX5_foundIfGot 4 = .ok (.aload_n 1, 1) := by decide +kernel
theorem dX5_foundIfGot_5 : decode cX5_foundIfGot 5 = .ok (.invokevirtual 284, 3) := by decide +kernel
theorem dX5_foundIfGot_8 : decode cX5_foundIfGot 8 = .ok (.aload_n 0, 1) := by decide +kernel
theorem dX5_foundIfGot_9 : decode cX5_foundIfGot 9 = .ok (.getfield 41, 3) := by decide +kernel
theorem dX5_foundIfGot_12 : decode cX5_foundIfGot 12 = .ok (.aload_n 0, 1) := by decide +kernel
theorem dX5_foundIfGot_13 : decode cX5_foundIfGot 13 = .ok (.getfield 12, 3) := by decide +kernel
theorem dX5_foundIfGot_16 : decode cX5_foundIfGot 16 = .ok (.iload_n 2, 1) := by decide +kernel
theorem dX5_foundIfGot_17 : decode cX5_foundIfGot 17 = .ok (.invokevirtual 144, 3) := by decide +kernel
theorem dX5_foundIfGot_20 : decode cX5_foundIfGot 20 = .ok (.invokevirtual 288, 3) := by decide +kernel
theorem dX5_foundIfGot_23 : decode cX5_foundIfGot 23 = .ok (.ireturn, 1) := by decide +kernel
set_option maxRecDepth 20000 in
theorem ggX5_rankIfGot_X3_become : GoodIn wsX5_rankIfGot wsX3_become := goodIn_r _ [8, 9, 10, 11, 12, 13, 14, 15, 16, 17, 18, 19, 20, 21, 22, 23, 24, 25, 26, 27, 120, 121, 122, 123, 124, 125, 126, 127] (by decide +kernel) (by decide +kernel)
set_option maxRecDepth 20000 in
theorem gX5_rankIfGot_X3_become : GoodIn wsX5_rankIfGot (wsV RX5 284 RX3 yX3_become wsX3_become) := goodIn_app (goodIn_of _ (by decide +kernel)) ggX5_rankIfGot_X3_become
set_option maxRecDepth 20000 in
theorem ggX5_rankIfGot_X4_mixOf : GoodIn wsX5_rankIfGot wsX4_mixOf := goodIn_r _ [32, 33, 34, 21, 22, 23, 35, 36, 37, 31, 38, 39, 18, 40, 41, 42, 43, 44, 45, 128, 129, 130, 131] (by decide +kernel) (by decide +kernel)
set_option maxRecDepth 20000 in
theorem gX5_rankIfGot_X4_mixOf : GoodIn wsX5_rankIfGot (wsV RX5 144 RX4 yX4_mixOf wsX4_mixOf) := goodIn_app (goodIn_of _ (by decide +kernel)) ggX5_rankIfGot_X4_mixOf
set_option maxRecDepth 20000 in
theorem ggX5_rankIfGot_X3_get : GoodIn wsX5_rankIfGot wsX3_get := goodIn_r _ [49, 14, 13, 12, 16, 50, 51, 52, 7, 53, 11, 39, 18, 40, 54, 55, 56, 57, 58, 59, 60, 61, 62, 63, 64, 65, 66, 15, 67, 68, 69, 70, 71, 72, 10, 73, 74, 75, 76, 77, 78, 79, 80, 81, 82, 83, 84, 120, 121, 122, 123, 124, 125, 126, 127] (by decide +kernel) (by decide +kernel)
set_option maxRecDepth 20000 in
theorem gX5_rankIfGot_X3_get : GoodIn wsX5_rankIfGot (wsV RX5 288 RX3 yX3_get wsX3_get) := goodIn_app (goodIn_of _ (by decide +kernel)) ggX5_rankIfGot_X3_get
set_option maxRecDepth 20000 in
theorem ggX5_rankIfGot_X3_rank : GoodIn wsX5_rankIfGot wsX3_rank := goodIn_r _ [88, 89, 90, 91, 7, 92, 13, 12, 93, 94, 95, 96, 97, 98, 99, 100, 101, 102, 103, 39, 18, 40, 67, 68, 104, 105, 106, 107, 57, 58, 59, 60, 61, 62, 108, 109, 110, 111, 10, 112, 132, 133, 120, 121, 122, 123, 124, 125, 126, 127] (by decide +kernel) (by decide +kernel)
set_option maxRecDepth 20000 in
theorem gX5_rankIfGot_X3_rank : GoodIn wsX5_rankIfGot (wsV RX5 269 RX3 yX3_rank wsX3_rank) := goodIn_app (goodIn_of _ (by decide +kernel)) ggX5_rankIfGot_X3_rank
theorem dX5_rankIfGot_0 : decode cX5_rankIfGot 0 = .ok (.aload_n 0, 1) := by decide +kernel
theorem dX5_rankIfGot_1 : decode cX5_rankIfGot 1 = .ok (.getfield 41, 3) := by decide +kernel
theorem dX5_rankIfGot_4 : decode cX5_rankIfGot 4 = .ok (.aload_n 1, 1) := by decide +kernel
theorem dX5_rankIfGot_5 : decode cX5_rankIfGot 5 = .ok (.invokevirtual 284, 3) := by decide +kernel
theorem dX5_rankIfGot_8 : decode cX5_rankIfGot 8 = .ok (.aload_n 0, 1) := by decide +kernel
theorem dX5_rankIfGot_9 : decode cX5_rankIfGot 9 = .ok (.getfield 41, 3) := by decide +kernel
theorem dX5_rankIfGot_12 : decode cX5_rankIfGot 12 = .ok (.aload_n 0, 1) := by decide +kernel
theorem dX5_rankIfGot_13 : decode cX5_rankIfGot 13 = .ok (.getfield 12, 3) := by decide +kernel
theorem dX5_rankIfGot_16 : decode cX5_rankIfGot 16 = .ok (.iload_n 2, 1) := by decide +kernel
theorem dX5_rankIfGot_17 : decode cX5_rankIfGot 17 = .ok (.invokevirtual 144, 3) := by decide +kernel
theorem dX5_rankIfGot_20 : decode cX5_rankIfGot 20 = .ok (.invokevirtual 288, 3) := by decide +kernel
theorem dX5_rankIfGot_23 : decode cX5_rankIfGot 23 = .ok (.pop, 1) := by decide +kernel
theorem dX5_rankIfGot_24 : decode cX5_rankIfGot 24 = .ok (.aload_n 0, 1) := by decide +kernel
theorem dX5_rankIfGot_25 : decode cX5_rankIfGot 25 = .ok (.getfield 41, 3) := by decide +kernel
theorem dX5_rankIfGot_28 : decode cX5_rankIfGot 28 = .ok (.aload_n 0, 1) := by decide +kernel
theorem dX5_rankIfGot_29 : decode cX5_rankIfGot 29 = .ok (.getfield 48, 3) := by decide +kernel
theorem dX5_rankIfGot_32 : decode cX5_rankIfGot 32 = .ok (.invokevirtual 269, 3) := by decide +kernel
theorem dX5_rankIfGot_35 : decode cX5_rankIfGot 35 = .ok (.ireturn, 1) := by decide +kernel
set_option maxRecDepth 20000 in
theorem ggX5_nextHelp_X4_mixOf : GoodIn wsX5_nextHelp wsX4_mixOf := goodIn_r _ [6, 7, 8, 9, 10, 11, 12, 13, 14, 5, 15, 16, 17, 18, 19, 20, 21, 22, 23, 47, 48, 49, 50] (by decide +kernel) (by decide +kernel)
set_option maxRecDepth 20000 in
theorem gX5_nextHelp_X4_mixOf : GoodIn wsX5_nextHelp (wsV RX5 144 RX4 yX4_mixOf wsX4_mixOf) := goodIn_app (goodIn_of _ (by decide +kernel)) ggX5_nextHelp_X4_mixOf
set_option maxRecDepth 20000 in
theorem ggX5_nextHelp_X3_leftOf : GoodIn wsX5_nextHelp wsX3_leftOf := goodIn_r _ [28, 29, 16, 17, 18, 51, 52, 53, 54, 55, 56, 57, 58] (by decide +kernel) (by decide +kernel)
set_option maxRecDepth 20000 in
theorem gX5_nextHelp_X3_leftOf : GoodIn wsX5_nextHelp (wsV RX5 291 RX3 yX3_leftOf wsX3_leftOf) := goodIn_app (goodIn_of _ (by decide +kernel)) ggX5_nextHelp_X3_leftOf
set_option maxRecDepth 20000 in
theorem ggX5_nextHelp_X5_blockCountOf : GoodIn wsX5_nextHelp wsX5_blockCountOf := goodIn_r _ [32, 33, 34, 35, 36, 37, 38, 39] (by decide +kernel) (by decide +kernel)
set_option maxRecDepth 20000 in
theorem gX5_nextHelp_X5_blockCountOf : GoodIn wsX5_nextHelp (va_wsS RX5 147 yX5_blockCountOf wsX5_blockCountOf) := goodIn_app (goodIn_of _ (by decide +kernel)) ggX5_nextHelp_X5_blockCountOf
theorem dX5_nextHelp_0 : decode cX5_nextHelp 0 = .ok (.iload_n 2, 1) := by decide +kernel
theorem dX5_nextHelp_1 : decode cX5_nextHelp 1 = .ok (.istore_n 3, 1) := by decide +kernel
theorem dX5_nextHelp_2 : decode cX5_nextHelp 2 = .ok (.iload_n 3, 1) := by decide +kernel
theorem dX5_nextHelp_3 : decode cX5_nextHelp 3 = .ok (.sipush 9999, 3) := by decide +kernel
theorem dX5_nextHelp_6 : decode cX5_nextHelp 6 = .ok (.if_icmp .gt 38, 3) := by decide +kernel
theorem dX5_nextHelp_9 : decode cX5_nextHelp 9 = .ok (.iload_n 3, 1) := by decide +kernel
theorem dX5_nextHelp_10 : decode cX5_nextHelp 10 = .ok (.iload_n 2, 1) := by decide +kernel
theorem dX5_nextHelp_11 : decode cX5_nextHelp 11 = .ok (.bipush 100, 2) := by decide +kernel
theorem dX5_nextHelp_13 : decode cX5_nextHelp 13 = .ok (.iadd, 1) := by decide +kernel
theorem dX5_nextHelp_14 : decode cX5_nextHelp 14 = .ok (.if_icmp .ge 30, 3) := by decide +kernel
theorem dX5_nextHelp_17 : decode cX5_nextHelp 17 = .ok (.aload_n 1, 1) := by decide +kernel
theorem dX5_nextHelp_18 : decode cX5_nextHelp 18 = .ok (.aload_n 0, 1) := by decide +kernel
theorem dX5_nextHelp_19 : decode cX5_nextHelp 19 = .ok (.getfield 12, 3) := by decide +kernel
theorem dX5_nextHelp_22 : decode cX5_nextHelp 22 = .ok (.iload_n 3, 1) := by decide +kernel
theorem dX5_nextHelp_23 : decode cX5_nextHelp 23 = .ok (.invokevirtual 144, 3) := by decide +kernel
theorem dX5_nextHelp_26 : decode cX5_nextHelp 26 = .ok (.invokevirtual 291, 3) := by decide +kernel
theorem dX5_nextHelp_29 : decode cX5_nextHelp 29 = .ok (.invokestatic 147, 3) := by decide +kernel
theorem dX5_nextHelp_32 : decode cX5_nextHelp 32 = .ok (.iconst 1, 1) := by decide +kernel
theorem dX5_nextHelp_33 : decode cX5_nextHelp 33 = .ok (.if_icmp .ne 5, 3) := by decide +kernel
theorem dX5_nextHelp_36 : decode cX5_nextHelp 36 = .ok (.iload_n 3, 1) := by decide +kernel
theorem dX5_nextHelp_37 : decode cX5_nextHelp 37 = .ok (.ireturn, 1) := by decide +kernel
theorem dX5_nextHelp_38 : decode cX5_nextHelp 38 = .ok (.iinc 3 1, 3) := by decide +kernel
theorem dX5_nextHelp_41 : decode cX5_nextHelp 41 = .ok (.goto (-39), 3) := by decide +kernel
theorem dX5_nextHelp_44 : decode cX5_nextHelp 44 = .ok (.iconst (-1), 1) := by decide +kernel
theorem dX5_nextHelp_45 : decode cX5_nextHelp 45 = .ok (.ireturn, 1) := by decide +kernel
set_option maxRecDepth 20000 in
theorem ggX5_mixesNeeded_X3_become : GoodIn wsX5_mixesNeeded wsX3_become := goodIn_r _ [8, 9, 10, 11, 12, 13, 14, 15, 16, 17, 18, 19, 20, 21, 22, 23, 24, 25, 26, 27, 133, 134, 135, 136, 137, 138, 139, 140] (by decide +kernel) (by decide +kernel)
set_option maxRecDepth 20000 in
theorem gX5_mixesNeeded_X3_become : GoodIn wsX5_mixesNeeded (wsV RX5 284 RX3 yX3_become wsX3_become) := goodIn_app (goodIn_of _ (by decide +kernel)) ggX5_mixesNeeded_X3_become
set_option maxRecDepth 20000 in
theorem ggX5_mixesNeeded_X4_isDone : GoodIn wsX5_mixesNeeded wsX4_isDone := goodIn_r _ [32, 33, 34, 35, 36, 7, 37, 10, 38, 39, 40, 41, 42, 43, 44, 141, 142, 143, 144, 133, 134, 135, 136, 137, 138, 139, 140] (by decide +kernel) (by decide +kernel)
set_option maxRecDepth 20000 in
theorem gX5_mixesNeeded_X4_isDone : GoodIn wsX5_mixesNeeded (wsV RX5 265 RX4 yX4_isDone wsX4_isDone) := goodIn_app (goodIn_of _ (by decide +kernel)) ggX5_mixesNeeded_X4_isDone
set_option maxRecDepth 20000 in
theorem ggX5_mixesNeeded_X4_mixOf : GoodIn wsX5_mixesNeeded wsX4_mixOf := goodIn_r _ [48, 33, 49, 21, 22, 23, 50, 51, 52, 31, 53, 54, 18, 55, 56, 57, 58, 59, 60, 141, 142, 143, 144] (by decide +kernel) (by decide +kernel)
set_option maxRecDepth 20000 in
theorem gX5_mixesNeeded_X4_mixOf : GoodIn wsX5_mixesNeeded (wsV RX5 144 RX4 yX4_mixOf wsX4_mixOf) := goodIn_app (goodIn_of _ (by decide +kernel)) ggX5_mixesNeeded_X4_mixOf
set_option maxRecDepth 20000 in
theorem ggX5_mixesNeeded_X3_get : GoodIn wsX5_mixesNeeded wsX3_get := goodIn_r _ [64, 14, 13, 12, 16, 65, 66, 67, 7, 68, 11, 54, 18, 55, 69, 70, 71, 39, 40, 41, 42, 43, 44, 72, 73, 74, 75, 15, 76, 77, 78, 79, 80, 81, 10, 82, 83, 84, 85, 86, 87, 88, 89, 90, 91, 92, 93, 133, 134, 135, 136, 137, 138, 139, 140] (by decide +kernel) (by decide +kernel)
set_option maxRecDepth 20000 in
theorem gX5_mixesNeeded_X3_get : GoodIn wsX5_mixesNeeded (wsV RX5 288 RX3 yX3_get wsX3_get) := goodIn_app (goodIn_of _ (by decide +kernel)) ggX5_mixesNeeded_X3_get
set_option maxRecDepth 20000 in
theorem ggX5_mixesNeeded_X3_findTogether : GoodIn wsX5_mixesNeeded wsX3_findTogether := goodIn_r _ [97, 10, 98, 99, 100, 7, 101, 13, 12, 102, 103, 104, 105, 106, 107, 108, 109, 110, 111, 112, 54, 18, 55, 76, 77, 113, 114, 115, 116, 39, 40, 41, 42, 43, 44, 117, 118, 119, 120, 121, 122, 123, 124, 125, 72, 73, 74, 75, 15, 78, 79, 80, 81, 11, 82, 83, 84, 85, 69, 70, 71, 86, 87, 88, 89, 90, 91, 92, 93, 133, 134, 135, 136, 137, 138, 139, 140, 145, 146] (by decide +kernel) (by decide +kernel)
set_option maxRecDepth 20000 in
theorem gX5_mixesNeeded_X3_findTogether : GoodIn wsX5_mixesNeeded (wsV RX5 105 RX3 yX3_findTogether wsX3_findTogether) := goodIn_app (goodIn_of _ (by decide +kernel)) ggX5_mixesNeeded_X3_findTogether
theorem dX5_mixesNeeded_0 : decode cX5_mixesNeeded 0 = .ok (.aload_n 0, 1) := by decide +kernel
theorem dX5_mixesNeeded_1 : decode cX5_mixesNeeded 1 = .ok (.getfield 41, 3) := by decide +kernel
theorem dX5_mixesNeeded_4 : decode cX5_mixesNeeded 4 = .ok (.aload_n 1, 1) := by decide +kernel
theorem dX5_mixesNeeded_5 : decode cX5_mixesNeeded 5 = .ok (.invokevirtual 284, 3) := by decide +kernel
theorem dX5_mixesNeeded_8 : decode cX5_mixesNeeded 8 = .ok (.iconst 0, 1) := by decide +kernel
theorem dX5_mixesNeeded_9 : decode cX5_mixesNeeded 9 = .ok (.istore 4, 2) := by decide +kernel
theorem dX5_mixesNeeded_11 : decode cX5_mixesNeeded 11 = .ok (.iload 4, 2) := by decide +kernel
theorem dX5_mixesNeeded_13 : decode cX5_mixesNeeded 13 = .ok (.bipush 100, 2) := by decide +kernel
theorem dX5_mixesNeeded_15 : decode cX5_mixesNeeded 15 = .ok (.if_icmp .ge 61, 3) := by decide +kernel
theorem dX5_mixesNeeded_18 : decode cX5_mixesNeeded 18 = .ok (.aload_n 0, 1) := by decide +kernel
theorem dX5_mixesNeeded_19 : decode cX5_mixesNeeded 19 = .ok (.getfield 12, 3) := by decide +kernel
theorem dX5_mixesNeeded_22 : decode cX5_mixesNeeded 22 = .ok (.aload_n 0, 1) := by decide +kernel
theorem dX5_mixesNeeded_23 : decode cX5_mixesNeeded 23 = .ok (.getfield 41, 3) := by decide +kernel
theorem dX5_mixesNeeded_26 : decode cX5_mixesNeeded 26 = .ok (.invokevirtual 265, 3) := by decide +kernel
theorem dX5_mixesNeeded_29 : decode cX5_mixesNeeded 29 = .ok (.ifCond .eq 6, 3) := by decide +kernel
theorem dX5_mixesNeeded_32 : decode cX5_mixesNeeded 32 = .ok (.iload 4, 2) := by decide +kernel
theorem dX5_mixesNeeded_34 : decode cX5_mixesNeeded 34 = .ok (.ireturn, 1) := by decide +kernel
theorem dX5_mixesNeeded_35 : decode cX5_mixesNeeded 35 = .ok (.aload_n 0, 1) := by decide +kernel
theorem dX5_mixesNeeded_36 : decode cX5_mixesNeeded 36 = .ok (.getfield 41, 3) := by decide +kernel
theorem dX5_mixesNeeded_39 : decode cX5_mixesNeeded 39 = .ok (.aload_n 0, 1) := by decide +kernel
theorem dX5_mixesNeeded_40 : decode cX5_mixesNeeded 40 = .ok (.getfield 12, 3) := by decide +kernel
theorem dX5_mixesNeeded_43 : decode cX5_mixesNeeded 43 = .ok (.iload_n 2, 1) := by decide +kernel
theorem dX5_mixesNeeded_44 : decode cX5_mixesNeeded 44 = .ok (.iload 4, 2) := by decide +kernel
theorem dX5_mixesNeeded_46 : decode cX5_mixesNeeded 46 = .ok (.iadd, 1) := by decide +kernel
theorem dX5_mixesNeeded_47 : decode cX5_mixesNeeded 47 = .ok (.invokevirtual 144, 3) := by decide +kernel
theorem dX5_mixesNeeded_50 : decode cX5_mixesNeeded 50 = .ok (.invokevirtual 288, 3) := by decide +kernel
theorem dX5_mixesNeeded_53 : decode cX5_mixesNeeded 53 = .ok (.pop, 1) := by decide +kernel
theorem dX5_mixesNeeded_54 : decode cX5_mixesNeeded 54 = .ok (.iload_n 3, 1) := by decide +kernel
theorem dX5_mixesNeeded_55 : decode cX5_mixesNeeded 55 = .ok (.ifCond .eq 15, 3) := by decide +kernel
theorem dX5_mixesNeeded_58 : decode cX5_mixesNeeded 58 = .ok (.aload_n 0, 1) := by decide +kernel
theorem dX5_mixesNeeded_59 : decode cX5_mixesNeeded 59 = .ok (.getfield 41, 3) := by decide +kernel
theorem dX5_mixesNeeded_62 : decode cX5_mixesNeeded 62 = .ok (.aload_n 0, 1) := by decide +kernel
theorem dX5_mixesNeeded_63 : decode cX5_mixesNeeded 63 = .ok (.getfield 48, 3) := by decide +kernel
theorem dX5_mixesNeeded_66 : decode cX5_mixesNeeded 66 = .ok (.invokevirtual 105, 3) := by decide +kernel
theorem dX5_mixesNeeded_69 : decode cX5_mixesNeeded 69 = .ok (.pop, 1) := by decide +kernel
theorem dX5_mixesNeeded_70 : decode cX5_mixesNeeded 70 = .ok (.iinc 4 1, 3) := by decide +kernel
theorem dX5_mixesNeeded_73 : decode cX5_mixesNeeded 73 = .ok (.goto (-62), 3) := by decide +kernel
theorem dX5_mixesNeeded_76 : decode cX5_mixesNeeded 76 = .ok (.aload_n 0, 1) := by decide +kernel
theorem dX5_mixesNeeded_77 : decode cX5_mixesNeeded 77 = .ok (.getfield 12, 3) := by decide +kernel
theorem dX5_mixesNeeded_80 : decode cX5_mixesNeeded 80 = .ok (.aload_n 0, 1) := by decide +kernel
theorem dX5_mixesNeeded_81 : decode cX5_mixesNeeded 81 = .ok (.getfield 41, 3) := by decide +kernel
theorem dX5_mixesNeeded_84 : decode cX5_mixesNeeded 84 = .ok (.invokevirtual 265, 3) := by decide +kernel
theorem dX5_mixesNeeded_87 : decode cX5_mixesNeeded 87 = .ok (.ifCond .eq 8, 3) := by decide +kernel
theorem dX5_mixesNeeded_90 : decode cX5_mixesNeeded 90 = .ok (.bipush 100, 2) := by decide +kernel
theorem dX5_mixesNeeded_92 : decode cX5_mixesNeeded 92 = .ok (.goto 4, 3) := by decide +kernel
theorem dX5_mixesNeeded_95 : decode cX5_mixesNeeded 95 = .ok (.iconst (-1), 1) := by decide +kernel
theorem dX5_mixesNeeded_96 : decode cX5_mixesNeeded 96 = .ok (.ireturn, 1) := by decide +kernel
set_option maxRecDepth 20000 in
theorem ggX5_foundIfEliminated_X3_become : GoodIn wsX5_foundIfEliminated wsX3_become := goodIn_r _ [7, 8, 9, 10, 11, 12, 13, 14, 15, 16, 17, 18, 19, 20, 21, 22, 23, 24, 25, 26, 99, 100, 101, 102, 103, 104, 105, 106] (by decide +kernel) (by decide +kernel)
set_option maxRecDepth 20000 in
theorem gX5_foundIfEliminated_X3_become : GoodIn wsX5_foundIfEliminated (wsV RX5 284 RX3 yX3_become wsX3_become) := goodIn_app (goodIn_of _ (by decide +kernel)) ggX5_foundIfEliminated_X3_become
set_option maxRecDepth 20000 in
theorem ggX5_foundIfEliminated_X3_findTogether : GoodIn wsX5_foundIfEliminated wsX3_findTogether := goodIn_r _ [30, 9, 31, 32, 33, 6, 34, 12, 11, 35, 36, 37, 38, 39, 40, 41, 42, 43, 44, 45, 46, 17, 47, 48, 49, 50, 51, 52, 53, 54, 55, 56, 57, 58, 59, 60, 61, 62, 63, 64, 65, 66, 67, 68, 69, 70, 71, 72, 14, 73, 74, 75, 76, 10, 77, 78, 79, 80, 81, 82, 83, 84, 85, 86, 87, 88, 89, 90, 91, 99, 100, 101, 102, 103, 104, 105, 106, 107, 108] (by decide +kernel) (by decide +kernel)
set_option maxRecDepth 20000 in
theorem gX5_foundIfEliminated_X3_findTogether : GoodIn wsX5_foundIfEliminated (wsV RX5 105 RX3 yX3_findTogether wsX3_findTogether) := goodIn_app (goodIn_of _ (by decide +kernel)) ggX5_foundIfEliminated_X3_findTogether
theorem dX5_foundIfEliminated_0 : decode cX5_foundIfEliminated 0 = .ok (.aload_n 0, 1) := by decide +kernel
theorem dX5_foundIfEliminated_1 : decode cX5_foundIfEliminated 1 = .ok (.getfield 41, 3) := by decide +kernel
theorem dX5_foundIfEliminated_4 : decode cX5_foundIfEliminated 4 = .ok (.aload_n 1, 1) := by decide +kernel
theorem dX5_foundIfEliminated_5 : decode cX5_foundIfEliminated 5 = .ok (.invokevirtual 284, 3) := by decide +kernel
theorem dX5_foundIfEliminated_8 : decode cX5_foundIfEliminated 8 = .ok (.aload_n 0, 1) := by decide +kernel
theorem dX5_foundIfEliminated_9 : decode cX5_foundIfEliminated 9 = .ok (.getfield 41, 3) := by decide +kernel
theorem dX5_foundIfEliminated_12 : decode cX5_foundIfEliminated 12 = .ok (.aload_n 0, 1) := by decide +kernel
theorem dX5_foundIfEliminated_13 : decode cX5_foundIfEliminated 13 = .ok (.getfield 48, 3) := by decide +kernel
theorem dX5_foundIfEliminated_16 : decode cX5_foundIfEliminated 16 = .ok (.invokevirtual 105, 3) := by decide +kernel
theorem dX5_foundIfEliminated_19 : decode cX5_foundIfEliminated 19 = .ok (.ireturn, 1) := by decide +kernel
