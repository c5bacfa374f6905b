theorem dX0_init_0 : decode cX0_init 0 = .ok (.aload_n 0, 1) := by decide +kernel
theorem dX0_init_1 : decode cX0_init 1 = .ok (.invokespecial 3, 3) := by decide +kernel
theorem dX0_init_4 : decode cX0_init 4 = .ok (.aload_n 0, 1) := by decide +kernel
theorem dX0_init_5 : decode cX0_init 5 = .ok (.bipush 12, 2) := by decide +kernel
theorem dX0_init_7 : decode cX0_init 7 = .ok (.newarray .int, 2) := by decide +kernel
theorem dX0_init_9 : decode cX0_init 9 = .ok (.putfield 9, 3) := by decide +kernel
theorem dX0_init_12 : decode cX0_init 12 = .ok (.aload_n 0, 1) := by decide +kernel
theorem dX0_init_13 : decode cX0_init 13 = .ok (.iconst 0, 1) := by decide +kernel
theorem dX0_init_14 : decode cX0_init 14 = .ok (.putfield 15, 3) := by decide +kernel
theorem dX0_init_17 : decode cX0_init 17 = .ok (.return_, 1) := by decide +kernel
theorem dX0_begin_0 : decode cX0_begin 0 = .ok (.aload_n 0, 1) := by decide +kernel
theorem dX0_begin_1 : decode cX0_begin 1 = .ok (.iconst 0, 1) := by decide +kernel
theorem dX0_begin_2 : decode cX0_begin 2 = .ok (.putfield 15, 3) := by decide +kernel
theorem dX0_begin_5 : decode cX0_begin 5 = .ok (.iconst 0, 1) := by decide +kernel
theorem dX0_begin_6 : decode cX0_begin 6 = .ok (.istore_n 1, 1) := by decide +kernel
theorem dX0_begin_7 : decode cX0_begin 7 = .ok (.iload_n 1, 1) := by decide +kernel
theorem dX0_begin_8 : decode cX0_begin 8 = .ok (.aload_n 0, 1) := by decide +kernel
theorem dX0_begin_9 : decode cX0_begin 9 = .ok (.getfield 9, 3) := by decide +kernel
theorem dX0_begin_12 : decode cX0_begin 12 = .ok (.arraylength, 1) := by decide +kernel
theorem dX0_begin_13 : decode cX0_begin 13 = .ok (.if_icmp .ge 16, 3) := by decide +kernel
theorem dX0_begin_16 : decode cX0_begin 16 = .ok (.aload_n 0, 1) := by decide +kernel
theorem dX0_begin_17 : decode cX0_begin 17 = .ok (.getfield 9, 3) := by decide +kernel
theorem dX0_begin_20 : decode cX0_begin 20 = .ok (.iload_n 1, 1) := by decide +kernel
theorem dX0_begin_21 : decode cX0_begin 21 = .ok (.iconst 0, 1) := by decide +kernel
theorem dX0_begin_22 : decode cX0_begin 22 = .ok (.iastore, 1) := by decide +kernel
theorem dX0_begin_23 : decode cX0_begin 23 = .ok (.iinc 1 1, 3) := by decide +kernel
theorem dX0_begin_26 : decode cX0_begin 26 = .ok (.goto (-19), 3) := by decide +kernel
theorem dX0_begin_29 : decode cX0_begin 29 = .ok (.return_, 1) := by decide +kernel
set_option maxRecDepth 20000 in
theorem ggX0_add_X5_holds : GoodIn wsX0_add wsX5_holds := goodIn_r _ [5] (by decide +kernel) (by decide +kernel)
set_option maxRecDepth 20000 in
theorem gX0_add_X5_holds_n19 : GoodIn wsX0_add (wsX5_holds) := ggX0_add_X5_holds
set_option maxRecDepth 20000 in
theorem ggX0_add_X5_blocksOf : GoodIn wsX0_add wsX5_blocksOf := goodIn_r _ [7] (by decide +kernel) (by decide +kernel)
set_option maxRecDepth 20000 in
theorem gX0_add_X5_blocksOf_n23 : GoodIn wsX0_add (wsX5_blocksOf) := ggX0_add_X5_blocksOf
set_option maxRecDepth 20000 in
theorem ggX0_add_X0_lowestOf : GoodIn wsX0_add wsX0_lowestOf := goodIn_r _ [11, 12, 13, 14, 15, 16, 17, 18] (by decide +kernel) (by decide +kernel)
set_option maxRecDepth 20000 in
theorem gX0_add_X0_lowestOf : GoodIn wsX0_add (va_wsS RX0 27 yX0_lowestOf wsX0_lowestOf) := goodIn_app (goodIn_of _ (by decide +kernel)) ggX0_add_X0_lowestOf
theorem dX0_add_0 : decode cX0_add 0 = .ok (.iload_n 1, 1) := by decide +kernel
theorem dX0_add_1 : decode cX0_add 1 = .ok (.istore_n 2, 1) := by decide +kernel
theorem dX0_add_2 : decode cX0_add 2 = .ok (.iconst 0, 1) := by decide +kernel
theorem dX0_add_3 : decode cX0_add 3 = .ok (.istore_n 3, 1) := by decide +kernel
theorem dX0_add_4 : decode cX0_add 4 = .ok (.iload_n 3, 1) := by decide +kernel
theorem dX0_add_5 : decode cX0_add 5 = .ok (.aload_n 0, 1) := by decide +kernel
theorem dX0_add_6 : decode cX0_add 6 = .ok (.getfield 9, 3) := by decide +kernel
theorem dX0_add_9 : decode cX0_add 9 = .ok (.arraylength, 1) := by decide +kernel
theorem dX0_add_10 : decode cX0_add 10 = .ok (.if_icmp .ge 26, 3) := by decide +kernel
theorem dX0_add_13 : decode cX0_add 13 = .ok (.iload_n 2, 1) := by decide +kernel
theorem dX0_add_14 : decode cX0_add 14 = .ok (.iload_n 3, 1) := by decide +kernel
theorem dX0_add_15 : decode cX0_add 15 = .ok (.invokestatic 19, 3) := by decide +kernel
theorem dX0_add_18 : decode cX0_add 18 = .ok (.ifCond .eq 12, 3) := by decide +kernel
theorem dX0_add_21 : decode cX0_add 21 = .ok (.iload_n 2, 1) := by decide +kernel
theorem dX0_add_22 : decode cX0_add 22 = .ok (.aload_n 0, 1) := by decide +kernel
theorem dX0_add_23 : decode cX0_add 23 = .ok (.getfield 9, 3) := by decide +kernel
theorem dX0_add_26 : decode cX0_add 26 = .ok (.iload_n 3, 1) := by decide +kernel
theorem dX0_add_27 : decode cX0_add 27 = .ok (.iaload, 1) := by decide +kernel
theorem dX0_add_28 : decode cX0_add 28 = .ok (.ixor, 1) := by decide +kernel
theorem dX0_add_29 : decode cX0_add 29 = .ok (.istore_n 2, 1) := by decide +kernel
theorem dX0_add_30 : decode cX0_add 30 = .ok (.iinc 3 1, 3) := by decide +kernel
theorem dX0_add_33 : decode cX0_add 33 = .ok (.goto (-29), 3) := by decide +kernel
theorem dX0_add_36 : decode cX0_add 36 = .ok (.iload_n 2, 1) := by decide +kernel
theorem dX0_add_37 : decode cX0_add 37 = .ok (.invokestatic 23, 3) := by decide +kernel
theorem dX0_add_40 : decode cX0_add 40 = .ok (.ifCond .ne 4, 3) := by decide +kernel
theorem dX0_add_43 : decode cX0_add 43 = .ok (.return_, 1) := by decide +kernel
theorem dX0_add_44 : decode cX0_add 44 = .ok (.iload_n 2, 1) := by decide +kernel
theorem dX0_add_45 : decode cX0_add 45 = .ok (.invokestatic 27, 3) := by decide +kernel
theorem dX0_add_48 : decode cX0_add 48 = .ok (.istore_n 3, 1) := by decide +kernel
theorem dX0_add_49 : decode cX0_add 49 = .ok (.iconst 0, 1) := by decide +kernel
theorem dX0_add_50 : decode cX0_add 50 = .ok (.istore 4, 2) := by decide +kernel
theorem dX0_add_52 : decode cX0_add 52 = .ok (.iload 4, 2) := by decide +kernel
theorem dX0_add_54 : decode cX0_add 54 = .ok (.aload_n 0, 1) := by decide +kernel
theorem dX0_add_55 : decode cX0_add 55 = .ok (.getfield 9, 3) := by decide +kernel
theorem dX0_add_58 : decode cX0_add 58 = .ok (.arraylength, 1) := by decide +kernel
theorem dX0_add_59 : decode cX0_add 59 = .ok (.if_icmp .ge 34, 3) := by decide +kernel
theorem dX0_add_62 : decode cX0_add 62 = .ok (.aload_n 0, 1) := by decide +kernel
theorem dX0_add_63 : decode cX0_add 63 = .ok (.getfield 9, 3) := by decide +kernel
theorem dX0_add_66 : decode cX0_add 66 = .ok (.iload 4, 2) := by decide +kernel
theorem dX0_add_68 : decode cX0_add 68 = .ok (.iaload, 1) := by decide +kernel
theorem dX0_add_69 : decode cX0_add 69 = .ok (.iload_n 3, 1) := by decide +kernel
theorem dX0_add_70 : decode cX0_add 70 = .ok (.invokestatic 19, 3) := by decide +kernel
theorem dX0_add_73 : decode cX0_add 73 = .ok (.ifCond .eq 14, 3) := by decide +kernel
theorem dX0_add_76 : decode cX0_add 76 = .ok (.aload_n 0, 1) := by decide +kernel
theorem dX0_add_77 : decode cX0_add 77 = .ok (.getfield 9, 3) := by decide +kernel
theorem dX0_add_80 : decode cX0_add 80 = .ok (.iload 4, 2) := by decide +kernel
theorem dX0_add_82 : decode cX0_add 82 = .ok (.dup2, 1) := by decide +kernel
theorem dX0_add_83 : decode cX0_add 83 = .ok (.iaload, 1) := by decide +kernel
theorem dX0_add_84 : decode cX0_add 84 = .ok (.iload_n 2, 1) := by decide +kernel
theorem dX0_add_85 : decode cX0_add 85 = .ok (.ixor, 1) := by decide +kernel
theorem dX0_add_86 : decode cX0_add 86 = .ok (.iastore, 1) := by decide +kernel
theorem dX0_add_87 : decode cX0_add 87 = .ok (.iinc 4 1, 3) := by decide +kernel
theorem dX0_add_90 : decode cX0_add 90 = .ok (.goto (-38), 3) := by decide +kernel
theorem dX0_add_93 : decode cX0_add 93 = .ok (.iload_n 3, 1) := by decide +kernel
theorem dX0_add_94 : decode cX0_add 94 = .ok (.ifCond .lt 29, 3) := by decide +kernel
theorem dX0_add_97 : decode cX0_add 97 = .ok (.iload_n 3, 1) := by decide +kernel
theorem dX0_add_98 : decode cX0_add 98 = .ok (.aload_n 0, 1) := by decide +kernel
theorem dX0_add_99 : decode cX0_add 99 = .ok (.getfield 9, 3) := by decide +kernel
theorem dX0_add_102 : decode cX0_add 102 = .ok (.arraylength, 1) := by decide +kernel
theorem dX0_add_103 : decode cX0_add 103 = .ok (.if_icmp .ge 20, 3) := by decide +kernel
theorem dX0_add_106 : decode cX0_add 106 = .ok (.aload_n 0, 1) := by decide +kernel
theorem dX0_add_107 : decode cX0_add 107 = .ok (.getfield 9, 3) := by decide +kernel
theorem dX0_add_110 : decode cX0_add 110 = .ok (.iload_n 3, 1) := by decide +kernel
theorem dX0_add_111 : decode cX0_add 111 = .ok (.iload_n 2, 1) := by decide +kernel
theorem dX0_add_112 : decode cX0_add 112 = .ok (.iastore, 1) := by decide +kernel
theorem dX0_add_113 : decode cX0_add 113 = .ok (.aload_n 0, 1) := by decide +kernel
theorem dX0_add_114 : decode cX0_add 114 = .ok (.dup, 1) := by decide +kernel
theorem dX0_add_115 : decode cX0_add 115 = .ok (.getfield 15, 3) := by decide +kernel
theorem dX0_add_118 : decode cX0_add 118 = .ok (.iconst 1, 1) := by decide +kernel
theorem dX0_add_119 : decode cX0_add 119 = .ok (.iadd, 1) := by decide +kernel
theorem dX0_add_120 : decode cX0_add 120 = .ok (.putfield 15, 3) := by decide +kernel
theorem dX0_add_123 : decode cX0_add 123 = .ok (.return_, 1) := by decide +kernel
set_option maxRecDepth 20000 in
theorem ggX0_lowestOf_J6_bitCount_0f7a4 : GoodIn wsX0_lowestOf wsJ6_bitCount_0f7a4 := goodIn_r _ [4, 5, 6, 7] (by decide +kernel) (by decide +kernel)
set_option maxRecDepth 20000 in
theorem gX0_lowestOf_J6_bitCount_0f7a4 : GoodIn wsX0_lowestOf (va_wsS RX0 30 yJ6_bitCount_0f7a4 wsJ6_bitCount_0f7a4) := goodIn_app (goodIn_of _ (by decide +kernel)) ggX0_lowestOf_J6_bitCount_0f7a4
theorem dX0_lowestOf_0 : decode cX0_lowestOf 0 = .ok (.iload_n 0, 1) := by decide +kernel
theorem dX0_lowestOf_1 : decode cX0_lowestOf 1 = .ok (.iload_n 0, 1) := by decide +kernel
theorem dX0_lowestOf_2 : decode cX0_lowestOf 2 = .ok (.ineg, 1) := by decide +kernel
theorem dX0_lowestOf_3 : decode cX0_lowestOf 3 = .ok (.iand, 1) := by decide +kernel
theorem dX0_lowestOf_4 : decode cX0_lowestOf 4 = .ok (.iconst 1, 1) := by decide +kernel
theorem dX0_lowestOf_5 : decode cX0_lowestOf 5 = .ok (.isub, 1) := by decide +kernel
theorem dX0_lowestOf_6 : decode cX0_lowestOf 6 = .ok (.invokestatic 30, 3) := by decide +kernel
theorem dX0_lowestOf_9 : decode cX0_lowestOf 9 = .ok (.ireturn, 1) := by decide +kernel
theorem dX0_rowOf_0 : decode cX0_rowOf 0 = .ok (.iload_n 1, 1) := by decide +kernel
theorem dX0_rowOf_1 : decode cX0_rowOf 1 = .ok (.ifCond .lt 21, 3) := by decide +kernel
theorem dX0_rowOf_4 : decode cX0_rowOf 4 = .ok (.iload_n 1, 1) := by decide +kernel
theorem dX0_rowOf_5 : decode cX0_rowOf 5 = .ok (.aload_n 0, 1) := by decide +kernel
theorem dX0_rowOf_6 : decode cX0_rowOf 6 = .ok (.getfield 9, 3) := by decide +kernel
theorem dX0_rowOf_9 : decode cX0_rowOf 9 = .ok (.arraylength, 1) := by decide +kernel
theorem dX0_rowOf_10 : decode cX0_rowOf 10 = .ok (.if_icmp .ge 12, 3) := by decide +kernel
theorem dX0_rowOf_13 : decode cX0_rowOf 13 = .ok (.aload_n 0, 1) := by decide +kernel
theorem dX0_rowOf_14 : decode cX0_rowOf 14 = .ok (.getfield 9, 3) := by decide +kernel
theorem dX0_rowOf_17 : decode cX0_rowOf 17 = .ok (.iload_n 1, 1) := by decide +kernel
theorem dX0_rowOf_18 : decode cX0_rowOf 18 = .ok (.iaload, 1) := by decide +kernel
theorem dX0_rowOf_19 : decode cX0_rowOf 19 = .ok (.goto 4, 3) := by decide +kernel
theorem dX0_rowOf_22 : decode cX0_rowOf 22 = .ok (.iconst 0, 1) := by decide +kernel
theorem dX0_rowOf_23 : decode cX0_rowOf 23 = .ok (.ireturn, 1) := by decide +kernel
set_option maxRecDepth 20000 in
theorem ggX0_tells_X0_rowOf : GoodIn wsX0_tells wsX0_rowOf := goodIn_r _ [5, 6, 10, 11] (by decide +kernel) (by decide +kernel)
set_option maxRecDepth 20000 in
theorem gX0_tells_X0_rowOf : GoodIn wsX0_tells (wsV RX0 35 RX0 yX0_rowOf wsX0_rowOf) := goodIn_app (goodIn_of _ (by decide +kernel)) ggX0_tells_X0_rowOf
set_option maxRecDepth 20000 in
theorem ggX0_tells_X5_blocksOf : GoodIn wsX0_tells wsX5_blocksOf := goodIn_r _ [9] (by decide +kernel) (by decide +kernel)
set_option maxRecDepth 20000 in
theorem gX0_tells_X5_blocksOf_n23 : GoodIn wsX0_tells (wsX5_blocksOf) := ggX0_tells_X5_blocksOf
theorem dX0_tells_0 : decode cX0_tells 0 = .ok (.aload_n 0, 1) := by decide +kernel
theorem dX0_tells_1 : decode cX0_tells 1 = .ok (.iload_n 1, 1) := by decide +kernel
theorem dX0_tells_2 : decode cX0_tells 2 = .ok (.invokevirtual 35, 3) := by decide +kernel
theorem dX0_tells_5 : decode cX0_tells 5 = .ok (.invokestatic 23, 3) := by decide +kernel
theorem dX0_tells_8 : decode cX0_tells 8 = .ok (.iconst 1, 1) := by decide +kernel
theorem dX0_tells_9 : decode cX0_tells 9 = .ok (.iload_n 1, 1) := by decide +kernel
theorem dX0_tells_10 : decode cX0_tells 10 = .ok (.ishl, 1) := by decide +kernel
theorem dX0_tells_11 : decode cX0_tells 11 = .ok (.if_icmp .ne 7, 3) := by decide +kernel
theorem dX0_tells_14 : decode cX0_tells 14 = .ok (.iconst 1, 1) := by decide +kernel
theorem dX0_tells_15 : decode cX0_tells 15 = .ok (.goto 4, 3) := by decide +kernel
theorem dX0_tells_18 : decode cX0_tells 18 = .ok (.iconst 0, 1) := by decide +kernel
theorem dX0_tells_19 : decode cX0_tells 19 = .ok (.ireturn, 1) := by decide +kernel
set_option maxRecDepth 20000 in
theorem ggX1_init_X4_init : GoodIn wsX1_init wsX4_init := goodIn_r _ [12, 13, 2, 3, 14, 15, 16, 17, 18, 19, 20, 21, 22, 23, 24, 25, 26, 27, 31, 32, 33, 34, 35, 36, 37, 38, 39, 40, 41, 42] (by decide +kernel) (by decide +kernel)
set_option maxRecDepth 20000 in
theorem gX1_init_X4_init : GoodIn wsX1_init (wsX4_init) := ggX1_init_X4_init
theorem dX1_init_0 : decode cX1_init 0 = .ok (.aload_n 0, 1) := by decide +kernel
theorem dX1_init_1 : decode cX1_init 1 = .ok (.invokespecial 3, 3) := by decide +kernel
theorem dX1_init_4 : decode cX1_init 4 = .ok (.aload_n 0, 1) := by decide +kernel
theorem dX1_init_5 : decode cX1_init 5 = .ok (.bipush 6, 2) := by decide +kernel
theorem dX1_init_7 : decode cX1_init 7 = .ok (.anewarray 9, 3) := by decide +kernel
theorem dX1_init_10 : decode cX1_init 10 = .ok (.putfield 11, 3) := by decide +kernel
theorem dX1_init_13 : decode cX1_init 13 = .ok (.iconst 0, 1) := by decide +kernel
theorem dX1_init_14 : decode cX1_init 14 = .ok (.istore_n 1, 1) := by decide +kernel
theorem dX1_init_15 : decode cX1_init 15 = .ok (.iload_n 1, 1) := by decide +kernel
theorem dX1_init_16 : decode cX1_init 16 = .ok (.aload_n 0, 1) := by decide +kernel
theorem dX1_init_17 : decode cX1_init 17 = .ok (.getfield 11, 3) := by decide +kernel
theorem dX1_init_20 : decode cX1_init 20 = .ok (.arraylength, 1) := by decide +kernel
theorem dX1_init_21 : decode cX1_init 21 = .ok (.if_icmp .ge 22, 3) := by decide +kernel
theorem dX1_init_24 : decode cX1_init 24 = .ok (.aload_n 0, 1) := by decide +kernel
theorem dX1_init_25 : decode cX1_init 25 = .ok (.getfield 11, 3) := by decide +kernel
theorem dX1_init_28 : decode cX1_init 28 = .ok (.iload_n 1, 1) := by decide +kernel
theorem dX1_init_29 : decode cX1_init 29 = .ok (.new 9, 3) := by decide +kernel
theorem dX1_init_32 : decode cX1_init 32 = .ok (.dup, 1) := by decide +kernel
theorem dX1_init_33 : decode cX1_init 33 = .ok (.invokespecial 17, 3) := by decide +kernel
theorem dX1_init_36 : decode cX1_init 36 = .ok (.aastore, 1) := by decide +kernel
theorem dX1_init_37 : decode cX1_init 37 = .ok (.iinc 1 1, 3) := by decide +kernel
theorem dX1_init_40 : decode cX1_init 40 = .ok (.goto (-25), 3) := by decide +kernel
theorem dX1_init_43 : decode cX1_init 43 = .ok (.aload_n 0, 1) := by decide +kernel
theorem dX1_init_44 : decode cX1_init 44 = .ok (.iconst 0, 1) := by decide +kernel
theorem dX1_init_45 : decode cX1_init 45 = .ok (.putfield 18, 3) := by decide +kernel
theorem dX1_init_48 : decode cX1_init 48 = .ok (.aload_n 0, 1) := by decide +kernel
theorem dX1_init_49 : decode cX1_init 49 = .ok (.iconst 0, 1) := by decide +kernel
theorem dX1_init_50 : decode cX1_init 50 = .ok (.putfield 22, 3) := by decide +kernel
theorem dX1_init_53 : decode cX1_init 53 = .ok (.return_, 1) := by decide +kernel
set_option maxRecDepth 20000 in
theorem ggX1_keep_X1_stateAt : GoodIn wsX1_keep wsX1_stateAt := goodIn_r _ [7, 2, 8, 46, 47, 48] (by decide +kernel) (by decide +kernel)
set_option maxRecDepth 20000 in
theorem gX1_keep_X1_stateAt : GoodIn wsX1_keep (wsV RX1 25 RX1 yX1_stateAt wsX1_stateAt) := goodIn_app (goodIn_of _ (by decide +kernel)) ggX1_keep_X1_stateAt
set_option maxRecDepth 20000 in
theorem ggX1_keep_X4_become : GoodIn wsX1_keep wsX4_become := goodIn_r _ [13, 14, 15, 16, 17, 18, 19, 20, 21, 22, 23, 24, 25, 26, 27, 28, 29, 30, 31, 12, 32, 33, 34, 35, 36, 37, 38, 39, 40, 41, 42, 43, 44, 45, 49, 50, 51, 52, 53, 54, 55, 56, 57, 58, 59, 60] (by decide +kernel) (by decide +kernel)
set_option maxRecDepth 20000 in
theorem gX1_keep_X4_become : GoodIn wsX1_keep (wsV RX1 29 RX4 yX4_become wsX4_become) := goodIn_app (goodIn_of _ (by decide +kernel)) ggX1_keep_X4_become
theorem dX1_keep_0 : decode cX1_keep 0 = .ok (.aload_n 0, 1) := by decide +kernel
theorem dX1_keep_1 : decode cX1_keep 1 = .ok (.aload_n 0, 1) := by decide +kernel
theorem dX1_keep_2 : decode cX1_keep 2 = .ok (.getfield 22, 3) := by decide +kernel
theorem dX1_keep_5 : decode cX1_keep 5 = .ok (.invokevirtual 25, 3) := by decide +kernel
theorem dX1_keep_8 : decode cX1_keep 8 = .ok (.astore_n 2, 1) := by decide +kernel
theorem dX1_keep_9 : decode cX1_keep 9 = .ok (.aload_n 2, 1) := by decide +kernel
theorem dX1_keep_10 : decode cX1_keep 10 = .ok (.ifnull 8, 3) := by decide +kernel
theorem dX1_keep_13 : decode cX1_keep 13 = .ok (.aload_n 2, 1) := by decide +kernel
theorem dX1_keep_14 : decode cX1_keep 14 = .ok (.aload_n 1, 1) := by decide +kernel
theorem dX1_keep_15 : decode cX1_keep 15 = .ok (.invokevirtual 29, 3) := by decide +kernel
theorem dX1_keep_18 : decode cX1_keep 18 = .ok (.aload_n 0, 1) := by decide +kernel
theorem dX1_keep_19 : decode cX1_keep 19 = .ok (.getfield 22, 3) := by decide +kernel
theorem dX1_keep_22 : decode cX1_keep 22 = .ok (.bipush 6, 2) := by decide +kernel
theorem dX1_keep_24 : decode cX1_keep 24 = .ok (.if_icmp .ge 16, 3) := by decide +kernel
theorem dX1_keep_27 : decode cX1_keep 27 = .ok (.aload_n 0, 1) := by decide +kernel
theorem dX1_keep_28 : decode cX1_keep 28 = .ok (.dup, 1) := by decide +kernel
theorem dX1_keep_29 : decode cX1_keep 29 = .ok (.getfield 22, 3) := by decide +kernel
theorem dX1_keep_32 : decode cX1_keep 32 = .ok (.iconst 1, 1) := by decide +kernel
theorem dX1_keep_33 : decode cX1_keep 33 = .ok (.iadd, 1) := by decide +kernel
theorem dX1_keep_34 : decode cX1_keep 34 = .ok (.putfield 22, 3) := by decide +kernel
theorem dX1_keep_37 : decode cX1_keep 37 = .ok (.goto 16, 3) := by decide +kernel
theorem dX1_keep_40 : decode cX1_keep 40 = .ok (.aload_n 0, 1) := by decide +kernel
theorem dX1_keep_41 : decode cX1_keep 41 = .ok (.aload_n 0, 1) := by decide +kernel
theorem dX1_keep_42 : decode cX1_keep 42 = .ok (.getfield 18, 3) := by decide +kernel
theorem dX1_keep_45 : decode cX1_keep 45 = .ok (.iconst 1, 1) := by decide +kernel
theorem dX1_keep_46 : decode cX1_keep 46 = .ok (.iadd, 1) := by decide +kernel
theorem dX1_keep_47 : decode cX1_keep 47 = .ok (.bipush 6, 2) := by decide +kernel
theorem dX1_keep_49 : decode cX1_keep 49 = .ok (.irem, 1) := by decide +kernel
theorem dX1_keep_50 : decode cX1_keep 50 = .ok (.putfield 18, 3) := by decide +kernel
theorem dX1_keep_53 : decode cX1_keep 53 = .ok (.return_, 1) := by decide +kernel
set_option maxRecDepth 20000 in
theorem ggX1_giveBack_X1_stateAt : GoodIn wsX1_giveBack wsX1_stateAt := goodIn_r _ [6, 7, 8, 46, 47, 48] (by decide +kernel) (by decide +kernel)
set_option maxRecDepth 20000 in
theorem gX1_giveBack_X1_stateAt : GoodIn wsX1_giveBack (wsV RX1 25 RX1 yX1_stateAt wsX1_stateAt) := goodIn_app (goodIn_of _ (by decide +kernel)) ggX1_giveBack_X1_stateAt
set_option maxRecDepth 20000 in
theorem ggX1_giveBack_X4_become : GoodIn wsX1_giveBack wsX4_become := goodIn_r _ [13, 14, 15, 16, 17, 18, 19, 20, 21, 22, 23, 24, 25, 26, 27, 28, 29, 30, 31, 12, 32, 33, 34, 35, 36, 37, 38, 39, 40, 41, 42, 43, 44, 45, 49, 50, 51, 52, 53, 54, 55, 56, 57, 58, 59, 60] (by decide +kernel) (by decide +kernel)
set_option maxRecDepth 20000 in
theorem gX1_giveBack_X4_become : GoodIn wsX1_giveBack (wsV RX1 29 RX4 yX4_become wsX4_become) := goodIn_app (goodIn_of _ (by decide +kernel)) ggX1_giveBack_X4_become
theorem dX1_giveBack_0 : decode cX1_giveBack 0 = .ok (.aload_n 0, 1) := by decide +kernel
theorem dX1_giveBack_1 : decode cX1_giveBack 1 = .ok (.getfield 22, 3) := by decide +kernel
theorem dX1_giveBack_4 : decode cX1_giveBack 4 = .ok (.ifCond .gt 5, 3) := by decide +kernel
theorem dX1_giveBack_7 : decode cX1_giveBack 7 = .ok (.iconst 0, 1) := by decide +kernel
theorem dX1_giveBack_8 : decode cX1_giveBack 8 = .ok (.ireturn, 1) := by decide +kernel
theorem dX1_giveBack_9 : decode cX1_giveBack 9 = .ok (.aload_n 0, 1) := by decide +kernel
theorem dX1_giveBack_10 : decode cX1_giveBack 10 = .ok (.dup, 1) := by decide +kernel
theorem dX1_giveBack_11 : decode cX1_giveBack 11 = .ok (.getfield 22, 3) := by decide +kernel
theorem dX1_giveBack_14 : decode cX1_giveBack 14 = .ok (.iconst 1, 1) := by decide +kernel
theorem dX1_giveBack_15 : decode cX1_giveBack 15 = .ok (.isub, 1) := by decide +kernel
theorem dX1_giveBack_16 : decode cX1_giveBack 16 = .ok (.putfield 22, 3) := by decide +kernel
theorem dX1_giveBack_19 : decode cX1_giveBack 19 = .ok (.aload_n 1, 1) := by decide +kernel
theorem dX1_giveBack_20 : decode cX1_giveBack 20 = .ok (.aload_n 0, 1) := by decide +kernel
theorem dX1_giveBack_21 : decode cX1_giveBack 21 = .ok (.aload_n 0, 1) := by decide +kernel
theorem dX1_giveBack_22 : decode cX1_giveBack 22 = .ok (.getfield 22, 3) := by decide +kernel
theorem dX1_giveBack_25 : decode cX1_giveBack 25 = .ok (.invokevirtual 25, 3) := by decide +kernel
theorem dX1_giveBack_28 : decode cX1_giveBack 28 = .ok (.invokevirtual 29, 3) := by decide +kernel
theorem dX1_giveBack_31 : decode cX1_giveBack 31 = .ok (.iconst 1, 1) := by decide +kernel
theorem dX1_giveBack_32 : decode cX1_giveBack 32 = .ok (.ireturn, 1) := by decide +kernel
theorem dX1_stateAt_0 : decode cX1_stateAt 0 = .ok (.aload_n 0, 1) := by decide +kernel
theorem dX1_stateAt_1 : decode cX1_stateAt 1 = .ok (.getfield 18, 3) := by decide +kernel
theorem dX1_stateAt_4 : decode cX1_stateAt 4 = .ok (.iload_n 1, 1) := by decide +kernel
theorem dX1_stateAt_5 : decode cX1_stateAt 5 = .ok (.iadd, 1) := by decide +kernel
theorem dX1_stateAt_6 : decode cX1_stateAt 6 = .ok (.bipush 6, 2) := by decide +kernel
theorem dX1_stateAt_8 : decode cX1_stateAt 8 = .ok (.irem, 1) := by decide +kernel
theorem dX1_stateAt_9 : decode cX1_stateAt 9 = .ok (.istore_n 2, 1) := by decide +kernel
theorem dX1_stateAt_10 : decode cX1_stateAt 10 = .ok (.iload_n 2, 1) := by decide +kernel
theorem dX1_stateAt_11 : decode cX1_stateAt 11 = .ok (.ifCond .lt 21, 3) := by decide +kernel
theorem dX1_stateAt_14 : decode cX1_stateAt 14 = .ok (.iload_n 2, 1) := by decide +kernel
theorem dX1_stateAt_15 : decode cX1_stateAt 15 = .ok (.aload_n 0, 1) := by decide +kernel
theorem dX1_stateAt_16 : decode cX1_stateAt 16 = .ok (.getfield 11, 3) := by decide +kernel
theorem dX1_stateAt_19 : decode cX1_stateAt 19 = .ok (.arraylength, 1) := by decide +kernel
theorem dX1_stateAt_20 : decode cX1_stateAt 20 = .ok (.if_icmp .ge 12, 3) := by decide +kernel
theorem dX1_stateAt_23 : decode cX1_stateAt 23 = .ok (.aload_n 0, 1) := by decide +kernel
theorem dX1_stateAt_24 : decode cX1_stateAt 24 = .ok (.getfield 11, 3) := by decide +kernel
theorem dX1_stateAt_27 : decode cX1_stateAt 27 = .ok (.iload_n 2, 1) := by decide +kernel
theorem dX1_stateAt_28 : decode cX1_stateAt 28 = .ok (.aaload, 1) := by decide +kernel
theorem dX1_stateAt_29 : decode cX1_stateAt 29 = .ok (.goto 4, 3) := by decide +kernel
theorem dX1_stateAt_32 : decode cX1_stateAt 32 = .ok (.aconst_null, 1) := by decide +kernel
theorem dX1_stateAt_33 : decode cX1_stateAt 33 = .ok (.areturn, 1) := by decide +kernel
theorem dX2_init_0 : decode cX2_init 0 = .ok (.aload_n 0, 1) := by decide +kernel
theorem dX2_init_1 : decode cX2_init 1 = .ok (.invokespecial 3, 3) := by decide +kernel
theorem dX2_init_4 : decode cX2_init 4 = .ok (.aload_n 0, 1) := by decide +kernel
theorem dX2_init_5 : decode cX2_init 5 = .ok (.iconst (-1), 1) := by decide +kernel
theorem dX2_init_6 : decode cX2_init 6 = .ok (.putfield 9, 3) := by decide +kernel
theorem dX2_init_9 : decode cX2_init 9 = .ok (.aload_n 0, 1) := by decide +kernel
theorem dX2_init_10 : decode cX2_init 10 = .ok (.iconst 0, 1) := by decide +kernel
theorem dX2_init_11 : decode cX2_init 11 = .ok (.putfield 15, 3) := by decide +kernel
theorem dX2_init_14 : decode cX2_init 14 = .ok (.aload_n 0, 1) := by decide +kernel
theorem dX2_init_15 : decode cX2_init 15 = .ok (.iconst 0, 1) := by decide +kernel
theorem dX2_init_16 : decode cX2_init 16 = .ok (.putfield 18, 3) := by decide +kernel
theorem dX2_init_19 : decode cX2_init 19 = .ok (.return_, 1) := by decide +kernel
theorem dX3_init_0 : decode cX3_init 0 = .ok (.aload_n 0, 1) := by decide +kernel
theorem dX3_init_1 : decode cX3_init 1 = .ok (.invokespecial 3, 3) := by decide +kernel
theorem dX3_init_4 : decode cX3_init 4 = .ok (.aload_n 0, 1) := by decide +kernel
theorem dX3_init_5 : decode cX3_init 5 = .ok (.bipush 12, 2) := by decide +kernel
theorem dX3_init_7 : decode cX3_init 7 = .ok (.newarray .int, 2) := by decide +kernel
theorem dX3_init_9 : decode cX3_init 9 = .ok (.putfield 9, 3) := by decide +kernel
theorem dX3_init_12 : decode cX3_init 12 = .ok (.aload_n 0, 1) := by decide +kernel
theorem dX3_init_13 : decode cX3_init 13 = .ok (.bipush 24, 2) := by decide +kernel
theorem dX3_init_15 : decode cX3_init 15 = .ok (.newarray .int, 2) := by decide +kernel
theorem dX3_init_17 : decode cX3_init 17 = .ok (.putfield 15, 3) := by decide +kernel
theorem dX3_init_20 : decode cX3_init 20 = .ok (.return_, 1) := by decide +kernel
set_option maxRecDepth 20000 in
theorem ggX3_become_X5_copyRow : GoodIn wsX3_become wsX5_copyRow := goodIn_r _ [11, 12, 13, 14, 15, 16, 17, 18, 19] (by decide +kernel) (by decide +kernel)
set_option maxRecDepth 20000 in
theorem gX3_become_X5_copyRow_n26 : GoodIn wsX3_become (wsX5_copyRow) := ggX3_become_X5_copyRow
theorem dX3_become_0 : decode cX3_become 0 = .ok (.aload_n 1, 1) := by decide +kernel
theorem dX3_become_1 : decode cX3_become 1 = .ok (.ifnonnull 4, 3) := by decide +kernel
theorem dX3_become_4 : decode cX3_become 4 = .ok (.return_, 1) := by decide +kernel
theorem dX3_become_5 : decode cX3_become 5 = .ok (.aload_n 0, 1) := by decide +kernel
theorem dX3_become_6 : decode cX3_become 6 = .ok (.aload_n 1, 1) := by decide +kernel
theorem dX3_become_7 : decode cX3_become 7 = .ok (.getfield 18, 3) := by decide +kernel
theorem dX3_become_10 : decode cX3_become 10 = .ok (.putfield 18, 3) := by decide +kernel
theorem dX3_become_13 : decode cX3_become 13 = .ok (.aload_n 0, 1) := by decide +kernel
theorem dX3_become_14 : decode cX3_become 14 = .ok (.aload_n 1, 1) := by decide +kernel
theorem dX3_become_15 : decode cX3_become 15 = .ok (.getfield 22, 3) := by decide +kernel
theorem dX3_become_18 : decode cX3_become 18 = .ok (.putfield 22, 3) := by decide +kernel
theorem dX3_become_21 : decode cX3_become 21 = .ok (.aload_n 1, 1) := by decide +kernel
theorem dX3_become_22 : decode cX3_become 22 = .ok (.getfield 9, 3) := by decide +kernel
theorem dX3_become_25 : decode cX3_become 25 = .ok (.aload_n 0, 1) := by decide +kernel
theorem dX3_become_26 : decode cX3_become 26 = .ok (.getfield 9, 3) := by decide +kernel
theorem dX3_become_29 : decode cX3_become 29 = .ok (.invokestatic 26, 3) := by decide +kernel
theorem dX3_become_32 : decode cX3_become 32 = .ok (.aload_n 1, 1) := by decide +kernel
theorem dX3_become_33 : decode cX3_become 33 = .ok (.getfield 15, 3) := by decide +kernel
theorem dX3_become_36 : decode cX3_become 36 = .ok (.aload_n 0, 1) := by decide +kernel
theorem dX3_become_37 : decode cX3_become 37 = .ok (.getfield 15, 3) := by decide +kernel
theorem dX3_become_40 : decode cX3_become 40 = .ok (.invokestatic 26, 3) := by decide +kernel
theorem dX3_become_43 : decode cX3_become 43 = .ok (.aload_n 0, 1) := by decide +kernel
theorem dX3_become_44 : decode cX3_become 44 = .ok (.aload_n 1, 1) := by decide +kernel
theorem dX3_become_45 : decode cX3_become 45 = .ok (.getfield 30, 3) := by decide +kernel
theorem dX3_become_48 : decode cX3_become 48 = .ok (.putfield 30, 3) := by decide +kernel
theorem dX3_become_51 : decode cX3_become 51 = .ok (.aload_n 0, 1) := by decide +kernel
theorem dX3_become_52 : decode cX3_become 52 = .ok (.aload_n 1, 1) := by decide +kernel
theorem dX3_become_53 : decode cX3_become 53 = .ok (.getfield 33, 3) := by decide +kernel
theorem dX3_become_56 : decode cX3_become 56 = .ok (.putfield 33, 3) := by decide +kernel
theorem dX3_become_59 : decode cX3_become 59 = .ok (.aload_n 0, 1) := by decide +kernel
theorem dX3_become_60 : decode cX3_become 60 = .ok (.aload_n 1, 1) := by decide +kernel
theorem dX3_become_61 : decode cX3_become 61 = .ok (.getfield 36, 3) := by decide +kernel
theorem dX3_become_64 : decode cX3_become 64 = .ok (.putfield 36, 3) := by decide +kernel
theorem dX3_become_67 : decode cX3_become 67 = .ok (.aload_n 0, 1) := by decide +kernel
theorem dX3_become_68 : decode cX3_become 68 = .ok (.aload_n 1, 1) := by decide +kernel
theorem dX3_become_69 : decode cX3_become 69 = .ok (.getfield 39, 3) := by decide +kernel
theorem dX3_become_72 : decode cX3_become 72 = .ok (.putfield 39, 3) := by decide +kernel
theorem dX3_become_75 : decode cX3_become 75 = .ok (.return_, 1) := by decide +kernel
theorem dX3_forgetAll_0 : decode cX3_forgetAll 0 = .ok (.aload_n 0, 1) := by decide +kernel
theorem dX3_forgetAll_1 : decode cX3_forgetAll 1 = .ok (.iconst 0, 1) := by decide +kernel
theorem dX3_forgetAll_2 : decode cX3_forgetAll 2 = .ok (.putfield 22, 3) := by decide +kernel
theorem dX3_forgetAll_5 : decode cX3_forgetAll 5 = .ok (.aload_n 0, 1) := by decide +kernel
theorem dX3_forgetAll_6 : decode cX3_forgetAll 6 = .ok (.iconst 0, 1) := by decide +kernel
theorem dX3_forgetAll_7 : decode cX3_forgetAll 7 = .ok (.putfield 30, 3) := by decide +kernel
theorem dX3_forgetAll_10 : decode cX3_forgetAll 10 = .ok (.iconst 0, 1) := by decide +kernel
theorem dX3_forgetAll_11 : decode cX3_forgetAll 11 = .ok (.istore_n 1, 1) := by decide +kernel
theorem dX3_forgetAll_12 : decode cX3_forgetAll 12 = .ok (.iload_n 1, 1) := by decide +kernel
theorem dX3_forgetAll_13 : decode cX3_forgetAll 13 = .ok (.aload_n 0, 1) := by decide +kernel
theorem dX3_forgetAll_14 : decode cX3_forgetAll 14 = .ok (.getfield 9, 3) := by decide +kernel
theorem dX3_forgetAll_17 : decode cX3_forgetAll 17 = .ok (.arraylength, 1) := by decide +kernel
theorem dX3_forgetAll_18 : decode cX3_forgetAll 18 = .ok (.if_icmp .ge 16, 3) := by decide +kernel
theorem dX3_forgetAll_21 : decode cX3_forgetAll 21 = .ok (.aload_n 0, 1) := by decide +kernel
theorem dX3_forgetAll_22 : decode cX3_forgetAll 22 = .ok (.getfield 9, 3) := by decide +kernel
theorem dX3_forgetAll_25 : decode cX3_forgetAll 25 = .ok (.iload_n 1, 1) := by decide +kernel
theorem dX3_forgetAll_26 : decode cX3_forgetAll 26 = .ok (.iconst 0, 1) := by decide +kernel
theorem dX3_forgetAll_27 : decode cX3_forgetAll 27 = .ok (.iastore, 1) := by decide +kernel
theorem dX3_forgetAll_28 : decode cX3_forgetAll 28 = .ok (.iinc 1 1, 3) := by decide +kernel
theorem dX3_forgetAll_31 : decode cX3_forgetAll 31 = .ok (.goto (-19), 3) := by decide +kernel
theorem dX3_forgetAll_34 : decode cX3_forgetAll 34 = .ok (.return_, 1) := by decide +kernel
set_option maxRecDepth 20000 in
theorem ggX3_knows_J6_bitCount_0f7a4 : GoodIn wsX3_knows wsJ6_bitCount_0f7a4 := goodIn_r _ [5, 6, 7, 8] (by decide +kernel) (by decide +kernel)
set_option maxRecDepth 20000 in
theorem gX3_knows_J6_bitCount_0f7a4 : GoodIn wsX3_knows (va_wsS RX3 42 yJ6_bitCount_0f7a4 wsJ6_bitCount_0f7a4) := goodIn_app (goodIn_of _ (by decide +kernel)) ggX3_knows_J6_bitCount_0f7a4
theorem dX3_knows_0 : decode cX3_knows 0 = .ok (.aload_n 0, 1) := by decide +kernel
theorem dX3_knows_1 : decode cX3_knows 1 = .ok (.getfield 22, 3) := by decide +kernel
theorem dX3_knows_4 : decode cX3_knows 4 = .ok (.invokestatic 42, 3) := by decide +kernel
theorem dX3_knows_7 : decode cX3_knows 7 = .ok (.ireturn, 1) := by decide +kernel
set_option maxRecDepth 20000 in
theorem ggX3_valueKnown_X5_holds : GoodIn wsX3_valueKnown wsX5_holds := goodIn_r _ [5] (by decide +kernel) (by decide +kernel)
set_option maxRecDepth 20000 in
theorem gX3_valueKnown_X5_holds_n48 : GoodIn wsX3_valueKnown (wsX5_holds) := ggX3_valueKnown_X5_holds
set_option maxRecDepth 20000 in
theorem ggX3_valueKnown_X5_valueOf : GoodIn wsX3_valueKnown wsX5_valueOf := goodIn_r _ [7] (by decide +kernel) (by decide +kernel)
set_option maxRecDepth 20000 in
theorem gX3_valueKnown_X5_valueOf_n52 : GoodIn wsX3_valueKnown (wsX5_valueOf) := ggX3_valueKnown_X5_valueOf
theorem dX3_valueKnown_0 : decode cX3_valueKnown 0 = .ok (.iload_n 1, 1) := by decide +kernel
theorem dX3_valueKnown_1 : decode cX3_valueKnown 1 = .ok (.ifCond .lt 23, 3) := by decide +kernel
theorem dX3_valueKnown_4 : decode cX3_valueKnown 4 = .ok (.iload_n 1, 1) := by decide +kernel
theorem dX3_valueKnown_5 : decode cX3_valueKnown 5 = .ok (.aload_n 0, 1) := by decide +kernel
theorem dX3_valueKnown_6 : decode cX3_valueKnown 6 = .ok (.getfield 9, 3) := by decide +kernel
theorem dX3_valueKnown_9 : decode cX3_valueKnown 9 = .ok (.arraylength, 1) := by decide +kernel
theorem dX3_valueKnown_10 : decode cX3_valueKnown 10 = .ok (.if_icmp .ge 14, 3) := by decide +kernel
theorem dX3_valueKnown_13 : decode cX3_valueKnown 13 = .ok (.aload_n 0, 1) := by decide +kernel
theorem dX3_valueKnown_14 : decode cX3_valueKnown 14 = .ok (.getfield 22, 3) := by decide +kernel
theorem dX3_valueKnown_17 : decode cX3_valueKnown 17 = .ok (.iload_n 1, 1) := by decide +kernel
theorem dX3_valueKnown_18 : decode cX3_valueKnown 18 = .ok (.invokestatic 48, 3) := by decide +kernel
theorem dX3_valueKnown_21 : decode cX3_valueKnown 21 = .ok (.ifCond .ne 5, 3) := by decide +kernel
theorem dX3_valueKnown_24 : decode cX3_valueKnown 24 = .ok (.iconst (-1), 1) := by decide +kernel
theorem dX3_valueKnown_25 : decode cX3_valueKnown 25 = .ok (.ireturn, 1) := by decide +kernel
theorem dX3_valueKnown_26 : decode cX3_valueKnown 26 = .ok (.aload_n 0, 1) := by decide +kernel
theorem dX3_valueKnown_27 : decode cX3_valueKnown 27 = .ok (.getfield 9, 3) := by decide +kernel
theorem dX3_valueKnown_30 : decode cX3_valueKnown 30 = .ok (.iload_n 1, 1) := by decide +kernel
theorem dX3_valueKnown_31 : decode cX3_valueKnown 31 = .ok (.iaload, 1) := by decide +kernel
theorem dX3_valueKnown_32 : decode cX3_valueKnown 32 = .ok (.invokestatic 52, 3) := by decide +kernel
theorem dX3_valueKnown_35 : decode cX3_valueKnown 35 = .ok (.ireturn, 1) := by decide +kernel
theorem dX3_waitingAt_0 : decode cX3_waitingAt 0 = .ok (.iload_n 1, 1) := by decide +kernel
theorem dX3_waitingAt_1 : decode cX3_waitingAt 1 = .ok (.ifCond .lt 21, 3) := by decide +kernel
theorem dX3_waitingAt_4 : decode cX3_waitingAt 4 = .ok (.iload_n 1, 1) := by decide +kernel
theorem dX3_waitingAt_5 : decode cX3_waitingAt 5 = .ok (.aload_n 0, 1) := by decide +kernel
theorem dX3_waitingAt_6 : decode cX3_waitingAt 6 = .ok (.getfield 15, 3) := by decide +kernel
theorem dX3_waitingAt_9 : decode cX3_waitingAt 9 = .ok (.arraylength, 1) := by decide +kernel
theorem dX3_waitingAt_10 : decode cX3_waitingAt 10 = .ok (.if_icmp .ge 12, 3) := by decide +kernel
theorem dX3_waitingAt_13 : decode cX3_waitingAt 13 = .ok (.aload_n 0, 1) := by decide +kernel
theorem dX3_waitingAt_14 : decode cX3_waitingAt 14 = .ok (.getfield 15, 3) := by decide +kernel
theorem dX3_waitingAt_17 : decode cX3_waitingAt 17 = .ok (.iload_n 1, 1) := by decide +kernel
theorem dX3_waitingAt_18 : decode cX3_waitingAt 18 = .ok (.iaload, 1) := by decide +kernel
theorem dX3_waitingAt_19 : decode cX3_waitingAt 19 = .ok (.goto 4, 3) := by decide +kernel
theorem dX3_waitingAt_22 : decode cX3_waitingAt 22 = .ok (.iconst 0, 1) := by decide +kernel
theorem dX3_waitingAt_23 : decode cX3_waitingAt 23 = .ok (.ireturn, 1) := by decide +kernel
set_option maxRecDepth 20000 in
theorem ggX3_leftOf_X5_holds : GoodIn wsX3_leftOf wsX5_holds := goodIn_r _ [4] (by decide +kernel) (by decide +kernel)
set_option maxRecDepth 20000 in
theorem gX3_leftOf_X5_holds_n48 : GoodIn wsX3_leftOf (wsX5_holds) := ggX3_leftOf_X5_holds
theorem dX3_leftOf_0 : decode cX3_leftOf 0 = .ok (.iload_n 1, 1) := by decide +kernel
theorem dX3_leftOf_1 : decode cX3_leftOf 1 = .ok (.istore_n 2, 1) := by decide +kernel
theorem dX3_leftOf_2 : decode cX3_leftOf 2 = .ok (.iconst 0, 1) := by decide +kernel
theorem dX3_leftOf_3 : decode cX3_leftOf 3 = .ok (.istore_n 3, 1) := by decide +kernel
theorem dX3_leftOf_4 : decode cX3_leftOf 4 = .ok (.iload_n 3, 1) := by decide +kernel
theorem dX3_leftOf_5 : decode cX3_leftOf 5 = .ok (.aload_n 0, 1) := by decide +kernel
theorem dX3_leftOf_6 : decode cX3_leftOf 6 = .ok (.getfield 9, 3) := by decide +kernel
theorem dX3_leftOf_9 : decode cX3_leftOf 9 = .ok (.arraylength, 1) := by decide +kernel
theorem dX3_leftOf_10 : decode cX3_leftOf 10 = .ok (.if_icmp .ge 26, 3) := by decide +kernel
theorem dX3_leftOf_13 : decode cX3_leftOf 13 = .ok (.iload_n 2, 1) := by decide +kernel
theorem dX3_leftOf_14 : decode cX3_leftOf 14 = .ok (.iload_n 3, 1) := by decide +kernel
theorem dX3_leftOf_15 : decode cX3_leftOf 15 = .ok (.invokestatic 48, 3) := by decide +kernel
theorem dX3_leftOf_18 : decode cX3_leftOf 18 = .ok (.ifCond .eq 12, 3) := by decide +kernel
theorem dX3_leftOf_21 : decode cX3_leftOf 21 = .ok (.iload_n 2, 1) := by decide +kernel
theorem dX3_leftOf_22 : decode cX3_leftOf 22 = .ok (.aload_n 0, 1) := by decide +kernel
theorem dX3_leftOf_23 : decode cX3_leftOf 23 = .ok (.getfield 9, 3) := by decide +kernel
theorem dX3_leftOf_26 : decode cX3_leftOf 26 = .ok (.iload_n 3, 1) := by decide +kernel
theorem dX3_leftOf_27 : decode cX3_leftOf 27 = .ok (.iaload, 1) := by decide +kernel
theorem dX3_leftOf_28 : decode cX3_leftOf 28 = .ok (.ixor, 1) := by decide +kernel
theorem dX3_leftOf_29 : decode cX3_leftOf 29 = .ok (.istore_n 2, 1) := by decide +kernel
theorem dX3_leftOf_30 : decode cX3_leftOf 30 = .ok (.iinc 3 1, 3) := by decide +kernel
theorem dX3_leftOf_33 : decode cX3_leftOf 33 = .ok (.goto (-29), 3) := by decide +kernel
theorem dX3_leftOf_36 : decode cX3_leftOf 36 = .ok (.iload_n 2, 1) := by decide +kernel
theorem dX3_leftOf_37 : decode cX3_leftOf 37 = .ok (.ireturn, 1) := by decide +kernel
set_option maxRecDepth 20000 in
theorem ggX3_get_X3_leftOf : GoodIn wsX3_get wsX3_leftOf := goodIn_r _ [9, 10, 11, 12, 13, 47, 48, 49, 50, 51, 52, 53, 54] (by decide +kernel) (by decide +kernel)
set_option maxRecDepth 20000 in
theorem gX3_get_X3_leftOf : GoodIn wsX3_get (wsV RX3 55 RX3 yX3_leftOf wsX3_leftOf) := goodIn_app (goodIn_of _ (by decide +kernel)) ggX3_get_X3_leftOf
set_option maxRecDepth 20000 in
theorem ggX3_get_X5_blockCountOf : GoodIn wsX3_get wsX5_blockCountOf := goodIn_r _ [15, 16, 17, 18, 19, 20, 21, 22] (by decide +kernel) (by decide +kernel)
set_option maxRecDepth 20000 in
theorem gX3_get_X5_blockCountOf_n58 : GoodIn wsX3_get (wsX5_blockCountOf) := ggX3_get_X5_blockCountOf
set_option maxRecDepth 20000 in
theorem ggX3_get_X3_peelFrom : GoodIn wsX3_get wsX3_peelFrom := goodIn_r _ [26, 27, 28, 12, 29, 30, 31, 32, 8, 33, 34, 10, 2, 3, 11, 13, 35, 36, 37, 38, 14, 15, 16, 17, 18, 19, 20, 21, 22, 39, 40, 41, 42, 43, 44, 45, 46, 47, 48, 49, 50, 51, 52, 53, 54] (by decide +kernel) (by decide +kernel)
set_option maxRecDepth 20000 in
theorem gX3_get_X3_peelFrom : GoodIn wsX3_get (wsV RX3 61 RX3 yX3_peelFrom wsX3_peelFrom) := goodIn_app (goodIn_of _ (by decide +kernel)) ggX3_get_X3_peelFrom
theorem dX3_get_0 : decode cX3_get 0 = .ok (.aload_n 0, 1) := by decide +kernel
theorem dX3_get_1 : decode cX3_get 1 = .ok (.dup, 1) := by decide +kernel
theorem dX3_get_2 : decode cX3_get 2 = .ok (.getfield 33, 3) := by decide +kernel
theorem dX3_get_5 : decode cX3_get 5 = .ok (.iconst 1, 1) := by decide +kernel
theorem dX3_get_6 : decode cX3_get 6 = .ok (.iadd, 1) := by decide +kernel
theorem dX3_get_7 : decode cX3_get 7 = .ok (.putfield 33, 3) := by decide +kernel
theorem dX3_get_10 : decode cX3_get 10 = .ok (.aload_n 0, 1) := by decide +kernel
theorem dX3_get_11 : decode cX3_get 11 = .ok (.iload_n 1, 1) := by decide +kernel
theorem dX3_get_12 : decode cX3_get 12 = .ok (.invokevirtual 55, 3) := by decide +kernel
theorem dX3_get_15 : decode cX3_get 15 = .ok (.istore_n 2, 1) := by decide +kernel
theorem dX3_get_16 : decode cX3_get 16 = .ok (.iload_n 2, 1) := by decide +kernel
theorem dX3_get_17 : decode cX3_get 17 = .ok (.invokestatic 58, 3) := by decide +kernel
theorem dX3_get_20 : decode cX3_get 20 = .ok (.istore_n 3, 1) := by decide +kernel
theorem dX3_get_21 : decode cX3_get 21 = .ok (.iload_n 3, 1) := by decide +kernel
theorem dX3_get_22 : decode cX3_get 22 = .ok (.iconst 2, 1) := by decide +kernel
theorem dX3_get_23 : decode cX3_get 23 = .ok (.if_icmp .ge 9, 3) := by decide +kernel
theorem dX3_get_26 : decode cX3_get 26 = .ok (.aload_n 0, 1) := by decide +kernel
theorem dX3_get_27 : decode cX3_get 27 = .ok (.iload_n 2, 1) := by decide +kernel
theorem dX3_get_28 : decode cX3_get 28 = .ok (.invokevirtual 61, 3) := by decide +kernel
theorem dX3_get_31 : decode cX3_get 31 = .ok (.ireturn, 1) := by decide +kernel
theorem dX3_get_32 : decode cX3_get 32 = .ok (.aload_n 0, 1) := by decide +kernel
theorem dX3_get_33 : decode cX3_get 33 = .ok (.getfield 30, 3) := by decide +kernel
theorem dX3_get_36 : decode cX3_get 36 = .ok (.ifCond .lt 38, 3) := by decide +kernel
theorem dX3_get_39 : decode cX3_get 39 = .ok (.aload_n 0, 1) := by decide +kernel
theorem dX3_get_40 : decode cX3_get 40 = .ok (.getfield 30, 3) := by decide +kernel
theorem dX3_get_43 : decode cX3_get 43 = .ok (.aload_n 0, 1) := by decide +kernel
theorem dX3_get_44 : decode cX3_get 44 = .ok (.getfield 15, 3) := by decide +kernel
theorem dX3_get_47 : decode cX3_get 47 = .ok (.arraylength, 1) := by decide +kernel
theorem dX3_get_48 : decode cX3_get 48 = .ok (.if_icmp .ge 26, 3) := by decide +kernel
theorem dX3_get_51 : decode cX3_get 51 = .ok (.aload_n 0, 1) := by decide +kernel
theorem dX3_get_52 : decode cX3_get 52 = .ok (.getfield 15, 3) := by decide +kernel
theorem dX3_get_55 : decode cX3_get 55 = .ok (.aload_n 0, 1) := by decide +kernel
theorem dX3_get_56 : decode cX3_get 56 = .ok (.getfield 30, 3) := by decide +kernel
theorem dX3_get_59 : decode cX3_get 59 = .ok (.iload_n 2, 1) := by decide +kernel
theorem dX3_get_60 : decode cX3_get 60 = .ok (.iastore, 1) := by decide +kernel
theorem dX3_get_61 : decode cX3_get 61 = .ok (.aload_n 0, 1) := by decide +kernel
theorem dX3_get_62 : decode cX3_get 62 = .ok (.dup, 1) := by decide +kernel
theorem dX3_get_63 : decode cX3_get 63 = .ok (.getfield 30, 3) := by decide +kernel
theorem dX3_get_66 : decode cX3_get 66 = .ok (.iconst 1, 1) := by decide +kernel
theorem dX3_get_67 : decode cX3_get 67 = .ok (.iadd, 1) := by decide +kernel
theorem dX3_get_68 : decode cX3_get 68 = .ok (.putfield 30, 3) := by decide +kernel
theorem dX3_get_71 : decode cX3_get 71 = .ok (.goto 13, 3) := by decide +kernel
theorem dX3_get_74 : decode cX3_get 74 = .ok (.aload_n 0, 1) := by decide +kernel
theorem dX3_get_75 : decode cX3_get 75 = .ok (.dup, 1) := by decide +kernel
theorem dX3_get_76 : decode cX3_get 76 = .ok (.getfield 39, 3) := by decide +kernel
theorem dX3_get_79 : decode cX3_get 79 = .ok (.iconst 1, 1) := by decide +kernel
theorem dX3_get_80 : decode cX3_get 80 = .ok (.iadd, 1) := by decide +kernel
theorem dX3_get_81 : decode cX3_get 81 = .ok (.putfield 39, 3) := by decide +kernel
theorem dX3_get_84 : decode cX3_get 84 = .ok (.iconst 0, 1) := by decide +kernel
theorem dX3_get_85 : decode cX3_get 85 = .ok (.ireturn, 1) := by decide +kernel
set_option maxRecDepth 20000 in
theorem ggX3_peelFrom_X5_blocksOf : GoodIn wsX3_peelFrom wsX5_blocksOf := goodIn_r _ [4] (by decide +kernel) (by decide +kernel)
set_option maxRecDepth 20000 in
theorem gX3_peelFrom_X5_blocksOf_n64 : GoodIn wsX3_peelFrom (wsX5_blocksOf) := ggX3_peelFrom_X5_blocksOf
set_option maxRecDepth 20000 in
theorem ggX3_peelFrom_X3_learn : GoodIn wsX3_peelFrom wsX3_learn := goodIn_r _ [9, 10, 11, 12, 13, 2, 3, 4, 14, 15, 37, 38, 39, 40, 41, 42, 43, 44] (by decide +kernel) (by decide +kernel)
set_option maxRecDepth 20000 in
theorem gX3_peelFrom_X3_learn : GoodIn wsX3_peelFrom (wsV RX3 67 RX3 yX3_learn wsX3_learn) := goodIn_app (goodIn_of _ (by decide +kernel)) ggX3_peelFrom_X3_learn
set_option maxRecDepth 20000 in
theorem ggX3_peelFrom_X3_firstShort : GoodIn wsX3_peelFrom wsX3_firstShort := goodIn_r _ [19, 12, 13, 20, 3, 21, 22, 23, 24, 25, 26, 27, 28, 37, 38, 39, 40, 41, 42, 43, 44] (by decide +kernel) (by decide +kernel)
set_option maxRecDepth 20000 in
theorem gX3_peelFrom_X3_firstShort : GoodIn wsX3_peelFrom (wsV RX3 71 RX3 yX3_firstShort wsX3_firstShort) := goodIn_app (goodIn_of _ (by decide +kernel)) ggX3_peelFrom_X3_firstShort
set_option maxRecDepth 20000 in
theorem ggX3_peelFrom_X3_waitingAt : GoodIn wsX3_peelFrom wsX3_waitingAt := goodIn_r _ [32, 13, 37, 38, 39, 40, 41, 42, 43, 44] (by decide +kernel) (by decide +kernel)
set_option maxRecDepth 20000 in
theorem gX3_peelFrom_X3_waitingAt : GoodIn wsX3_peelFrom (wsV RX3 75 RX3 yX3_waitingAt wsX3_waitingAt) := goodIn_app (goodIn_of _ (by decide +kernel)) ggX3_peelFrom_X3_waitingAt
set_option maxRecDepth 20000 in
theorem ggX3_peelFrom_X3_drop : GoodIn wsX3_peelFrom wsX3_drop := goodIn_r _ [36, 12, 13, 37, 38, 39, 40, 41, 42, 43, 44] (by decide +kernel) (by decide +kernel)
set_option maxRecDepth 20000 in
theorem gX3_peelFrom_X3_drop : GoodIn wsX3_peelFrom (wsV RX3 78 RX3 yX3_drop wsX3_drop) := goodIn_app (goodIn_of _ (by decide +kernel)) ggX3_peelFrom_X3_drop
theorem dX3_peelFrom_0 : decode cX3_peelFrom 0 = .ok (.iconst 0, 1) := by decide +kernel
theorem dX3_peelFrom_1 : decode cX3_peelFrom 1 = .ok (.istore_n 2, 1) := by decide +kernel
theorem dX3_peelFrom_2 : decode cX3_peelFrom 2 = .ok (.iload_n 1, 1) := by decide +kernel
theorem dX3_peelFrom_3 : decode cX3_peelFrom 3 = .ok (.istore_n 3, 1) := by decide +kernel
theorem dX3_peelFrom_4 : decode cX3_peelFrom 4 = .ok (.iconst 0, 1) := by decide +kernel
theorem dX3_peelFrom_5 : decode cX3_peelFrom 5 = .ok (.istore 4, 2) := by decide +kernel
theorem dX3_peelFrom_7 : decode cX3_peelFrom 7 = .ok (.iload 4, 2) := by decide +kernel
theorem dX3_peelFrom_9 : decode cX3_peelFrom 9 = .ok (.bipush 24, 2) := by decide +kernel
theorem dX3_peelFrom_11 : decode cX3_peelFrom 11 = .ok (.if_icmp .gt 64, 3) := by decide +kernel
theorem dX3_peelFrom_14 : decode cX3_peelFrom 14 = .ok (.iload_n 3, 1) := by decide +kernel
theorem dX3_peelFrom_15 : decode cX3_peelFrom 15 = .ok (.invokestatic 64, 3) := by decide +kernel
theorem dX3_peelFrom_18 : decode cX3_peelFrom 18 = .ok (.ifCond .ne 16, 3) := by decide +kernel
theorem dX3_peelFrom_21 : decode cX3_peelFrom 21 = .ok (.aload_n 0, 1) := by decide +kernel
theorem dX3_peelFrom_22 : decode cX3_peelFrom 22 = .ok (.dup, 1) := by decide +kernel
theorem dX3_peelFrom_23 : decode cX3_peelFrom 23 = .ok (.getfield 36, 3) := by decide +kernel
theorem dX3_peelFrom_26 : decode cX3_peelFrom 26 = .ok (.iconst 1, 1) := by decide +kernel
theorem dX3_peelFrom_27 : decode cX3_peelFrom 27 = .ok (.iadd, 1) := by decide +kernel
theorem dX3_peelFrom_28 : decode cX3_peelFrom 28 = .ok (.putfield 36, 3) := by decide +kernel
theorem dX3_peelFrom_31 : decode cX3_peelFrom 31 = .ok (.goto 11, 3) := by decide +kernel
theorem dX3_peelFrom_34 : decode cX3_peelFrom 34 = .ok (.aload_n 0, 1) := by decide +kernel
theorem dX3_peelFrom_35 : decode cX3_peelFrom 35 = .ok (.iload_n 3, 1) := by decide +kernel
theorem dX3_peelFrom_36 : decode cX3_peelFrom 36 = .ok (.invokevirtual 67, 3) := by decide +kernel
theorem dX3_peelFrom_39 : decode cX3_peelFrom 39 = .ok (.iinc 2 1, 3) := by decide +kernel
theorem dX3_peelFrom_42 : decode cX3_peelFrom 42 = .ok (.aload_n 0, 1) := by decide +kernel
theorem dX3_peelFrom_43 : decode cX3_peelFrom 43 = .ok (.invokevirtual 71, 3) := by decide +kernel
theorem dX3_peelFrom_46 : decode cX3_peelFrom 46 = .ok (.istore 5, 2) := by decide +kernel
theorem dX3_peelFrom_48 : decode cX3_peelFrom 48 = .ok (.iload 5, 2) := by decide +kernel
theorem dX3_peelFrom_50 : decode cX3_peelFrom 50 = .ok (.iconst (-1), 1) := by decide +kernel
theorem dX3_peelFrom_51 : decode cX3_peelFrom 51 = .ok (.if_icmp .ne 5, 3) := by decide +kernel
theorem dX3_peelFrom_54 : decode cX3_peelFrom 54 = .ok (.iload_n 2, 1) := by decide +kernel
theorem dX3_peelFrom_55 : decode cX3_peelFrom 55 = .ok (.ireturn, 1) := by decide +kernel
theorem dX3_peelFrom_56 : decode cX3_peelFrom 56 = .ok (.aload_n 0, 1) := by decide +kernel
theorem dX3_peelFrom_57 : decode cX3_peelFrom 57 = .ok (.iload 5, 2) := by decide +kernel
theorem dX3_peelFrom_59 : decode cX3_peelFrom 59 = .ok (.invokevirtual 75, 3) := by decide +kernel
theorem dX3_peelFrom_62 : decode cX3_peelFrom 62 = .ok (.istore_n 3, 1) := by decide +kernel
theorem dX3_peelFrom_63 : decode cX3_peelFrom 63 = .ok (.aload_n 0, 1) := by decide +kernel
theorem dX3_peelFrom_64 : decode cX3_peelFrom 64 = .ok (.iload 5, 2) := by decide +kernel
theorem dX3_peelFrom_66 : decode cX3_peelFrom 66 = .ok (.invokevirtual 78, 3) := by decide +kernel
theorem dX3_peelFrom_69 : decode cX3_peelFrom 69 = .ok (.iinc 4 1, 3) := by decide +kernel
theorem dX3_peelFrom_72 : decode cX3_peelFrom 72 = .ok (.goto (-65), 3) := by decide +kernel
theorem dX3_peelFrom_75 : decode cX3_peelFrom 75 = .ok (.iload_n 2, 1) := by decide +kernel
theorem dX3_peelFrom_76 : decode cX3_peelFrom 76 = .ok (.ireturn, 1) := by decide +kernel
set_option maxRecDepth 20000 in
theorem ggX3_learn_X5_blocksOf : GoodIn wsX3_learn wsX5_blocksOf := goodIn_r _ [7] (by decide +kernel) (by decide +kernel)
set_option maxRecDepth 20000 in
theorem gX3_learn_X5_blocksOf_n64 : GoodIn wsX3_learn (wsX5_blocksOf) := ggX3_learn_X5_blocksOf
set_option maxRecDepth 20000 in
theorem ggX3_learn_X5_holds : GoodIn wsX3_learn wsX5_holds := goodIn_r _ [9] (by decide +kernel) (by decide +kernel)
set_option maxRecDepth 20000 in
theorem gX3_learn_X5_holds_n48 : GoodIn wsX3_learn (wsX5_holds) := ggX3_learn_X5_holds
theorem dX3_learn_0 : decode cX3_learn 0 = .ok (.aload_n 0, 1) := by decide +kernel
theorem dX3_learn_1 : decode cX3_learn 1 = .ok (.dup, 1) := by decide +kernel
theorem dX3_learn_2 : decode cX3_learn 2 = .ok (.getfield 22, 3) := by decide +kernel
theorem dX3_learn_5 : decode cX3_learn 5 = .ok (.iload_n 1, 1) := by decide +kernel
theorem dX3_learn_6 : decode cX3_learn 6 = .ok (.invokestatic 64, 3) := by decide +kernel
theorem dX3_learn_9 : decode cX3_learn 9 = .ok (.ior, 1) := by decide +kernel
theorem dX3_learn_10 : decode cX3_learn 10 = .ok (.putfield 22, 3) := by decide +kernel
theorem dX3_learn_13 : decode cX3_learn 13 = .ok (.iconst 0, 1) := by decide +kernel
theorem dX3_learn_14 : decode cX3_learn 14 = .ok (.istore_n 2, 1) := by decide +kernel
theorem dX3_learn_15 : decode cX3_learn 15 = .ok (.iload_n 2, 1) := by decide +kernel
theorem dX3_learn_16 : decode cX3_learn 16 = .ok (.aload_n 0, 1) := by decide +kernel
theorem dX3_learn_17 : decode cX3_learn 17 = .ok (.getfield 9, 3) := by decide +kernel
theorem dX3_learn_20 : decode cX3_learn 20 = .ok (.arraylength, 1) := by decide +kernel
theorem dX3_learn_21 : decode cX3_learn 21 = .ok (.if_icmp .ge 24, 3) := by decide +kernel
theorem dX3_learn_24 : decode cX3_learn 24 = .ok (.iload_n 1, 1) := by decide +kernel
theorem dX3_learn_25 : decode cX3_learn 25 = .ok (.iload_n 2, 1) := by decide +kernel
theorem dX3_learn_26 : decode cX3_learn 26 = .ok (.invokestatic 48, 3) := by decide +kernel
theorem dX3_learn_29 : decode cX3_learn 29 = .ok (.ifCond .eq 10, 3) := by decide +kernel
theorem dX3_learn_32 : decode cX3_learn 32 = .ok (.aload_n 0, 1) := by decide +kernel
theorem dX3_learn_33 : decode cX3_learn 33 = .ok (.getfield 9, 3) := by decide +kernel
theorem dX3_learn_36 : decode cX3_learn 36 = .ok (.iload_n 2, 1) := by decide +kernel
theorem dX3_learn_37 : decode cX3_learn 37 = .ok (.iload_n 1, 1) := by decide +kernel
theorem dX3_learn_38 : decode cX3_learn 38 = .ok (.iastore, 1) := by decide +kernel
theorem dX3_learn_39 : decode cX3_learn 39 = .ok (.iinc 2 1, 3) := by decide +kernel
theorem dX3_learn_42 : decode cX3_learn 42 = .ok (.goto (-27), 3) := by decide +kernel
theorem dX3_learn_45 : decode cX3_learn 45 = .ok (.iconst 0, 1) := by decide +kernel
theorem dX3_learn_46 : decode cX3_learn 46 = .ok (.istore_n 2, 1) := by decide +kernel
theorem dX3_learn_47 : decode cX3_learn 47 = .ok (.iload_n 2, 1) := by decide +kernel
theorem dX3_learn_48 : decode cX3_learn 48 = .ok (.aload_n 0, 1) := by decide +kernel
theorem dX3_learn_49 : decode cX3_learn 49 = .ok (.getfield 30, 3) := by decide +kernel
theorem dX3_learn_52 : decode cX3_learn 52 = .ok (.if_icmp .ge 42, 3) := by decide +kernel
theorem dX3_learn_55 : decode cX3_learn 55 = .ok (.iload_n 2, 1) := by decide +kernel
theorem dX3_learn_56 : decode cX3_learn 56 = .ok (.aload_n 0, 1) := by decide +kernel
theorem dX3_learn_57 : decode cX3_learn 57 = .ok (.getfield 15, 3) := by decide +kernel
theorem dX3_learn_60 : decode cX3_learn 60 = .ok (.arraylength, 1) := by decide +kernel
theorem dX3_learn_61 : decode cX3_learn 61 = .ok (.if_icmp .ge 33, 3) := by decide +kernel
theorem dX3_learn_64 : decode cX3_learn 64 = .ok (.aload_n 0, 1) := by decide +kernel
theorem dX3_learn_65 : decode cX3_learn 65 = .ok (.getfield 15, 3) := by decide +kernel
theorem dX3_learn_68 : decode cX3_learn 68 = .ok (.iload_n 2, 1) := by decide +kernel
theorem dX3_learn_69 : decode cX3_learn 69 = .ok (.iaload, 1) := by decide +kernel
theorem dX3_learn_70 : decode cX3_learn 70 = .ok (.iload_n 1, 1) := by decide +kernel
theorem dX3_learn_71 : decode cX3_learn 71 = .ok (.iand, 1) := by decide +kernel
theorem dX3_learn_72 : decode cX3_learn 72 = .ok (.invokestatic 64, 3) := by decide +kernel
theorem dX3_learn_75 : decode cX3_learn 75 = .ok (.ifCond .eq 13, 3) := by decide +kernel
theorem dX3_learn_78 : decode cX3_learn 78 = .ok (.aload_n 0, 1) := by decide +kernel
theorem dX3_learn_79 : decode cX3_learn 79 = .ok (.getfield 15, 3) := by decide +kernel
theorem dX3_learn_82 : decode cX3_learn 82 = .ok (.iload_n 2, 1) := by decide +kernel
theorem dX3_learn_83 : decode cX3_learn 83 = .ok (.dup2, 1) := by decide +kernel
theorem dX3_learn_84 : decode cX3_learn 84 = .ok (.iaload, 1) := by decide +kernel
theorem dX3_learn_85 : decode cX3_learn 85 = .ok (.iload_n 1, 1) := by decide +kernel
theorem dX3_learn_86 : decode cX3_learn 86 = .ok (.ixor, 1) := by decide +kernel
theorem dX3_learn_87 : decode cX3_learn 87 = .ok (.iastore, 1) := by decide +kernel
theorem dX3_learn_88 : decode cX3_learn 88 = .ok (.iinc 2 1, 3) := by decide +kernel
theorem dX3_learn_91 : decode cX3_learn 91 = .ok (.goto (-44), 3) := by decide +kernel
theorem dX3_learn_94 : decode cX3_learn 94 = .ok (.return_, 1) := by decide +kernel
set_option maxRecDepth 20000 in
theorem ggX3_firstShort_X5_blockCountOf : GoodIn wsX3_firstShort wsX5_blockCountOf := goodIn_r _ [5, 6, 7, 8, 9, 10, 11, 12] (by decide +kernel) (by decide +kernel)
set_option maxRecDepth 20000 in
theorem gX3_firstShort_X5_blockCountOf_n58 : GoodIn wsX3_firstShort (wsX5_blockCountOf) := ggX3_firstShort_X5_blockCountOf
theorem dX3_firstShort_0 : decode cX3_firstShort 0 = .ok (.iconst 0, 1) := by decide +kernel
theorem dX3_firstShort_1 : decode cX3_firstShort 1 = .ok (.istore_n 1, 1) := by decide +kernel
theorem dX3_firstShort_2 : decode cX3_firstShort 2 = .ok (.iload_n 1, 1) := by decide +kernel
theorem dX3_firstShort_3 : decode cX3_firstShort 3 = .ok (.aload_n 0, 1) := by decide +kernel
theorem dX3_firstShort_4 : decode cX3_firstShort 4 = .ok (.getfield 30, 3) := by decide +kernel
theorem dX3_firstShort_7 : decode cX3_firstShort 7 = .ok (.if_icmp .ge 33, 3) := by decide +kernel
theorem dX3_firstShort_10 : decode cX3_firstShort 10 = .ok (.iload_n 1, 1) := by decide +kernel
theorem dX3_firstShort_11 : decode cX3_firstShort 11 = .ok (.aload_n 0, 1) := by decide +kernel
theorem dX3_firstShort_12 : decode cX3_firstShort 12 = .ok (.getfield 15, 3) := by decide +kernel
theorem dX3_firstShort_15 : decode cX3_firstShort 15 = .ok (.arraylength, 1) := by decide +kernel
theorem dX3_firstShort_16 : decode cX3_firstShort 16 = .ok (.if_icmp .ge 24, 3) := by decide +kernel
theorem dX3_firstShort_19 : decode cX3_firstShort 19 = .ok (.aload_n 0, 1) := by decide +kernel
theorem dX3_firstShort_20 : decode cX3_firstShort 20 = .ok (.getfield 15, 3) := by decide +kernel
theorem dX3_firstShort_23 : decode cX3_firstShort 23 = .ok (.iload_n 1, 1) := by decide +kernel
theorem dX3_firstShort_24 : decode cX3_firstShort 24 = .ok (.iaload, 1) := by decide +kernel
theorem dX3_firstShort_25 : decode cX3_firstShort 25 = .ok (.invokestatic 58, 3) := by decide +kernel
theorem dX3_firstShort_28 : decode cX3_firstShort 28 = .ok (.iconst 2, 1) := by decide +kernel
theorem dX3_firstShort_29 : decode cX3_firstShort 29 = .ok (.if_icmp .ge 5, 3) := by decide +kernel
theorem dX3_firstShort_32 : decode cX3_firstShort 32 = .ok (.iload_n 1, 1) := by decide +kernel
theorem dX3_firstShort_33 : decode cX3_firstShort 33 = .ok (.ireturn, 1) := by decide +kernel
theorem dX3_firstShort_34 : decode cX3_firstShort 34 = .ok (.iinc 1 1, 3) := by decide +kernel
theorem dX3_firstShort_37 : decode cX3_firstShort 37 = .ok (.goto (-35), 3) := by decide +kernel
theorem dX3_firstShort_40 : decode cX3_firstShort 40 = .ok (.iconst (-1), 1) := by decide +kernel
theorem dX3_firstShort_41 : decode cX3_firstShort 41 = .ok (.ireturn, 1) := by decide +kernel
theorem dX3_drop_0 : decode cX3_drop 0 = .ok (.iload_n 1, 1) := by decide +kernel
theorem dX3_drop_1 : decode cX3_drop 1 = .ok (.istore_n 2, 1) := by decide +kernel
theorem dX3_drop_2 : decode cX3_drop 2 = .ok (.iload_n 2, 1) := by decide +kernel
theorem dX3_drop_3 : decode cX3_drop 3 = .ok (.ifCond .lt 44, 3) := by decide +kernel
theorem dX3_drop_6 : decode cX3_drop 6 = .ok (.iload_n 2, 1) := by decide +kernel
theorem dX3_drop_7 : decode cX3_drop 7 = .ok (.iconst 1, 1) := by decide +kernel
theorem dX3_drop_8 : decode cX3_drop 8 = .ok (.iadd, 1) := by decide +kernel
theorem dX3_drop_9 : decode cX3_drop 9 = .ok (.aload_n 0, 1) := by decide +kernel
theorem dX3_drop_10 : decode cX3_drop 10 = .ok (.getfield 30, 3) := by decide +kernel
theorem dX3_drop_13 : decode cX3_drop 13 = .ok (.if_icmp .ge 34, 3) := by decide +kernel
theorem dX3_drop_16 : decode cX3_drop 16 = .ok (.iload_n 2, 1) := by decide +kernel
theorem dX3_drop_17 : decode cX3_drop 17 = .ok (.iconst 1, 1) := by decide +kernel
theorem dX3_drop_18 : decode cX3_drop 18 = .ok (.iadd, 1) := by decide +kernel
theorem dX3_drop_19 : decode cX3_drop 19 = .ok (.aload_n 0, 1) := by decide +kernel
theorem dX3_drop_20 : decode cX3_drop 20 = .ok (.getfield 15, 3) := by decide +kernel
theorem dX3_drop_23 : decode cX3_drop 23 = .ok (.arraylength, 1) := by decide +kernel
theorem dX3_drop_24 : decode cX3_drop 24 = .ok (.if_icmp .ge 23, 3) := by decide +kernel
theorem dX3_drop_27 : decode cX3_drop 27 = .ok (.aload_n 0, 1) := by decide +kernel
theorem dX3_drop_28 : decode cX3_drop 28 = .ok (.getfield 15, 3) := by decide +kernel
theorem dX3_drop_31 : decode cX3_drop 31 = .ok (.iload_n 2, 1) := by decide +kernel
theorem dX3_drop_32 : decode cX3_drop 32 = .ok (.aload_n 0, 1) := by decide +kernel
theorem dX3_drop_33 : decode cX3_drop 33 = .ok (.getfield 15, 3) := by decide +kernel
theorem dX3_drop_36 : decode cX3_drop 36 = .ok (.iload_n 2, 1) := by decide +kernel
theorem dX3_drop_37 : decode cX3_drop 37 = .ok (.iconst 1, 1) := by decide +kernel
theorem dX3_drop_38 : decode cX3_drop 38 = .ok (.iadd, 1) := by decide +kernel
theorem dX3_drop_39 : decode cX3_drop 39 = .ok (.iaload, 1) := by decide +kernel
theorem dX3_drop_40 : decode cX3_drop 40 = .ok (.iastore, 1) := by decide +kernel
theorem dX3_drop_41 : decode cX3_drop 41 = .ok (.iinc 2 1, 3) := by decide +kernel
theorem dX3_drop_44 : decode cX3_drop 44 = .ok (.goto (-42), 3) := by decide +kernel
theorem dX3_drop_47 : decode cX3_drop 47 = .ok (.aload_n 0, 1) := by decide +kernel
theorem dX3_drop_48 : decode cX3_drop 48 = .ok (.dup, 1) := by decide +kernel
theorem dX3_drop_49 : decode cX3_drop 49 = .ok (.getfield 30, 3) := by decide +kernel
theorem dX3_drop_52 : decode cX3_drop 52 = .ok (.iconst 1, 1) := by decide +kernel
theorem dX3_drop_53 : decode cX3_drop 53 = .ok (.isub, 1) := by decide +kernel
theorem dX3_drop_54 : decode cX3_drop 54 = .ok (.putfield 30, 3) := by decide +kernel
theorem dX3_drop_57 : decode cX3_drop 57 = .ok (.return_, 1) := by decide +kernel
set_option maxRecDepth 20000 in
theorem ggX3_rank_X3_lookTogether : GoodIn wsX3_rank wsX3_lookTogether := goodIn_r _ [5, 6, 7, 8, 9, 10, 11, 12, 13, 14, 15, 16, 17, 18, 19, 20, 21, 22, 23, 24, 25, 26, 27, 28, 29, 30, 31, 32, 33, 42, 43, 44, 45, 46, 47, 48, 49, 40, 41] (by decide +kernel) (by decide +kernel)
set_option maxRecDepth 20000 in
theorem gX3_rank_X3_lookTogether : GoodIn wsX3_rank (wsV RX3 81 RX3 yX3_lookTogether wsX3_lookTogether) := goodIn_app (goodIn_of _ (by decide +kernel)) ggX3_rank_X3_lookTogether
set_option maxRecDepth 20000 in
theorem ggX3_rank_X3_knows : GoodIn wsX3_rank wsX3_knows := goodIn_r _ [37, 38, 39, 28, 29, 30, 31, 32, 33, 42, 43, 44, 45, 46, 47, 48, 49] (by decide +kernel) (by decide +kernel)
set_option maxRecDepth 20000 in
theorem gX3_rank_X3_knows : GoodIn wsX3_rank (wsV RX3 85 RX3 yX3_knows wsX3_knows) := goodIn_app (goodIn_of _ (by decide +kernel)) ggX3_rank_X3_knows
theorem dX3_rank_0 : decode cX3_rank 0 = .ok (.aload_n 0, 1) := by decide +kernel
theorem dX3_rank_1 : decode cX3_rank 1 = .ok (.aload_n 1, 1) := by decide +kernel
theorem dX3_rank_2 : decode cX3_rank 2 = .ok (.invokevirtual 81, 3) := by decide +kernel
theorem dX3_rank_5 : decode cX3_rank 5 = .ok (.aload_n 0, 1) := by decide +kernel
theorem dX3_rank_6 : decode cX3_rank 6 = .ok (.invokevirtual 85, 3) := by decide +kernel
theorem dX3_rank_9 : decode cX3_rank 9 = .ok (.aload_n 1, 1) := by decide +kernel
theorem dX3_rank_10 : decode cX3_rank 10 = .ok (.getfield 88, 3) := by decide +kernel
theorem dX3_rank_13 : decode cX3_rank 13 = .ok (.iadd, 1) := by decide +kernel
theorem dX3_rank_14 : decode cX3_rank 14 = .ok (.ireturn, 1) := by decide +kernel
set_option maxRecDepth 20000 in
theorem ggX3_findTogether_X3_lookTogether : GoodIn wsX3_findTogether wsX3_lookTogether := goodIn_r _ [6, 7, 8, 9, 10, 11, 12, 13, 14, 15, 16, 17, 18, 19, 20, 21, 22, 23, 24, 25, 26, 27, 28, 29, 30, 31, 32, 33, 34, 69, 70, 71, 72, 73, 74, 75, 76, 77, 78] (by decide +kernel) (by decide +kernel)
set_option maxRecDepth 20000 in
theorem gX3_findTogether_X3_lookTogether : GoodIn wsX3_findTogether (wsV RX3 81 RX3 yX3_lookTogether wsX3_lookTogether) := goodIn_app (goodIn_of _ (by decide +kernel)) ggX3_findTogether_X3_lookTogether
set_option maxRecDepth 20000 in
theorem ggX3_findTogether_X0_tells : GoodIn wsX3_findTogether wsX0_tells := goodIn_r _ [38, 39, 40, 41, 12, 42, 15, 23, 21, 24, 77, 78] (by decide +kernel) (by decide +kernel)
set_option maxRecDepth 20000 in
theorem gX3_findTogether_X0_tells : GoodIn wsX3_findTogether (wsV RX3 93 RX0 yX0_tells wsX0_tells) := goodIn_app (goodIn_of _ (by decide +kernel)) ggX3_findTogether_X0_tells
set_option maxRecDepth 20000 in
theorem ggX3_findTogether_X5_holds : GoodIn wsX3_findTogether wsX5_holds := goodIn_r _ [22] (by decide +kernel) (by decide +kernel)
set_option maxRecDepth 20000 in
theorem gX3_findTogether_X5_holds_n48 : GoodIn wsX3_findTogether (wsX5_holds) := ggX3_findTogether_X5_holds
set_option maxRecDepth 20000 in
theorem ggX3_findTogether_X0_rowOf : GoodIn wsX3_findTogether wsX0_rowOf := goodIn_r _ [42, 15, 77, 78] (by decide +kernel) (by decide +kernel)
set_option maxRecDepth 20000 in
theorem gX3_findTogether_X0_rowOf : GoodIn wsX3_findTogether (wsV RX3 97 RX0 yX0_rowOf wsX0_rowOf) := goodIn_app (goodIn_of _ (by decide +kernel)) ggX3_findTogether_X0_rowOf
set_option maxRecDepth 20000 in
theorem ggX3_findTogether_X3_peelFrom : GoodIn wsX3_findTogether wsX3_peelFrom := goodIn_r _ [47, 48, 23, 21, 24, 49, 50, 51, 5, 52, 1, 53, 7, 8, 20, 22, 54, 55, 56, 57, 58, 59, 60, 29, 30, 31, 32, 33, 34, 61, 62, 63, 64, 65, 66, 67, 68, 69, 70, 71, 72, 73, 74, 75, 76] (by decide +kernel) (by decide +kernel)
set_option maxRecDepth 20000 in
theorem gX3_findTogether_X3_peelFrom : GoodIn wsX3_findTogether (wsV RX3 61 RX3 yX3_peelFrom wsX3_peelFrom) := goodIn_app (goodIn_of _ (by decide +kernel)) ggX3_findTogether_X3_peelFrom
theorem dX3_findTogether_0 : decode cX3_findTogether 0 = .ok (.aload_n 0, 1) := by decide +kernel
theorem dX3_findTogether_1 : decode cX3_findTogether 1 = .ok (.aload_n 1, 1) := by decide +kernel
theorem dX3_findTogether_2 : decode cX3_findTogether 2 = .ok (.invokevirtual 81, 3) := by decide +kernel
theorem dX3_findTogether_5 : decode cX3_findTogether 5 = .ok (.iconst 0, 1) := by decide +kernel
theorem dX3_findTogether_6 : decode cX3_findTogether 6 = .ok (.istore_n 2, 1) := by decide +kernel
theorem dX3_findTogether_7 : decode cX3_findTogether 7 = .ok (.iconst 0, 1) := by decide +kernel
theorem dX3_findTogether_8 : decode cX3_findTogether 8 = .ok (.istore_n 3, 1) := by decide +kernel
theorem dX3_findTogether_9 : decode cX3_findTogether 9 = .ok (.iload_n 3, 1) := by decide +kernel
theorem dX3_findTogether_10 : decode cX3_findTogether 10 = .ok (.bipush 12, 2) := by decide +kernel
theorem dX3_findTogether_12 : decode cX3_findTogether 12 = .ok (.if_icmp .ge 40, 3) := by decide +kernel
theorem dX3_findTogether_15 : decode cX3_findTogether 15 = .ok (.aload_n 1, 1) := by decide +kernel
theorem dX3_findTogether_16 : decode cX3_findTogether 16 = .ok (.iload_n 3, 1) := by decide +kernel
theorem dX3_findTogether_17 : decode cX3_findTogether 17 = .ok (.invokevirtual 93, 3) := by decide +kernel
theorem dX3_findTogether_20 : decode cX3_findTogether 20 = .ok (.ifCond .eq 26, 3) := by decide +kernel
theorem dX3_findTogether_23 : decode cX3_findTogether 23 = .ok (.aload_n 0, 1) := by decide +kernel
theorem dX3_findTogether_24 : decode cX3_findTogether 24 = .ok (.getfield 22, 3) := by decide +kernel
theorem dX3_findTogether_27 : decode cX3_findTogether 27 = .ok (.iload_n 3, 1) := by decide +kernel
theorem dX3_findTogether_28 : decode cX3_findTogether 28 = .ok (.invokestatic 48, 3) := by decide +kernel
theorem dX3_findTogether_31 : decode cX3_findTogether 31 = .ok (.ifCond .ne 15, 3) := by decide +kernel
theorem dX3_findTogether_34 : decode cX3_findTogether 34 = .ok (.iload_n 2, 1) := by decide +kernel
theorem dX3_findTogether_35 : decode cX3_findTogether 35 = .ok (.aload_n 0, 1) := by decide +kernel
theorem dX3_findTogether_36 : decode cX3_findTogether 36 = .ok (.aload_n 1, 1) := by decide +kernel
theorem dX3_findTogether_37 : decode cX3_findTogether 37 = .ok (.iload_n 3, 1) := by decide +kernel
theorem dX3_findTogether_38 : decode cX3_findTogether 38 = .ok (.invokevirtual 97, 3) := by decide +kernel
theorem dX3_findTogether_41 : decode cX3_findTogether 41 = .ok (.invokevirtual 61, 3) := by decide +kernel
theorem dX3_findTogether_44 : decode cX3_findTogether 44 = .ok (.iadd, 1) := by decide +kernel
theorem dX3_findTogether_45 : decode cX3_findTogether 45 = .ok (.istore_n 2, 1) := by decide +kernel
theorem dX3_findTogether_46 : decode cX3_findTogether 46 = .ok (.iinc 3 1, 3) := by decide +kernel
theorem dX3_findTogether_49 : decode cX3_findTogether 49 = .ok (.goto (-40), 3) := by decide +kernel
theorem dX3_findTogether_52 : decode cX3_findTogether 52 = .ok (.iload_n 2, 1) := by decide +kernel
theorem dX3_findTogether_53 : decode cX3_findTogether 53 = .ok (.ireturn, 1) := by decide +kernel
set_option maxRecDepth 20000 in
theorem ggX3_lookTogether_X0_begin : GoodIn wsX3_lookTogether wsX0_begin := goodIn_r _ [7, 8, 9, 37, 38] (by decide +kernel) (by decide +kernel)
set_option maxRecDepth 20000 in
theorem gX3_lookTogether_X0_begin : GoodIn wsX3_lookTogether (wsV RX3 100 RX0 yX0_begin wsX0_begin) := goodIn_app (goodIn_of _ (by decide +kernel)) ggX3_lookTogether_X0_begin
set_option maxRecDepth 20000 in
theorem ggX3_lookTogether_X0_add : GoodIn wsX3_lookTogether wsX0_add := goodIn_r _ [13, 9, 8, 14, 15, 16, 17, 18, 19, 20, 6, 21, 22, 23, 24, 25, 26, 27, 28, 37, 38] (by decide +kernel) (by decide +kernel)
set_option maxRecDepth 20000 in
theorem gX3_lookTogether_X0_add : GoodIn wsX3_lookTogether (wsV RX3 103 RX0 yX0_add wsX0_add) := goodIn_app (goodIn_of _ (by decide +kernel)) ggX3_lookTogether_X0_add
theorem dX3_lookTogether_0 : decode cX3_lookTogether 0 = .ok (.aload_n 1, 1) := by decide +kernel
theorem dX3_lookTogether_1 : decode cX3_lookTogether 1 = .ok (.invokevirtual 100, 3) := by decide +kernel
theorem dX3_lookTogether_4 : decode cX3_lookTogether 4 = .ok (.iconst 0, 1) := by decide +kernel
theorem dX3_lookTogether_5 : decode cX3_lookTogether 5 = .ok (.istore_n 2, 1) := by decide +kernel
theorem dX3_lookTogether_6 : decode cX3_lookTogether 6 = .ok (.iload_n 2, 1) := by decide +kernel
theorem dX3_lookTogether_7 : decode cX3_lookTogether 7 = .ok (.aload_n 0, 1) := by decide +kernel
theorem dX3_lookTogether_8 : decode cX3_lookTogether 8 = .ok (.getfield 30, 3) := by decide +kernel
theorem dX3_lookTogether_11 : decode cX3_lookTogether 11 = .ok (.if_icmp .ge 28, 3) := by decide +kernel
theorem dX3_lookTogether_14 : decode cX3_lookTogether 14 = .ok (.iload_n 2, 1) := by decide +kernel
theorem dX3_lookTogether_15 : decode cX3_lookTogether 15 = .ok (.aload_n 0, 1) := by decide +kernel
theorem dX3_lookTogether_16 : decode cX3_lookTogether 16 = .ok (.getfield 15, 3) := by decide +kernel
theorem dX3_lookTogether_19 : decode cX3_lookTogether 19 = .ok (.arraylength, 1) := by decide +kernel
theorem dX3_lookTogether_20 : decode cX3_lookTogether 20 = .ok (.if_icmp .ge 19, 3) := by decide +kernel
theorem dX3_lookTogether_23 : decode cX3_lookTogether 23 = .ok (.aload_n 1, 1) := by decide +kernel
theorem dX3_lookTogether_24 : decode cX3_lookTogether 24 = .ok (.aload_n 0, 1) := by decide +kernel
theorem dX3_lookTogether_25 : decode cX3_lookTogether 25 = .ok (.getfield 15, 3) := by decide +kernel
theorem dX3_lookTogether_28 : decode cX3_lookTogether 28 = .ok (.iload_n 2, 1) := by decide +kernel
theorem dX3_lookTogether_29 : decode cX3_lookTogether 29 = .ok (.iaload, 1) := by decide +kernel
theorem dX3_lookTogether_30 : decode cX3_lookTogether 30 = .ok (.invokevirtual 103, 3) := by decide +kernel
theorem dX3_lookTogether_33 : decode cX3_lookTogether 33 = .ok (.iinc 2 1, 3) := by decide +kernel
theorem dX3_lookTogether_36 : decode cX3_lookTogether 36 = .ok (.goto (-30), 3) := by decide +kernel
theorem dX3_lookTogether_39 : decode cX3_lookTogether 39 = .ok (.return_, 1) := by decide +kernel
theorem dX3_share_0 : decode cX3_share 0 = .ok (.aload_n 0, 1) := by decide +kernel
theorem dX3_share_1 : decode cX3_share 1 = .ok (.getfield 33, 3) := by decide +kernel
theorem dX3_share_4 : decode cX3_share 4 = .ok (.ifCond .gt 5, 3) := by decide +kernel
theorem dX3_share_7 : decode cX3_share 7 = .ok (.dconst 1, 1) := by decide +kernel
theorem dX3_share_8 : decode cX3_share 8 = .ok (.dreturn, 1) := by decide +kernel
theorem dX3_share_9 : decode cX3_share 9 = .ok (.aload_n 0, 1) := by decide +kernel
theorem dX3_share_10 : decode cX3_share 10 = .ok (.getfield 33, 3) := by decide +kernel
theorem dX3_share_13 : decode cX3_share 13 = .ok (.aload_n 0, 1) := by decide +kernel
theorem dX3_share_14 : decode cX3_share 14 = .ok (.getfield 36, 3) := by decide +kernel
theorem dX3_share_17 : decode cX3_share 17 = .ok (.isub, 1) := by decide +kernel
theorem dX3_share_18 : decode cX3_share 18 = .ok (.aload_n 0, 1) := by decide +kernel
theorem dX3_share_19 : decode cX3_share 19 = .ok (.getfield 39, 3) := by decide +kernel
theorem dX3_share_22 : decode cX3_share 22 = .ok (.isub, 1) := by decide +kernel
theorem dX3_share_23 : decode cX3_share 23 = .ok (.i2d, 1) := by decide +kernel
theorem dX3_share_24 : decode cX3_share 24 = .ok (.aload_n 0, 1) := by decide +kernel
theorem dX3_share_25 : decode cX3_share 25 = .ok (.getfield 33, 3) := by decide +kernel
theorem dX3_share_28 : decode cX3_share 28 = .ok (.i2d, 1) := by decide +kernel
theorem dX3_share_29 : decode cX3_share 29 = .ok (.ddiv, 1) := by decide +kernel
theorem dX3_share_30 : decode cX3_share 30 = .ok (.dreturn, 1) := by decide +kernel
set_option maxRecDepth 20000 in
theorem ggX4_init_X3_init : GoodIn wsX4_init wsX3_init := goodIn_r _ [14, 15, 2, 3, 5, 16, 17, 22, 23, 24, 25, 26, 27, 28, 29] (by decide +kernel) (by decide +kernel)
set_option maxRecDepth 20000 in
theorem gX4_init_X3_init : GoodIn wsX4_init (wsX3_init) := ggX4_init_X3_init
theorem dX4_init_0 : decode cX4_init 0 = .ok (.aload_n 0, 1) := by decide +kernel
theorem dX4_init_1 : decode cX4_init 1 = .ok (.invokespecial 3, 3) := by decide +kernel
theorem dX4_init_4 : decode cX4_init 4 = .ok (.aload_n 0, 1) := by decide +kernel
theorem dX4_init_5 : decode cX4_init 5 = .ok (.bipush 8, 2) := by decide +kernel
theorem dX4_init_7 : decode cX4_init 7 = .ok (.putfield 9, 3) := by decide +kernel
theorem dX4_init_10 : decode cX4_init 10 = .ok (.aload_n 0, 1) := by decide +kernel
theorem dX4_init_11 : decode cX4_init 11 = .ok (.bipush 12, 2) := by decide +kernel
theorem dX4_init_13 : decode cX4_init 13 = .ok (.newarray .int, 2) := by decide +kernel
theorem dX4_init_15 : decode cX4_init 15 = .ok (.putfield 15, 3) := by decide +kernel
theorem dX4_init_18 : decode cX4_init 18 = .ok (.aload_n 0, 1) := by decide +kernel
theorem dX4_init_19 : decode cX4_init 19 = .ok (.iconst 0, 1) := by decide +kernel
theorem dX4_init_20 : decode cX4_init 20 = .ok (.putfield 19, 3) := by decide +kernel
theorem dX4_init_23 : decode cX4_init 23 = .ok (.aload_n 0, 1) := by decide +kernel
theorem dX4_init_24 : decode cX4_init 24 = .ok (.iconst 3, 1) := by decide +kernel
theorem dX4_init_25 : decode cX4_init 25 = .ok (.anewarray 22, 3) := by decide +kernel
theorem dX4_init_28 : decode cX4_init 28 = .ok (.putfield 24, 3) := by decide +kernel
theorem dX4_init_31 : decode cX4_init 31 = .ok (.iconst 0, 1) := by decide +kernel
theorem dX4_init_32 : decode cX4_init 32 = .ok (.istore_n 1, 1) := by decide +kernel
theorem dX4_init_33 : decode cX4_init 33 = .ok (.iload_n 1, 1) := by decide +kernel
theorem dX4_init_34 : decode cX4_init 34 = .ok (.aload_n 0, 1) := by decide +kernel
theorem dX4_init_35 : decode cX4_init 35 = .ok (.getfield 24, 3) := by decide +kernel
theorem dX4_init_38 : decode cX4_init 38 = .ok (.arraylength, 1) := by decide +kernel
theorem dX4_init_39 : decode cX4_init 39 = .ok (.if_icmp .ge 22, 3) := by decide +kernel
theorem dX4_init_42 : decode cX4_init 42 = .ok (.aload_n 0, 1) := by decide +kernel
theorem dX4_init_43 : decode cX4_init 43 = .ok (.getfield 24, 3) := by decide +kernel
theorem dX4_init_46 : decode cX4_init 46 = .ok (.iload_n 1, 1) := by decide +kernel
theorem dX4_init_47 : decode cX4_init 47 = .ok (.new 22, 3) := by decide +kernel
theorem dX4_init_50 : decode cX4_init 50 = .ok (.dup, 1) := by decide +kernel
theorem dX4_init_51 : decode cX4_init 51 = .ok (.invokespecial 28, 3) := by decide +kernel
theorem dX4_init_54 : decode cX4_init 54 = .ok (.aastore, 1) := by decide +kernel
theorem dX4_init_55 : decode cX4_init 55 = .ok (.iinc 1 1, 3) := by decide +kernel
theorem dX4_init_58 : decode cX4_init 58 = .ok (.goto (-25), 3) := by decide +kernel
theorem dX4_init_61 : decode cX4_init 61 = .ok (.return_, 1) := by decide +kernel
set_option maxRecDepth 20000 in
theorem ggX4_become_X5_copyRow : GoodIn wsX4_become wsX5_copyRow := goodIn_r _ [7, 8, 9, 10, 11, 12, 13, 14, 15] (by decide +kernel) (by decide +kernel)
set_option maxRecDepth 20000 in
theorem gX4_become_X5_copyRow_n29 : GoodIn wsX4_become (wsX5_copyRow) := ggX4_become_X5_copyRow
set_option maxRecDepth 20000 in
theorem ggX4_become_X4_receiverAt : GoodIn wsX4_become wsX4_receiverAt := goodIn_r _ [20, 4, 34, 35, 36, 37] (by decide +kernel) (by decide +kernel)
set_option maxRecDepth 20000 in
theorem gX4_become_X4_receiverAt : GoodIn wsX4_become (wsV RX4 33 RX4 yX4_receiverAt wsX4_receiverAt) := goodIn_app (goodIn_of _ (by decide +kernel)) ggX4_become_X4_receiverAt
set_option maxRecDepth 20000 in
theorem ggX4_become_X3_become : GoodIn wsX4_become wsX3_become := goodIn_r _ [25, 26, 27, 28, 29, 30, 31, 32, 33, 5, 6, 7, 8, 9, 10, 11, 12, 13, 14, 15, 38, 39, 40, 41, 42, 43, 44, 45] (by decide +kernel) (by decide +kernel)
set_option maxRecDepth 20000 in
theorem gX4_become_X3_become : GoodIn wsX4_become (wsV RX4 37 RX3 yX3_become wsX3_become) := goodIn_app (goodIn_of _ (by decide +kernel)) ggX4_become_X3_become
theorem dX4_become_0 : decode cX4_become 0 = .ok (.aload_n 1, 1) := by decide +kernel
theorem dX4_become_1 : decode cX4_become 1 = .ok (.ifnonnull 4, 3) := by decide +kernel
theorem dX4_become_4 : decode cX4_become 4 = .ok (.return_, 1) := by decide +kernel
theorem dX4_become_5 : decode cX4_become 5 = .ok (.aload_n 0, 1) := by decide +kernel
theorem dX4_become_6 : decode cX4_become 6 = .ok (.aload_n 1, 1) := by decide +kernel
theorem dX4_become_7 : decode cX4_become 7 = .ok (.getfield 9, 3) := by decide +kernel
theorem dX4_become_10 : decode cX4_become 10 = .ok (.putfield 9, 3) := by decide +kernel
theorem dX4_become_13 : decode cX4_become 13 = .ok (.aload_n 0, 1) := by decide +kernel
theorem dX4_become_14 : decode cX4_become 14 = .ok (.aload_n 1, 1) := by decide +kernel
theorem dX4_become_15 : decode cX4_become 15 = .ok (.getfield 19, 3) := by decide +kernel
theorem dX4_become_18 : decode cX4_become 18 = .ok (.putfield 19, 3) := by decide +kernel
theorem dX4_become_21 : decode cX4_become 21 = .ok (.aload_n 1, 1) := by decide +kernel
theorem dX4_become_22 : decode cX4_become 22 = .ok (.getfield 15, 3) := by decide +kernel
theorem dX4_become_25 : decode cX4_become 25 = .ok (.aload_n 0, 1) := by decide +kernel
theorem dX4_become_26 : decode cX4_become 26 = .ok (.getfield 15, 3) := by decide +kernel
theorem dX4_become_29 : decode cX4_become 29 = .ok (.invokestatic 29, 3) := by decide +kernel
theorem dX4_become_32 : decode cX4_become 32 = .ok (.iconst 0, 1) := by decide +kernel
theorem dX4_become_33 : decode cX4_become 33 = .ok (.istore_n 2, 1) := by decide +kernel
theorem dX4_become_34 : decode cX4_become 34 = .ok (.iload_n 2, 1) := by decide +kernel
theorem dX4_become_35 : decode cX4_become 35 = .ok (.aload_n 0, 1) := by decide +kernel
theorem dX4_become_36 : decode cX4_become 36 = .ok (.getfield 24, 3) := by decide +kernel
theorem dX4_become_39 : decode cX4_become 39 = .ok (.arraylength, 1) := by decide +kernel
theorem dX4_become_40 : decode cX4_become 40 = .ok (.if_icmp .ge 29, 3) := by decide +kernel
theorem dX4_become_43 : decode cX4_become 43 = .ok (.aload_n 0, 1) := by decide +kernel
theorem dX4_become_44 : decode cX4_become 44 = .ok (.getfield 24, 3) := by decide +kernel
theorem dX4_become_47 : decode cX4_become 47 = .ok (.iload_n 2, 1) := by decide +kernel
theorem dX4_become_48 : decode cX4_become 48 = .ok (.aaload, 1) := by decide +kernel
theorem dX4_become_49 : decode cX4_become 49 = .ok (.astore_n 3, 1) := by decide +kernel
theorem dX4_become_50 : decode cX4_become 50 = .ok (.aload_n 3, 1) := by decide +kernel
theorem dX4_become_51 : decode cX4_become 51 = .ok (.ifnull 12, 3) := by decide +kernel
theorem dX4_become_54 : decode cX4_become 54 = .ok (.aload_n 3, 1) := by decide +kernel
theorem dX4_become_55 : decode cX4_become 55 = .ok (.aload_n 1, 1) := by decide +kernel
theorem dX4_become_56 : decode cX4_become 56 = .ok (.iload_n 2, 1) := by decide +kernel
theorem dX4_become_57 : decode cX4_become 57 = .ok (.invokevirtual 33, 3) := by decide +kernel
theorem dX4_become_60 : decode cX4_become 60 = .ok (.invokevirtual 37, 3) := by decide +kernel
theorem dX4_become_63 : decode cX4_become 63 = .ok (.iinc 2 1, 3) := by decide +kernel
theorem dX4_become_66 : decode cX4_become 66 = .ok (.goto (-32), 3) := by decide +kernel
theorem dX4_become_69 : decode cX4_become 69 = .ok (.return_, 1) := by decide +kernel
theorem dX4_receiverAt_0 : decode cX4_receiverAt 0 = .ok (.iload_n 1, 1) := by decide +kernel
theorem dX4_receiverAt_1 : decode cX4_receiverAt 1 = .ok (.ifCond .lt 21, 3) := by decide +kernel
theorem dX4_receiverAt_4 : decode cX4_receiverAt 4 = .ok (.iload_n 1, 1) := by decide +kernel
theorem dX4_receiverAt_5 : decode cX4_receiverAt 5 = .ok (.aload_n 0, 1) := by decide +kernel
theorem dX4_receiverAt_6 : decode cX4_receiverAt 6 = .ok (.getfield 24, 3) := by decide +kernel
theorem dX4_receiverAt_9 : decode cX4_receiverAt 9 = .ok (.arraylength, 1) := by decide +kernel
theorem dX4_receiverAt_10 : decode cX4_receiverAt 10 = .ok (.if_icmp .ge 12, 3) := by decide +kernel
theorem dX4_receiverAt_13 : decode cX4_receiverAt 13 = .ok (.aload_n 0, 1) := by decide +kernel
theorem dX4_receiverAt_14 : decode cX4_receiverAt 14 = .ok (.getfield 24, 3) := by decide +kernel
theorem dX4_receiverAt_17 : decode cX4_receiverAt 17 = .ok (.iload_n 1, 1) := by decide +kernel
theorem dX4_receiverAt_18 : decode cX4_receiverAt 18 = .ok (.aaload, 1) := by decide +kernel
theorem dX4_receiverAt_19 : decode cX4_receiverAt 19 = .ok (.goto 4, 3) := by decide +kernel
theorem dX4_receiverAt_22 : decode cX4_receiverAt 22 = .ok (.aconst_null, 1) := by decide +kernel
theorem dX4_receiverAt_23 : decode cX4_receiverAt 23 = .ok (.areturn, 1) := by decide +kernel
theorem dX4_valueAt_0 : decode cX4_valueAt 0 = .ok (.iload_n 1, 1) := by decide +kernel
theorem dX4_valueAt_1 : decode cX4_valueAt 1 = .ok (.ifCond .lt 21, 3) := by decide +kernel
theorem dX4_valueAt_4 : decode cX4_valueAt 4 = .ok (.iload_n 1, 1) := by decide +kernel
theorem dX4_valueAt_5 : decode cX4_valueAt 5 = .ok (.aload_n 0, 1) := by decide +kernel
theorem dX4_valueAt_6 : decode cX4_valueAt 6 = .ok (.getfield 15, 3) := by decide +kernel
theorem dX4_valueAt_9 : decode cX4_valueAt 9 = .ok (.arraylength, 1) := by decide +kernel
theorem dX4_valueAt_10 : decode cX4_valueAt 10 = .ok (.if_icmp .ge 12, 3) := by decide +kernel
theorem dX4_valueAt_13 : decode cX4_valueAt 13 = .ok (.aload_n 0, 1) := by decide +kernel
theorem dX4_valueAt_14 : decode cX4_valueAt 14 = .ok (.getfield 15, 3) := by decide +kernel
theorem dX4_valueAt_17 : decode cX4_valueAt 17 = .ok (.iload_n 1, 1) := by decide +kernel
theorem dX4_valueAt_18 : decode cX4_valueAt 18 = .ok (.iaload, 1) := by decide +kernel
theorem dX4_valueAt_19 : decode cX4_valueAt 19 = .ok (.goto 4, 3) := by decide +kernel
theorem dX4_valueAt_22 : decode cX4_valueAt 22 = .ok (.iconst 0, 1) := by decide +kernel
theorem dX4_valueAt_23 : decode cX4_valueAt 23 = .ok (.ireturn, 1) := by decide +kernel
set_option maxRecDepth 20000 in
theorem ggX4_resize_X4_allForget : GoodIn wsX4_resize wsX4_allForget := goodIn_r _ [7, 8, 9, 10, 11, 12, 13, 14, 15, 16, 17, 18, 19, 20, 21, 22, 23, 24, 25, 26, 27, 28] (by decide +kernel) (by decide +kernel)
set_option maxRecDepth 20000 in
theorem gX4_resize_X4_allForget : GoodIn wsX4_resize (wsV RX4 41 RX4 yX4_allForget wsX4_allForget) := goodIn_app (goodIn_of _ (by decide +kernel)) ggX4_resize_X4_allForget
theorem dX4_resize_0 : decode cX4_resize 0 = .ok (.aload_n 0, 1) := by decide +kernel
theorem dX4_resize_1 : decode cX4_resize 1 = .ok (.iload_n 1, 1) := by decide +kernel
theorem dX4_resize_2 : decode cX4_resize 2 = .ok (.putfield 9, 3) := by decide +kernel
theorem dX4_resize_5 : decode cX4_resize 5 = .ok (.iconst 0, 1) := by decide +kernel
theorem dX4_resize_6 : decode cX4_resize 6 = .ok (.istore_n 2, 1) := by decide +kernel
theorem dX4_resize_7 : decode cX4_resize 7 = .ok (.iload_n 2, 1) := by decide +kernel
theorem dX4_resize_8 : decode cX4_resize 8 = .ok (.aload_n 0, 1) := by decide +kernel
theorem dX4_resize_9 : decode cX4_resize 9 = .ok (.getfield 15, 3) := by decide +kernel
theorem dX4_resize_12 : decode cX4_resize 12 = .ok (.arraylength, 1) := by decide +kernel
theorem dX4_resize_13 : decode cX4_resize 13 = .ok (.if_icmp .ge 21, 3) := by decide +kernel
theorem dX4_resize_16 : decode cX4_resize 16 = .ok (.iload_n 2, 1) := by decide +kernel
theorem dX4_resize_17 : decode cX4_resize 17 = .ok (.iload_n 1, 1) := by decide +kernel
theorem dX4_resize_18 : decode cX4_resize 18 = .ok (.if_icmp .lt 10, 3) := by decide +kernel
theorem dX4_resize_21 : decode cX4_resize 21 = .ok (.aload_n 0, 1) := by decide +kernel
theorem dX4_resize_22 : decode cX4_resize 22 = .ok (.getfield 15, 3) := by decide +kernel
theorem dX4_resize_25 : decode cX4_resize 25 = .ok (.iload_n 2, 1) := by decide +kernel
theorem dX4_resize_26 : decode cX4_resize 26 = .ok (.iconst 0, 1) := by decide +kernel
theorem dX4_resize_27 : decode cX4_resize 27 = .ok (.iastore, 1) := by decide +kernel
theorem dX4_resize_28 : decode cX4_resize 28 = .ok (.iinc 2 1, 3) := by decide +kernel
theorem dX4_resize_31 : decode cX4_resize 31 = .ok (.goto (-24), 3) := by decide +kernel
theorem dX4_resize_34 : decode cX4_resize 34 = .ok (.aload_n 0, 1) := by decide +kernel
theorem dX4_resize_35 : decode cX4_resize 35 = .ok (.invokevirtual 41, 3) := by decide +kernel
theorem dX4_resize_38 : decode cX4_resize 38 = .ok (.return_, 1) := by decide +kernel
set_option maxRecDepth 20000 in
theorem ggX4_change_X4_allForget : GoodIn wsX4_change wsX4_allForget := goodIn_r _ [6, 7, 8, 9, 10, 11, 12, 13, 14, 15, 16, 17, 18, 19, 20, 21, 22, 23, 24, 25, 26, 27] (by decide +kernel) (by decide +kernel)
set_option maxRecDepth 20000 in
theorem gX4_change_X4_allForget : GoodIn wsX4_change (wsV RX4 41 RX4 yX4_allForget wsX4_allForget) := goodIn_app (goodIn_of _ (by decide +kernel)) ggX4_change_X4_allForget
theorem dX4_change_0 : decode cX4_change 0 = .ok (.iload_n 1, 1) := by decide +kernel
theorem dX4_change_1 : decode cX4_change 1 = .ok (.ifCond .lt 19, 3) := by decide +kernel
theorem dX4_change_4 : decode cX4_change 4 = .ok (.iload_n 1, 1) := by decide +kernel
theorem dX4_change_5 : decode cX4_change 5 = .ok (.aload_n 0, 1) := by decide +kernel
theorem dX4_change_6 : decode cX4_change 6 = .ok (.getfield 15, 3) := by decide +kernel
theorem dX4_change_9 : decode cX4_change 9 = .ok (.arraylength, 1) := by decide +kernel
theorem dX4_change_10 : decode cX4_change 10 = .ok (.if_icmp .ge 10, 3) := by decide +kernel
theorem dX4_change_13 : decode cX4_change 13 = .ok (.aload_n 0, 1) := by decide +kernel
theorem dX4_change_14 : decode cX4_change 14 = .ok (.getfield 15, 3) := by decide +kernel
theorem dX4_change_17 : decode cX4_change 17 = .ok (.iload_n 1, 1) := by decide +kernel
theorem dX4_change_18 : decode cX4_change 18 = .ok (.iload_n 2, 1) := by decide +kernel
theorem dX4_change_19 : decode cX4_change 19 = .ok (.iastore, 1) := by decide +kernel
theorem dX4_change_20 : decode cX4_change 20 = .ok (.aload_n 0, 1) := by decide +kernel
theorem dX4_change_21 : decode cX4_change 21 = .ok (.invokevirtual 41, 3) := by decide +kernel
theorem dX4_change_24 : decode cX4_change 24 = .ok (.return_, 1) := by decide +kernel
set_option maxRecDepth 20000 in
theorem ggX4_allForget_X3_forgetAll : GoodIn wsX4_allForget wsX3_forgetAll := goodIn_r _ [6, 7, 8, 9, 14, 15, 16, 17, 18, 19, 20, 21] (by decide +kernel) (by decide +kernel)
set_option maxRecDepth 20000 in
theorem gX4_allForget_X3_forgetAll : GoodIn wsX4_allForget (wsV RX4 44 RX3 yX3_forgetAll wsX3_forgetAll) := goodIn_app (goodIn_of _ (by decide +kernel)) ggX4_allForget_X3_forgetAll
theorem dX4_allForget_0 : decode cX4_allForget 0 = .ok (.iconst 0, 1) := by decide +kernel
theorem dX4_allForget_1 : decode cX4_allForget 1 = .ok (.istore_n 1, 1) := by decide +kernel
theorem dX4_allForget_2 : decode cX4_allForget 2 = .ok (.iload_n 1, 1) := by decide +kernel
theorem dX4_allForget_3 : decode cX4_allForget 3 = .ok (.aload_n 0, 1) := by decide +kernel
theorem dX4_allForget_4 : decode cX4_allForget 4 = .ok (.getfield 24, 3) := by decide +kernel
theorem dX4_allForget_7 : decode cX4_allForget 7 = .ok (.arraylength, 1) := by decide +kernel
theorem dX4_allForget_8 : decode cX4_allForget 8 = .ok (.if_icmp .ge 24, 3) := by decide +kernel
theorem dX4_allForget_11 : decode cX4_allForget 11 = .ok (.aload_n 0, 1) := by decide +kernel
theorem dX4_allForget_12 : decode cX4_allForget 12 = .ok (.getfield 24, 3) := by decide +kernel
theorem dX4_allForget_15 : decode cX4_allForget 15 = .ok (.iload_n 1, 1) := by decide +kernel
theorem dX4_allForget_16 : decode cX4_allForget 16 = .ok (.aaload, 1) := by decide +kernel
theorem dX4_allForget_17 : decode cX4_allForget 17 = .ok (.astore_n 2, 1) := by decide +kernel
theorem dX4_allForget_18 : decode cX4_allForget 18 = .ok (.aload_n 2, 1) := by decide +kernel
theorem dX4_allForget_19 : decode cX4_allForget 19 = .ok (.ifnull 7, 3) := by decide +kernel
theorem dX4_allForget_22 : decode cX4_allForget 22 = .ok (.aload_n 2, 1) := by decide +kernel
theorem dX4_allForget_23 : decode cX4_allForget 23 = .ok (.invokevirtual 44, 3) := by decide +kernel
theorem dX4_allForget_26 : decode cX4_allForget 26 = .ok (.iinc 1 1, 3) := by decide +kernel
theorem dX4_allForget_29 : decode cX4_allForget 29 = .ok (.goto (-27), 3) := by decide +kernel
theorem dX4_allForget_32 : decode cX4_allForget 32 = .ok (.return_, 1) := by decide +kernel
set_option maxRecDepth 20000 in
theorem ggX4_sendOne_X4_mixOf : GoodIn wsX4_sendOne wsX4_mixOf := goodIn_r _ [7, 8, 9, 10, 11, 12, 13, 14, 15, 6, 16, 17, 18, 19, 20, 21, 22, 23, 24, 72, 73, 74, 75] (by decide +kernel) (by decide +kernel)
set_option maxRecDepth 20000 in
theorem gX4_sendOne_X4_mixOf : GoodIn wsX4_sendOne (wsV RX4 47 RX4 yX4_mixOf wsX4_mixOf) := goodIn_app (goodIn_of _ (by decide +kernel)) ggX4_sendOne_X4_mixOf
set_option maxRecDepth 20000 in
theorem ggX4_sendOne_X3_get : GoodIn wsX4_sendOne wsX3_get := goodIn_r _ [29, 30, 31, 32, 33, 34, 35, 36, 28, 37, 38, 17, 18, 19, 39, 40, 41, 42, 43, 44, 45, 46, 47, 48, 49, 50, 51, 52, 53, 54, 55, 56, 57, 58, 59, 60, 61, 62, 63, 64, 65, 66, 67, 68, 69, 70, 71, 76, 77, 78, 79, 80, 81, 82, 83] (by decide +kernel) (by decide +kernel)
set_option maxRecDepth 20000 in
theorem gX4_sendOne_X3_get : GoodIn wsX4_sendOne (wsV RX4 55 RX3 yX3_get wsX3_get) := goodIn_app (goodIn_of _ (by decide +kernel)) ggX4_sendOne_X3_get
theorem dX4_sendOne_0 : decode cX4_sendOne 0 = .ok (.aload_n 0, 1) := by decide +kernel
theorem dX4_sendOne_1 : decode cX4_sendOne 1 = .ok (.dup, 1) := by decide +kernel
theorem dX4_sendOne_2 : decode cX4_sendOne 2 = .ok (.getfield 19, 3) := by decide +kernel
theorem dX4_sendOne_5 : decode cX4_sendOne 5 = .ok (.iconst 1, 1) := by decide +kernel
theorem dX4_sendOne_6 : decode cX4_sendOne 6 = .ok (.iadd, 1) := by decide +kernel
theorem dX4_sendOne_7 : decode cX4_sendOne 7 = .ok (.putfield 19, 3) := by decide +kernel
theorem dX4_sendOne_10 : decode cX4_sendOne 10 = .ok (.aload_n 0, 1) := by decide +kernel
theorem dX4_sendOne_11 : decode cX4_sendOne 11 = .ok (.iload_n 1, 1) := by decide +kernel
theorem dX4_sendOne_12 : decode cX4_sendOne 12 = .ok (.invokevirtual 47, 3) := by decide +kernel
theorem dX4_sendOne_15 : decode cX4_sendOne 15 = .ok (.istore_n 2, 1) := by decide +kernel
theorem dX4_sendOne_16 : decode cX4_sendOne 16 = .ok (.iconst 0, 1) := by decide +kernel
theorem dX4_sendOne_17 : decode cX4_sendOne 17 = .ok (.istore_n 3, 1) := by decide +kernel
theorem dX4_sendOne_18 : decode cX4_sendOne 18 = .ok (.iconst 0, 1) := by decide +kernel
theorem dX4_sendOne_19 : decode cX4_sendOne 19 = .ok (.istore 4, 2) := by decide +kernel
theorem dX4_sendOne_21 : decode cX4_sendOne 21 = .ok (.iload 4, 2) := by decide +kernel
theorem dX4_sendOne_23 : decode cX4_sendOne 23 = .ok (.aload_n 0, 1) := by decide +kernel
theorem dX4_sendOne_24 : decode cX4_sendOne 24 = .ok (.getfield 24, 3) := by decide +kernel
theorem dX4_sendOne_27 : decode cX4_sendOne 27 = .ok (.arraylength, 1) := by decide +kernel
theorem dX4_sendOne_28 : decode cX4_sendOne 28 = .ok (.if_icmp .ge 40, 3) := by decide +kernel
theorem dX4_sendOne_31 : decode cX4_sendOne 31 = .ok (.aload_n 0, 1) := by decide +kernel
theorem dX4_sendOne_32 : decode cX4_sendOne 32 = .ok (.getfield 24, 3) := by decide +kernel
theorem dX4_sendOne_35 : decode cX4_sendOne 35 = .ok (.iload 4, 2) := by decide +kernel
theorem dX4_sendOne_37 : decode cX4_sendOne 37 = .ok (.aaload, 1) := by decide +kernel
theorem dX4_sendOne_38 : decode cX4_sendOne 38 = .ok (.astore 5, 2) := by decide +kernel
theorem dX4_sendOne_40 : decode cX4_sendOne 40 = .ok (.aload 5, 2) := by decide +kernel
theorem dX4_sendOne_42 : decode cX4_sendOne 42 = .ok (.ifnull 20, 3) := by decide +kernel
theorem dX4_sendOne_45 : decode cX4_sendOne 45 = .ok (.aload 5, 2) := by decide +kernel
theorem dX4_sendOne_47 : decode cX4_sendOne 47 = .ok (.getfield 51, 3) := by decide +kernel
theorem dX4_sendOne_50 : decode cX4_sendOne 50 = .ok (.ifCond .eq 12, 3) := by decide +kernel
theorem dX4_sendOne_53 : decode cX4_sendOne 53 = .ok (.iload_n 3, 1) := by decide +kernel
theorem dX4_sendOne_54 : decode cX4_sendOne 54 = .ok (.aload 5, 2) := by decide +kernel
theorem dX4_sendOne_56 : decode cX4_sendOne 56 = .ok (.iload_n 2, 1) := by decide +kernel
theorem dX4_sendOne_57 : decode cX4_sendOne 57 = .ok (.invokevirtual 55, 3) := by decide +kernel
theorem dX4_sendOne_60 : decode cX4_sendOne 60 = .ok (.iadd, 1) := by decide +kernel
theorem dX4_sendOne_61 : decode cX4_sendOne 61 = .ok (.istore_n 3, 1) := by decide +kernel
theorem dX4_sendOne_62 : decode cX4_sendOne 62 = .ok (.iinc 4 1, 3) := by decide +kernel
theorem dX4_sendOne_65 : decode cX4_sendOne 65 = .ok (.goto (-44), 3) := by decide +kernel
theorem dX4_sendOne_68 : decode cX4_sendOne 68 = .ok (.iload_n 3, 1) := by decide +kernel
theorem dX4_sendOne_69 : decode cX4_sendOne 69 = .ok (.ireturn, 1) := by decide +kernel
set_option maxRecDepth 20000 in
theorem ggX4_mixOf_X4_firstOutside : GoodIn wsX4_mixOf wsX4_firstOutside := goodIn_r _ [10, 1, 11, 12, 13, 19, 20, 21, 22] (by decide +kernel) (by decide +kernel)
set_option maxRecDepth 20000 in
theorem gX4_mixOf_X4_firstOutside : GoodIn wsX4_mixOf (wsV RX4 67 RX4 yX4_firstOutside wsX4_firstOutside) := goodIn_app (goodIn_of _ (by decide +kernel)) ggX4_mixOf_X4_firstOutside
set_option maxRecDepth 20000 in
theorem ggX4_mixOf_X4_valueAt : GoodIn wsX4_mixOf wsX4_valueAt := goodIn_r _ [17, 18, 19, 20, 21, 22] (by decide +kernel) (by decide +kernel)
set_option maxRecDepth 20000 in
theorem gX4_mixOf_X4_valueAt : GoodIn wsX4_mixOf (wsV RX4 70 RX4 yX4_valueAt wsX4_valueAt) := goodIn_app (goodIn_of _ (by decide +kernel)) ggX4_mixOf_X4_valueAt
theorem dX4_mixOf_0 : decode cX4_mixOf 0 = .ok (.iload_n 1, 1) := by decide +kernel
theorem dX4_mixOf_1 : decode cX4_mixOf 1 = .ok (.sipush 7919, 3) := by decide +kernel
theorem dX4_mixOf_4 : decode cX4_mixOf 4 = .ok (.imul, 1) := by decide +kernel
theorem dX4_mixOf_5 : decode cX4_mixOf 5 = .ok (.bipush 17, 2) := by decide +kernel
theorem dX4_mixOf_7 : decode cX4_mixOf 7 = .ok (.iadd, 1) := by decide +kernel
theorem dX4_mixOf_8 : decode cX4_mixOf 8 = .ok (.sipush 30269, 3) := by decide +kernel
theorem dX4_mixOf_11 : decode cX4_mixOf 11 = .ok (.irem, 1) := by decide +kernel
theorem dX4_mixOf_12 : decode cX4_mixOf 12 = .ok (.istore_n 2, 1) := by decide +kernel
theorem dX4_mixOf_13 : decode cX4_mixOf 13 = .ok (.getstatic 58, 3) := by decide +kernel
theorem dX4_mixOf_16 : decode cX4_mixOf 16 = .ok (.iload_n 2, 1) := by decide +kernel
theorem dX4_mixOf_17 : decode cX4_mixOf 17 = .ok (.bipush 15, 2) := by decide +kernel
theorem dX4_mixOf_19 : decode cX4_mixOf 19 = .ok (.iand, 1) := by decide +kernel
theorem dX4_mixOf_20 : decode cX4_mixOf 20 = .ok (.iaload, 1) := by decide +kernel
theorem dX4_mixOf_21 : decode cX4_mixOf 21 = .ok (.aload_n 0, 1) := by decide +kernel
theorem dX4_mixOf_22 : decode cX4_mixOf 22 = .ok (.getfield 9, 3) := by decide +kernel
theorem dX4_mixOf_25 : decode cX4_mixOf 25 = .ok (.invokestatic 61, 3) := by decide +kernel
theorem dX4_mixOf_28 : decode cX4_mixOf 28 = .ok (.istore_n 3, 1) := by decide +kernel
theorem dX4_mixOf_29 : decode cX4_mixOf 29 = .ok (.iconst 0, 1) := by decide +kernel
theorem dX4_mixOf_30 : decode cX4_mixOf 30 = .ok (.istore 4, 2) := by decide +kernel
theorem dX4_mixOf_32 : decode cX4_mixOf 32 = .ok (.iconst 0, 1) := by decide +kernel
theorem dX4_mixOf_33 : decode cX4_mixOf 33 = .ok (.istore 5, 2) := by decide +kernel
theorem dX4_mixOf_35 : decode cX4_mixOf 35 = .ok (.iload 5, 2) := by decide +kernel
theorem dX4_mixOf_37 : decode cX4_mixOf 37 = .ok (.iload_n 3, 1) := by decide +kernel
theorem dX4_mixOf_38 : decode cX4_mixOf 38 = .ok (.if_icmp .ge 62, 3) := by decide +kernel
theorem dX4_mixOf_41 : decode cX4_mixOf 41 = .ok (.aload_n 0, 1) := by decide +kernel
theorem dX4_mixOf_42 : decode cX4_mixOf 42 = .ok (.getfield 9, 3) := by decide +kernel
theorem dX4_mixOf_45 : decode cX4_mixOf 45 = .ok (.ifCond .le 55, 3) := by decide +kernel
theorem dX4_mixOf_48 : decode cX4_mixOf 48 = .ok (.iload_n 2, 1) := by decide +kernel
theorem dX4_mixOf_49 : decode cX4_mixOf 49 = .ok (.sipush 171, 3) := by decide +kernel
theorem dX4_mixOf_52 : decode cX4_mixOf 52 = .ok (.imul, 1) := by decide +kernel
theorem dX4_mixOf_53 : decode cX4_mixOf 53 = .ok (.bipush 11, 2) := by decide +kernel
theorem dX4_mixOf_55 : decode cX4_mixOf 55 = .ok (.iadd, 1) := by decide +kernel
theorem dX4_mixOf_56 : decode cX4_mixOf 56 = .ok (.sipush 30269, 3) := by decide +kernel
theorem dX4_mixOf_59 : decode cX4_mixOf 59 = .ok (.irem, 1) := by decide +kernel
theorem dX4_mixOf_60 : decode cX4_mixOf 60 = .ok (.istore_n 2, 1) := by decide +kernel
theorem dX4_mixOf_61 : decode cX4_mixOf 61 = .ok (.aload_n 0, 1) := by decide +kernel
theorem dX4_mixOf_62 : decode cX4_mixOf 62 = .ok (.iload 4, 2) := by decide +kernel
theorem dX4_mixOf_64 : decode cX4_mixOf 64 = .ok (.iload_n 2, 1) := by decide +kernel
theorem dX4_mixOf_65 : decode cX4_mixOf 65 = .ok (.aload_n 0, 1) := by decide +kernel
theorem dX4_mixOf_66 : decode cX4_mixOf 66 = .ok (.getfield 9, 3) := by decide +kernel
theorem dX4_mixOf_69 : decode cX4_mixOf 69 = .ok (.irem, 1) := by decide +kernel
theorem dX4_mixOf_70 : decode cX4_mixOf 70 = .ok (.invokevirtual 67, 3) := by decide +kernel
theorem dX4_mixOf_73 : decode cX4_mixOf 73 = .ok (.istore 6, 2) := by decide +kernel
theorem dX4_mixOf_75 : decode cX4_mixOf 75 = .ok (.iload 4, 2) := by decide +kernel
theorem dX4_mixOf_77 : decode cX4_mixOf 77 = .ok (.iconst 1, 1) := by decide +kernel
theorem dX4_mixOf_78 : decode cX4_mixOf 78 = .ok (.iload 6, 2) := by decide +kernel
theorem dX4_mixOf_80 : decode cX4_mixOf 80 = .ok (.ishl, 1) := by decide +kernel
theorem dX4_mixOf_81 : decode cX4_mixOf 81 = .ok (.aload_n 0, 1) := by decide +kernel
theorem dX4_mixOf_82 : decode cX4_mixOf 82 = .ok (.iload 6, 2) := by decide +kernel
theorem dX4_mixOf_84 : decode cX4_mixOf 84 = .ok (.invokevirtual 70, 3) := by decide +kernel
theorem dX4_mixOf_87 : decode cX4_mixOf 87 = .ok (.bipush 12, 2) := by decide +kernel
theorem dX4_mixOf_89 : decode cX4_mixOf 89 = .ok (.ishl, 1) := by decide +kernel
theorem dX4_mixOf_90 : decode cX4_mixOf 90 = .ok (.ior, 1) := by decide +kernel
theorem dX4_mixOf_91 : decode cX4_mixOf 91 = .ok (.ixor, 1) := by decide +kernel
theorem dX4_mixOf_92 : decode cX4_mixOf 92 = .ok (.istore 4, 2) := by decide +kernel
theorem dX4_mixOf_94 : decode cX4_mixOf 94 = .ok (.iinc 5 1, 3) := by decide +kernel
theorem dX4_mixOf_97 : decode cX4_mixOf 97 = .ok (.goto (-62), 3) := by decide +kernel
theorem dX4_mixOf_100 : decode cX4_mixOf 100 = .ok (.iload 4, 2) := by decide +kernel
theorem dX4_mixOf_102 : decode cX4_mixOf 102 = .ok (.ireturn, 1) := by decide +kernel
set_option maxRecDepth 20000 in
theorem ggX4_firstOutside_X5_holds : GoodIn wsX4_firstOutside wsX5_holds := goodIn_r _ [4] (by decide +kernel) (by decide +kernel)
set_option maxRecDepth 20000 in
theorem gX4_firstOutside_X5_holds_n73 : GoodIn wsX4_firstOutside (wsX5_holds) := ggX4_firstOutside_X5_holds
theorem dX4_firstOutside_0 : decode cX4_firstOutside 0 = .ok (.iload_n 2, 1) := by decide +kernel
theorem dX4_firstOutside_1 : decode cX4_firstOutside 1 = .ok (.istore_n 3, 1) := by decide +kernel
theorem dX4_firstOutside_2 : decode cX4_firstOutside 2 = .ok (.iconst 0, 1) := by decide +kernel
theorem dX4_firstOutside_3 : decode cX4_firstOutside 3 = .ok (.istore 4, 2) := by decide +kernel
theorem dX4_firstOutside_5 : decode cX4_firstOutside 5 = .ok (.iload 4, 2) := by decide +kernel
theorem dX4_firstOutside_7 : decode cX4_firstOutside 7 = .ok (.aload_n 0, 1) := by decide +kernel
theorem dX4_firstOutside_8 : decode cX4_firstOutside 8 = .ok (.getfield 9, 3) := by decide +kernel
theorem dX4_firstOutside_11 : decode cX4_firstOutside 11 = .ok (.if_icmp .ge 35, 3) := by decide +kernel
theorem dX4_firstOutside_14 : decode cX4_firstOutside 14 = .ok (.iload_n 1, 1) := by decide +kernel
theorem dX4_firstOutside_15 : decode cX4_firstOutside 15 = .ok (.iload_n 3, 1) := by decide +kernel
theorem dX4_firstOutside_16 : decode cX4_firstOutside 16 = .ok (.invokestatic 73, 3) := by decide +kernel
theorem dX4_firstOutside_19 : decode cX4_firstOutside 19 = .ok (.ifCond .eq 27, 3) := by decide +kernel
theorem dX4_firstOutside_22 : decode cX4_firstOutside 22 = .ok (.iload_n 3, 1) := by decide +kernel
theorem dX4_firstOutside_23 : decode cX4_firstOutside 23 = .ok (.iconst 1, 1) := by decide +kernel
theorem dX4_firstOutside_24 : decode cX4_firstOutside 24 = .ok (.iadd, 1) := by decide +kernel
theorem dX4_firstOutside_25 : decode cX4_firstOutside 25 = .ok (.aload_n 0, 1) := by decide +kernel
theorem dX4_firstOutside_26 : decode cX4_firstOutside 26 = .ok (.getfield 9, 3) := by decide +kernel
theorem dX4_firstOutside_29 : decode cX4_firstOutside 29 = .ok (.if_icmp .ge 9, 3) := by decide +kernel
theorem dX4_firstOutside_32 : decode cX4_firstOutside 32 = .ok (.iload_n 3, 1) := by decide +kernel
theorem dX4_firstOutside_33 : decode cX4_firstOutside 33 = .ok (.iconst 1, 1) := by decide +kernel
theorem dX4_firstOutside_34 : decode cX4_firstOutside 34 = .ok (.iadd, 1) := by decide +kernel
theorem dX4_firstOutside_35 : decode cX4_firstOutside 35 = .ok (.goto 4, 3) := by decide +kernel
theorem dX4_firstOutside_38 : decode cX4_firstOutside 38 = .ok (.iconst 0, 1) := by decide +kernel
theorem dX4_firstOutside_39 : decode cX4_firstOutside 39 = .ok (.istore_n 3, 1) := by decide +kernel
theorem dX4_firstOutside_40 : decode cX4_firstOutside 40 = .ok (.iinc 4 1, 3) := by decide +kernel
theorem dX4_firstOutside_43 : decode cX4_firstOutside 43 = .ok (.goto (-38), 3) := by decide +kernel
theorem dX4_firstOutside_46 : decode cX4_firstOutside 46 = .ok (.iload_n 3, 1) := by decide +kernel
theorem dX4_firstOutside_47 : decode cX4_firstOutside 47 = .ok (.ireturn, 1) := by decide +kernel
set_option maxRecDepth 20000 in
theorem ggX4_allTogether_X4_valueAt : GoodIn wsX4_allTogether wsX4_valueAt := goodIn_r _ [6, 7, 8, 9, 10, 11] (by decide +kernel) (by decide +kernel)
set_option maxRecDepth 20000 in
theorem gX4_allTogether_X4_valueAt : GoodIn wsX4_allTogether (wsV RX4 70 RX4 yX4_valueAt wsX4_valueAt) := goodIn_app (goodIn_of _ (by decide +kernel)) ggX4_allTogether_X4_valueAt
theorem dX4_allTogether_0 : decode cX4_allTogether 0 = .ok (.iconst 0, 1) := by decide +kernel
theorem dX4_allTogether_1 : decode cX4_allTogether 1 = .ok (.istore_n 1, 1) := by decide +kernel
theorem dX4_allTogether_2 : decode cX4_allTogether 2 = .ok (.iconst 0, 1) := by decide +kernel
theorem dX4_allTogether_3 : decode cX4_allTogether 3 = .ok (.istore_n 2, 1) := by decide +kernel
theorem dX4_allTogether_4 : decode cX4_allTogether 4 = .ok (.iload_n 2, 1) := by decide +kernel
theorem dX4_allTogether_5 : decode cX4_allTogether 5 = .ok (.aload_n 0, 1) := by decide +kernel
theorem dX4_allTogether_6 : decode cX4_allTogether 6 = .ok (.getfield 9, 3) := by decide +kernel
theorem dX4_allTogether_9 : decode cX4_allTogether 9 = .ok (.if_icmp .ge 17, 3) := by decide +kernel
theorem dX4_allTogether_12 : decode cX4_allTogether 12 = .ok (.iload_n 1, 1) := by decide +kernel
theorem dX4_allTogether_13 : decode cX4_allTogether 13 = .ok (.aload_n 0, 1) := by decide +kernel
theorem dX4_allTogether_14 : decode cX4_allTogether 14 = .ok (.iload_n 2, 1) := by decide +kernel
theorem dX4_allTogether_15 : decode cX4_allTogether 15 = .ok (.invokevirtual 70, 3) := by decide +kernel
theorem dX4_allTogether_18 : decode cX4_allTogether 18 = .ok (.ixor, 1) := by decide +kernel
theorem dX4_allTogether_19 : decode cX4_allTogether 19 = .ok (.istore_n 1, 1) := by decide +kernel
theorem dX4_allTogether_20 : decode cX4_allTogether 20 = .ok (.iinc 2 1, 3) := by decide +kernel
theorem dX4_allTogether_23 : decode cX4_allTogether 23 = .ok (.goto (-19), 3) := by decide +kernel
theorem dX4_allTogether_26 : decode cX4_allTogether 26 = .ok (.iload_n 1, 1) := by decide +kernel
theorem dX4_allTogether_27 : decode cX4_allTogether 27 = .ok (.ireturn, 1) := by decide +kernel
theorem dX4_listening_0 : decode cX4_listening 0 = .ok (.iconst 0, 1) := by decide +kernel
theorem dX4_listening_1 : decode cX4_listening 1 = .ok (.istore_n 1, 1) := by decide +kernel
theorem dX4_listening_2 : decode cX4_listening 2 = .ok (.iconst 0, 1) := by decide +kernel
theorem dX4_listening_3 : decode cX4_listening 3 = .ok (.istore_n 2, 1) := by decide +kernel
theorem dX4_listening_4 : decode cX4_listening 4 = .ok (.iload_n 2, 1) := by decide +kernel
theorem dX4_listening_5 : decode cX4_listening 5 = .ok (.aload_n 0, 1) := by decide +kernel
theorem dX4_listening_6 : decode cX4_listening 6 = .ok (.getfield 24, 3) := by decide +kernel
theorem dX4_listening_9 : decode cX4_listening 9 = .ok (.arraylength, 1) := by decide +kernel
theorem dX4_listening_10 : decode cX4_listening 10 = .ok (.if_icmp .ge 30, 3) := by decide +kernel
theorem dX4_listening_13 : decode cX4_listening 13 = .ok (.aload_n 0, 1) := by decide +kernel
theorem dX4_listening_14 : decode cX4_listening 14 = .ok (.getfield 24, 3) := by decide +kernel
theorem dX4_listening_17 : decode cX4_listening 17 = .ok (.iload_n 2, 1) := by decide +kernel
theorem dX4_listening_18 : decode cX4_listening 18 = .ok (.aaload, 1) := by decide +kernel
theorem dX4_listening_19 : decode cX4_listening 19 = .ok (.astore_n 3, 1) := by decide +kernel
theorem dX4_listening_20 : decode cX4_listening 20 = .ok (.aload_n 3, 1) := by decide +kernel
theorem dX4_listening_21 : decode cX4_listening 21 = .ok (.ifnull 13, 3) := by decide +kernel
theorem dX4_listening_24 : decode cX4_listening 24 = .ok (.aload_n 3, 1) := by decide +kernel
theorem dX4_listening_25 : decode cX4_listening 25 = .ok (.getfield 51, 3) := by decide +kernel
theorem dX4_listening_28 : decode cX4_listening 28 = .ok (.ifCond .eq 6, 3) := by decide +kernel
theorem dX4_listening_31 : decode cX4_listening 31 = .ok (.iinc 1 1, 3) := by decide +kernel
theorem dX4_listening_34 : decode cX4_listening 34 = .ok (.iinc 2 1, 3) := by decide +kernel
theorem dX4_listening_37 : decode cX4_listening 37 = .ok (.goto (-33), 3) := by decide +kernel
theorem dX4_listening_40 : decode cX4_listening 40 = .ok (.iload_n 1, 1) := by decide +kernel
theorem dX4_listening_41 : decode cX4_listening 41 = .ok (.ireturn, 1) := by decide +kernel
set_option maxRecDepth 20000 in
theorem ggX4_done_X4_isDone : GoodIn wsX4_done wsX4_isDone := goodIn_r _ [6, 7, 8, 9, 10, 11, 12, 13, 14, 15, 16, 17, 18, 19, 20, 21, 22, 23, 24, 25, 26, 27, 28, 29, 30, 31, 32] (by decide +kernel) (by decide +kernel)
set_option maxRecDepth 20000 in
theorem gX4_done_X4_isDone : GoodIn wsX4_done (wsV RX4 77 RX4 yX4_isDone wsX4_isDone) := goodIn_app (goodIn_of _ (by decide +kernel)) ggX4_done_X4_isDone
theorem dX4_done_0 : decode cX4_done 0 = .ok (.iconst 0, 1) := by decide +kernel
theorem dX4_done_1 : decode cX4_done 1 = .ok (.istore_n 1, 1) := by decide +kernel
theorem dX4_done_2 : decode cX4_done 2 = .ok (.iconst 0, 1) := by decide +kernel
theorem dX4_done_3 : decode cX4_done 3 = .ok (.istore_n 2, 1) := by decide +kernel
theorem dX4_done_4 : decode cX4_done 4 = .ok (.iload_n 2, 1) := by decide +kernel
theorem dX4_done_5 : decode cX4_done 5 = .ok (.aload_n 0, 1) := by decide +kernel
theorem dX4_done_6 : decode cX4_done 6 = .ok (.getfield 24, 3) := by decide +kernel
theorem dX4_done_9 : decode cX4_done 9 = .ok (.arraylength, 1) := by decide +kernel
theorem dX4_done_10 : decode cX4_done 10 = .ok (.if_icmp .ge 31, 3) := by decide +kernel
theorem dX4_done_13 : decode cX4_done 13 = .ok (.aload_n 0, 1) := by decide +kernel
theorem dX4_done_14 : decode cX4_done 14 = .ok (.getfield 24, 3) := by decide +kernel
theorem dX4_done_17 : decode cX4_done 17 = .ok (.iload_n 2, 1) := by decide +kernel
theorem dX4_done_18 : decode cX4_done 18 = .ok (.aaload, 1) := by decide +kernel
theorem dX4_done_19 : decode cX4_done 19 = .ok (.astore_n 3, 1) := by decide +kernel
theorem dX4_done_20 : decode cX4_done 20 = .ok (.aload_n 3, 1) := by decide +kernel
theorem dX4_done_21 : decode cX4_done 21 = .ok (.ifnull 14, 3) := by decide +kernel
theorem dX4_done_24 : decode cX4_done 24 = .ok (.aload_n 0, 1) := by decide +kernel
theorem dX4_done_25 : decode cX4_done 25 = .ok (.aload_n 3, 1) := by decide +kernel
theorem dX4_done_26 : decode cX4_done 26 = .ok (.invokevirtual 77, 3) := by decide +kernel
theorem dX4_done_29 : decode cX4_done 29 = .ok (.ifCond .eq 6, 3) := by decide +kernel
theorem dX4_done_32 : decode cX4_done 32 = .ok (.iinc 1 1, 3) := by decide +kernel
theorem dX4_done_35 : decode cX4_done 35 = .ok (.iinc 2 1, 3) := by decide +kernel
theorem dX4_done_38 : decode cX4_done 38 = .ok (.goto (-34), 3) := by decide +kernel
theorem dX4_done_41 : decode cX4_done 41 = .ok (.iload_n 1, 1) := by decide +kernel
theorem dX4_done_42 : decode cX4_done 42 = .ok (.ireturn, 1) := by decide +kernel
set_option maxRecDepth 20000 in
theorem ggX4_isDone_X3_knows : GoodIn wsX4_isDone wsX3_knows := goodIn_r _ [6, 7, 8, 9, 10, 11, 12, 13, 14, 19, 20, 21, 22, 23, 24, 25, 26] (by decide +kernel) (by decide +kernel)
set_option maxRecDepth 20000 in
theorem gX4_isDone_X3_knows : GoodIn wsX4_isDone (wsV RX4 81 RX3 yX3_knows wsX3_knows) := goodIn_app (goodIn_of _ (by decide +kernel)) ggX4_isDone_X3_knows
theorem dX4_isDone_0 : decode cX4_isDone 0 = .ok (.aload_n 1, 1) := by decide +kernel
theorem dX4_isDone_1 : decode cX4_isDone 1 = .ok (.invokevirtual 81, 3) := by decide +kernel
theorem dX4_isDone_4 : decode cX4_isDone 4 = .ok (.aload_n 0, 1) := by decide +kernel
theorem dX4_isDone_5 : decode cX4_isDone 5 = .ok (.getfield 9, 3) := by decide +kernel
theorem dX4_isDone_8 : decode cX4_isDone 8 = .ok (.if_icmp .ne 7, 3) := by decide +kernel
theorem dX4_isDone_11 : decode cX4_isDone 11 = .ok (.iconst 1, 1) := by decide +kernel
theorem dX4_isDone_12 : decode cX4_isDone 12 = .ok (.goto 4, 3) := by decide +kernel
theorem dX4_isDone_15 : decode cX4_isDone 15 = .ok (.iconst 0, 1) := by decide +kernel
theorem dX4_isDone_16 : decode cX4_isDone 16 = .ok (.ireturn, 1) := by decide +kernel
theorem dJ6_bitCount_0f7a4_0 : decode cJ6_bitCount_0f7a4 0 = .ok (.iload_n 0, 1) := by decide +kernel
theorem dJ6_bitCount_0f7a4_1 : decode cJ6_bitCount_0f7a4 1 = .ok (.iload_n 0, 1) := by decide +kernel
theorem dJ6_bitCount_0f7a4_2 : decode cJ6_bitCount_0f7a4 2 = .ok (.iconst 1, 1) := by decide +kernel
theorem dJ6_bitCount_0f7a4_3 : decode cJ6_bitCount_0f7a4 3 = .ok (.iushr, 1) := by decide +kernel
theorem dJ6_bitCount_0f7a4_4 : decode cJ6_bitCount_0f7a4 4 = .ok (.ldc_w 265, 3) := by decide +kernel
theorem dJ6_bitCount_0f7a4_7 : decode cJ6_bitCount_0f7a4 7 = .ok (.iand, 1) := by decide +kernel
theorem dJ6_bitCount_0f7a4_8 : decode cJ6_bitCount_0f7a4 8 = .ok (.isub, 1) := by decide +kernel
theorem dJ6_bitCount_0f7a4_9 : decode cJ6_bitCount_0f7a4 9 = .ok (.istore_n 0, 1) := by decide +kernel
theorem dJ6_bitCount_0f7a4_10 : decode cJ6_bitCount_0f7a4 10 = .ok (.iload_n 0, 1) := by decide +kernel
theorem dJ6_bitCount_0f7a4_11 : decode cJ6_bitCount_0f7a4 11 = .ok (.ldc_w 266, 3) := by decide +kernel
theorem dJ6_bitCount_0f7a4_14 : decode cJ6_bitCount_0f7a4 14 = .ok (.iand, 1) := by decide +kernel
theorem dJ6_bitCount_0f7a4_15 : decode cJ6_bitCount_0f7a4 15 = .ok (.iload_n 0, 1) := by decide +kernel
theorem dJ6_bitCount_0f7a4_16 : decode cJ6_bitCount_0f7a4 16 = .ok (.iconst 2, 1) := by decide +kernel
theorem dJ6_bitCount_0f7a4_17 : decode cJ6_bitCount_0f7a4 17 = .ok (.iushr, 1) := by decide +kernel
theorem dJ6_bitCount_0f7a4_18 : decode cJ6_bitCount_0f7a4 18 = .ok (.ldc_w 266, 3) := by decide +kernel
theorem dJ6_bitCount_0f7a4_21 : decode cJ6_bitCount_0f7a4 21 = .ok (.iand, 1) := by decide +kernel
theorem dJ6_bitCount_0f7a4_22 : decode cJ6_bitCount_0f7a4 22 = .ok (.iadd, 1) := by decide +kernel
theorem dJ6_bitCount_0f7a4_23 : decode cJ6_bitCount_0f7a4 23 = .ok (.istore_n 0, 1) := by decide +kernel
theorem dJ6_bitCount_0f7a4_24 : decode cJ6_bitCount_0f7a4 24 = .ok (.iload_n 0, 1) := by decide +kernel
theorem dJ6_bitCount_0f7a4_25 : decode cJ6_bitCount_0f7a4 25 = .ok (.iload_n 0, 1) := by decide +kernel
theorem dJ6_bitCount_0f7a4_26 : decode cJ6_bitCount_0f7a4 26 = .ok (.iconst 4, 1) := by decide +kernel
theorem dJ6_bitCount_0f7a4_27 : decode cJ6_bitCount_0f7a4 27 = .ok (.iushr, 1) := by decide +kernel
theorem dJ6_bitCount_0f7a4_28 : decode cJ6_bitCount_0f7a4 28 = .ok (.iadd, 1) := by decide +kernel
theorem dJ6_bitCount_0f7a4_29 : decode cJ6_bitCount_0f7a4 29 = .ok (.ldc_w 267, 3) := by decide +kernel
theorem dJ6_bitCount_0f7a4_32 : decode cJ6_bitCount_0f7a4 32 = .ok (.iand, 1) := by decide +kernel
theorem dJ6_bitCount_0f7a4_33 : decode cJ6_bitCount_0f7a4 33 = .ok (.istore_n 0, 1) := by decide +kernel
theorem dJ6_bitCount_0f7a4_34 : decode cJ6_bitCount_0f7a4 34 = .ok (.iload_n 0, 1) := by decide +kernel
theorem dJ6_bitCount_0f7a4_35 : decode cJ6_bitCount_0f7a4 35 = .ok (.iload_n 0, 1) := by decide +kernel
theorem dJ6_bitCount_0f7a4_36 : decode cJ6_bitCount_0f7a4 36 = .ok (.bipush 8, 2) := by decide +kernel
theorem dJ6_bitCount_0f7a4_38 : decode cJ6_bitCount_0f7a4 38 = .ok (.iushr, 1) := by decide +kernel
theorem dJ6_bitCount_0f7a4_39 : decode cJ6_bitCount_0f7a4 39 = .ok (.iadd, 1) := by decide +kernel
theorem dJ6_bitCount_0f7a4_40 : decode cJ6_bitCount_0f7a4 40 = .ok (.istore_n 0, 1) := by decide +kernel
theorem dJ6_bitCount_0f7a4_41 : decode cJ6_bitCount_0f7a4 41 = .ok (.iload_n 0, 1) := by decide +kernel
theorem dJ6_bitCount_0f7a4_42 : decode cJ6_bitCount_0f7a4 42 = .ok (.iload_n 0, 1) := by decide +kernel
theorem dJ6_bitCount_0f7a4_43 : decode cJ6_bitCount_0f7a4 43 = .ok (.bipush 16, 2) := by decide +kernel
theorem dJ6_bitCount_0f7a4_45 : decode cJ6_bitCount_0f7a4 45 = .ok (.iushr, 1) := by decide +kernel
theorem dJ6_bitCount_0f7a4_46 : decode cJ6_bitCount_0f7a4 46 = .ok (.iadd, 1) := by decide +kernel
theorem dJ6_bitCount_0f7a4_47 : decode cJ6_bitCount_0f7a4 47 = .ok (.istore_n 0, 1) := by decide +kernel
theorem dJ6_bitCount_0f7a4_48 : decode cJ6_bitCount_0f7a4 48 = .ok (.iload_n 0, 1) := by decide +kernel
theorem dJ6_bitCount_0f7a4_49 : decode cJ6_bitCount_0f7a4 49 = .ok (.bipush 63, 2) := by decide +kernel
theorem dJ6_bitCount_0f7a4_51 : decode cJ6_bitCount_0f7a4 51 = .ok (.iand, 1) := by decide +kernel
theorem dJ6_bitCount_0f7a4_52 : decode cJ6_bitCount_0f7a4 52 = .ok (.ireturn, 1) := by decide +kernel
theorem dJ9_min_7cf53_0 : decode cJ9_min_7cf53 0 = .ok (.iload_n 0, 1) := by decide +kernel
theorem dJ9_min_7cf53_1 : decode cJ9_min_7cf53 1 = .ok (.iload_n 1, 1) := by decide +kernel
theorem dJ9_min_7cf53_2 : decode cJ9_min_7cf53 2 = .ok (.if_icmp .gt 7, 3) := by decide +kernel
theorem dJ9_min_7cf53_5 : decode cJ9_min_7cf53 5 = .ok (.iload_n 0, 1) := by decide +kernel
theorem dJ9_min_7cf53_6 : decode cJ9_min_7cf53 6 = .ok (.goto 4, 3) := by decide +kernel
theorem dJ9_min_7cf53_9 : decode cJ9_min_7cf53 9 = .ok (.iload_n 1, 1) := by decide +kernel
theorem dJ9_min_7cf53_10 : decode cJ9_min_7cf53 10 = .ok (.ireturn, 1) := by decide +kernel
