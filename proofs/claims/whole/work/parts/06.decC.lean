theorem dX6_init_0 : decode cX6_init 0 = .ok (.aload_n 0, 1) := by decide +kernel
theorem dX6_init_1 : decode cX6_init 1 = .ok (.invokespecial 1, 3) := by decide +kernel
theorem dX6_init_4 : decode cX6_init 4 = .ok (.aload_n 0, 1) := by decide +kernel
theorem dX6_init_5 : decode cX6_init 5 = .ok (.bipush 104, 2) := by decide +kernel
theorem dX6_init_7 : decode cX6_init 7 = .ok (.newarray .int, 2) := by decide +kernel
theorem dX6_init_9 : decode cX6_init 9 = .ok (.putfield 7, 3) := by decide +kernel
theorem dX6_init_12 : decode cX6_init 12 = .ok (.aload_n 0, 1) := by decide +kernel
theorem dX6_init_13 : decode cX6_init 13 = .ok (.bipush 30, 2) := by decide +kernel
theorem dX6_init_15 : decode cX6_init 15 = .ok (.newarray .int, 2) := by decide +kernel
theorem dX6_init_17 : decode cX6_init 17 = .ok (.putfield 13, 3) := by decide +kernel
theorem dX6_init_20 : decode cX6_init 20 = .ok (.aload_n 0, 1) := by decide +kernel
theorem dX6_init_21 : decode cX6_init 21 = .ok (.sipush 624, 3) := by decide +kernel
theorem dX6_init_24 : decode cX6_init 24 = .ok (.newarray .int, 2) := by decide +kernel
theorem dX6_init_26 : decode cX6_init 26 = .ok (.putfield 16, 3) := by decide +kernel
theorem dX6_init_29 : decode cX6_init 29 = .ok (.aload_n 0, 1) := by decide +kernel
theorem dX6_init_30 : decode cX6_init 30 = .ok (.bipush 60, 2) := by decide +kernel
theorem dX6_init_32 : decode cX6_init 32 = .ok (.newarray .int, 2) := by decide +kernel
theorem dX6_init_34 : decode cX6_init 34 = .ok (.putfield 19, 3) := by decide +kernel
theorem dX6_init_37 : decode cX6_init 37 = .ok (.aload_n 0, 1) := by decide +kernel
theorem dX6_init_38 : decode cX6_init 38 = .ok (.bipush 12, 2) := by decide +kernel
theorem dX6_init_40 : decode cX6_init 40 = .ok (.newarray .int, 2) := by decide +kernel
theorem dX6_init_42 : decode cX6_init 42 = .ok (.putfield 22, 3) := by decide +kernel
theorem dX6_init_45 : decode cX6_init 45 = .ok (.aload_n 0, 1) := by decide +kernel
theorem dX6_init_46 : decode cX6_init 46 = .ok (.getfield 7, 3) := by decide +kernel
theorem dX6_init_49 : decode cX6_init 49 = .ok (.iconst 0, 1) := by decide +kernel
theorem dX6_init_50 : decode cX6_init 50 = .ok (.bipush 8, 2) := by decide +kernel
theorem dX6_init_52 : decode cX6_init 52 = .ok (.iastore, 1) := by decide +kernel
theorem dX6_init_53 : decode cX6_init 53 = .ok (.return_, 1) := by decide +kernel
theorem dX6_thrown_0 : decode cX6_thrown 0 = .ok (.aload_n 0, 1) := by decide +kernel
theorem dX6_thrown_1 : decode cX6_thrown 1 = .ok (.getfield 25, 3) := by decide +kernel
theorem dX6_thrown_4 : decode cX6_thrown 4 = .ok (.ireturn, 1) := by decide +kernel
theorem dX6_in_0 : decode cX6_in 0 = .ok (.iload_n 0, 1) := by decide +kernel
theorem dX6_in_1 : decode cX6_in 1 = .ok (.iload_n 1, 1) := by decide +kernel
theorem dX6_in_2 : decode cX6_in 2 = .ok (.if_icmp .lt 12, 3) := by decide +kernel
theorem dX6_in_5 : decode cX6_in 5 = .ok (.iload_n 0, 1) := by decide +kernel
theorem dX6_in_6 : decode cX6_in 6 = .ok (.iload_n 2, 1) := by decide +kernel
theorem dX6_in_7 : decode cX6_in 7 = .ok (.if_icmp .gt 7, 3) := by decide +kernel
theorem dX6_in_10 : decode cX6_in 10 = .ok (.iconst 1, 1) := by decide +kernel
theorem dX6_in_11 : decode cX6_in 11 = .ok (.goto 4, 3) := by decide +kernel
theorem dX6_in_14 : decode cX6_in 14 = .ok (.iconst 0, 1) := by decide +kernel
theorem dX6_in_15 : decode cX6_in 15 = .ok (.ireturn, 1) := by decide +kernel
theorem dX6_holds_0 : decode cX6_holds 0 = .ok (.aload_n 0, 1) := by decide +kernel
theorem dX6_holds_1 : decode cX6_holds 1 = .ok (.iload_n 1, 1) := by decide +kernel
theorem dX6_holds_2 : decode cX6_holds 2 = .ok (.putfield 25, 3) := by decide +kernel
theorem dX6_holds_5 : decode cX6_holds 5 = .ok (.iload_n 1, 1) := by decide +kernel
theorem dX6_holds_6 : decode cX6_holds 6 = .ok (.ifCond .ne 7, 3) := by decide +kernel
theorem dX6_holds_9 : decode cX6_holds 9 = .ok (.iconst 1, 1) := by decide +kernel
theorem dX6_holds_10 : decode cX6_holds 10 = .ok (.goto 4, 3) := by decide +kernel
theorem dX6_holds_13 : decode cX6_holds 13 = .ok (.iconst 0, 1) := by decide +kernel
theorem dX6_holds_14 : decode cX6_holds 14 = .ok (.ireturn, 1) := by decide +kernel
theorem dX6_of_0 : decode cX6_of 0 = .ok (.bipush 14, 2) := by decide +kernel
theorem dX6_of_2 : decode cX6_of 2 = .ok (.bipush 30, 2) := by decide +kernel
theorem dX6_of_4 : decode cX6_of 4 = .ok (.iload_n 0, 1) := by decide +kernel
theorem dX6_of_5 : decode cX6_of 5 = .ok (.imul, 1) := by decide +kernel
theorem dX6_of_6 : decode cX6_of 6 = .ok (.iadd, 1) := by decide +kernel
theorem dX6_of_7 : decode cX6_of 7 = .ok (.iload_n 1, 1) := by decide +kernel
theorem dX6_of_8 : decode cX6_of 8 = .ok (.iadd, 1) := by decide +kernel
theorem dX6_of_9 : decode cX6_of 9 = .ok (.ireturn, 1) := by decide +kernel
set_option maxRecDepth 20000 in
theorem ggX6_isReceiver_X6_in : GoodIn wsX6_isReceiver wsX6_in := goodIn_r _ [4] (by decide +kernel) (by decide +kernel)
set_option maxRecDepth 20000 in
theorem gX6_isReceiver_X6_in : GoodIn wsX6_isReceiver (va_wsS RX6 29 yX6_in wsX6_in) := goodIn_app (goodIn_of _ (by decide +kernel)) ggX6_isReceiver_X6_in
theorem dX6_isReceiver_0 : decode cX6_isReceiver 0 = .ok (.iload_n 0, 1) := by decide +kernel
theorem dX6_isReceiver_1 : decode cX6_isReceiver 1 = .ok (.iconst 0, 1) := by decide +kernel
theorem dX6_isReceiver_2 : decode cX6_isReceiver 2 = .ok (.iconst 2, 1) := by decide +kernel
theorem dX6_isReceiver_3 : decode cX6_isReceiver 3 = .ok (.invokestatic 29, 3) := by decide +kernel
theorem dX6_isReceiver_6 : decode cX6_isReceiver 6 = .ok (.ireturn, 1) := by decide +kernel
set_option maxRecDepth 20000 in
theorem ggX6_isBlock_X6_in : GoodIn wsX6_isBlock wsX6_in := goodIn_r _ [5] (by decide +kernel) (by decide +kernel)
set_option maxRecDepth 20000 in
theorem gX6_isBlock_X6_in : GoodIn wsX6_isBlock (va_wsS RX6 29 yX6_in wsX6_in) := goodIn_app (goodIn_of _ (by decide +kernel)) ggX6_isBlock_X6_in
theorem dX6_isBlock_0 : decode cX6_isBlock 0 = .ok (.iload_n 1, 1) := by decide +kernel
theorem dX6_isBlock_1 : decode cX6_isBlock 1 = .ok (.iconst 0, 1) := by decide +kernel
theorem dX6_isBlock_2 : decode cX6_isBlock 2 = .ok (.aload_n 0, 1) := by decide +kernel
theorem dX6_isBlock_3 : decode cX6_isBlock 3 = .ok (.getfield 7, 3) := by decide +kernel
theorem dX6_isBlock_6 : decode cX6_isBlock 6 = .ok (.iconst 0, 1) := by decide +kernel
theorem dX6_isBlock_7 : decode cX6_isBlock 7 = .ok (.iaload, 1) := by decide +kernel
theorem dX6_isBlock_8 : decode cX6_isBlock 8 = .ok (.iconst 1, 1) := by decide +kernel
theorem dX6_isBlock_9 : decode cX6_isBlock 9 = .ok (.isub, 1) := by decide +kernel
theorem dX6_isBlock_10 : decode cX6_isBlock 10 = .ok (.invokestatic 29, 3) := by decide +kernel
theorem dX6_isBlock_13 : decode cX6_isBlock 13 = .ok (.ireturn, 1) := by decide +kernel
theorem dX6_bits_0 : decode cX6_bits 0 = .ok (.iconst 0, 1) := by decide +kernel
theorem dX6_bits_1 : decode cX6_bits 1 = .ok (.istore_n 1, 1) := by decide +kernel
theorem dX6_bits_2 : decode cX6_bits 2 = .ok (.iconst 0, 1) := by decide +kernel
theorem dX6_bits_3 : decode cX6_bits 3 = .ok (.istore_n 2, 1) := by decide +kernel
theorem dX6_bits_4 : decode cX6_bits 4 = .ok (.iload_n 2, 1) := by decide +kernel
theorem dX6_bits_5 : decode cX6_bits 5 = .ok (.bipush 12, 2) := by decide +kernel
theorem dX6_bits_7 : decode cX6_bits 7 = .ok (.if_icmp .ge 17, 3) := by decide +kernel
theorem dX6_bits_10 : decode cX6_bits 10 = .ok (.iload_n 1, 1) := by decide +kernel
theorem dX6_bits_11 : decode cX6_bits 11 = .ok (.iload_n 0, 1) := by decide +kernel
theorem dX6_bits_12 : decode cX6_bits 12 = .ok (.iload_n 2, 1) := by decide +kernel
theorem dX6_bits_13 : decode cX6_bits 13 = .ok (.ishr, 1) := by decide +kernel
theorem dX6_bits_14 : decode cX6_bits 14 = .ok (.iconst 1, 1) := by decide +kernel
theorem dX6_bits_15 : decode cX6_bits 15 = .ok (.iand, 1) := by decide +kernel
theorem dX6_bits_16 : decode cX6_bits 16 = .ok (.iadd, 1) := by decide +kernel
theorem dX6_bits_17 : decode cX6_bits 17 = .ok (.istore_n 1, 1) := by decide +kernel
theorem dX6_bits_18 : decode cX6_bits 18 = .ok (.iinc 2 1, 3) := by decide +kernel
theorem dX6_bits_21 : decode cX6_bits 21 = .ok (.goto (-17), 3) := by decide +kernel
theorem dX6_bits_24 : decode cX6_bits 24 = .ok (.iload_n 1, 1) := by decide +kernel
theorem dX6_bits_25 : decode cX6_bits 25 = .ok (.ireturn, 1) := by decide +kernel
theorem dX6_save_0 : decode cX6_save 0 = .ok (.aload_n 0, 1) := by decide +kernel
theorem dX6_save_1 : decode cX6_save 1 = .ok (.getfield 33, 3) := by decide +kernel
theorem dX6_save_4 : decode cX6_save 4 = .ok (.bipush 6, 2) := by decide +kernel
theorem dX6_save_6 : decode cX6_save 6 = .ok (.if_icmp .ne 43, 3) := by decide +kernel
theorem dX6_save_9 : decode cX6_save 9 = .ok (.iconst 0, 1) := by decide +kernel
theorem dX6_save_10 : decode cX6_save 10 = .ok (.istore_n 1, 1) := by decide +kernel
theorem dX6_save_11 : decode cX6_save 11 = .ok (.iload_n 1, 1) := by decide +kernel
theorem dX6_save_12 : decode cX6_save 12 = .ok (.sipush 520, 3) := by decide +kernel
theorem dX6_save_15 : decode cX6_save 15 = .ok (.if_icmp .ge 24, 3) := by decide +kernel
theorem dX6_save_18 : decode cX6_save 18 = .ok (.aload_n 0, 1) := by decide +kernel
theorem dX6_save_19 : decode cX6_save 19 = .ok (.getfield 16, 3) := by decide +kernel
theorem dX6_save_22 : decode cX6_save 22 = .ok (.iload_n 1, 1) := by decide +kernel
theorem dX6_save_23 : decode cX6_save 23 = .ok (.aload_n 0, 1) := by decide +kernel
theorem dX6_save_24 : decode cX6_save 24 = .ok (.getfield 16, 3) := by decide +kernel
theorem dX6_save_27 : decode cX6_save 27 = .ok (.bipush 104, 2) := by decide +kernel
theorem dX6_save_29 : decode cX6_save 29 = .ok (.iload_n 1, 1) := by decide +kernel
theorem dX6_save_30 : decode cX6_save 30 = .ok (.iadd, 1) := by decide +kernel
theorem dX6_save_31 : decode cX6_save 31 = .ok (.iaload, 1) := by decide +kernel
theorem dX6_save_32 : decode cX6_save 32 = .ok (.iastore, 1) := by decide +kernel
theorem dX6_save_33 : decode cX6_save 33 = .ok (.iinc 1 1, 3) := by decide +kernel
theorem dX6_save_36 : decode cX6_save 36 = .ok (.goto (-25), 3) := by decide +kernel
theorem dX6_save_39 : decode cX6_save 39 = .ok (.aload_n 0, 1) := by decide +kernel
theorem dX6_save_40 : decode cX6_save 40 = .ok (.dup, 1) := by decide +kernel
theorem dX6_save_41 : decode cX6_save 41 = .ok (.getfield 33, 3) := by decide +kernel
theorem dX6_save_44 : decode cX6_save 44 = .ok (.iconst 1, 1) := by decide +kernel
theorem dX6_save_45 : decode cX6_save 45 = .ok (.isub, 1) := by decide +kernel
theorem dX6_save_46 : decode cX6_save 46 = .ok (.putfield 33, 3) := by decide +kernel
theorem dX6_save_49 : decode cX6_save 49 = .ok (.iconst 0, 1) := by decide +kernel
theorem dX6_save_50 : decode cX6_save 50 = .ok (.istore_n 1, 1) := by decide +kernel
theorem dX6_save_51 : decode cX6_save 51 = .ok (.iload_n 1, 1) := by decide +kernel
theorem dX6_save_52 : decode cX6_save 52 = .ok (.bipush 104, 2) := by decide +kernel
theorem dX6_save_54 : decode cX6_save 54 = .ok (.if_icmp .ge 29, 3) := by decide +kernel
theorem dX6_save_57 : decode cX6_save 57 = .ok (.aload_n 0, 1) := by decide +kernel
theorem dX6_save_58 : decode cX6_save 58 = .ok (.getfield 16, 3) := by decide +kernel
theorem dX6_save_61 : decode cX6_save 61 = .ok (.bipush 104, 2) := by decide +kernel
theorem dX6_save_63 : decode cX6_save 63 = .ok (.aload_n 0, 1) := by decide +kernel
theorem dX6_save_64 : decode cX6_save 64 = .ok (.getfield 33, 3) := by decide +kernel
theorem dX6_save_67 : decode cX6_save 67 = .ok (.imul, 1) := by decide +kernel
theorem dX6_save_68 : decode cX6_save 68 = .ok (.iload_n 1, 1) := by decide +kernel
theorem dX6_save_69 : decode cX6_save 69 = .ok (.iadd, 1) := by decide +kernel
theorem dX6_save_70 : decode cX6_save 70 = .ok (.aload_n 0, 1) := by decide +kernel
theorem dX6_save_71 : decode cX6_save 71 = .ok (.getfield 7, 3) := by decide +kernel
theorem dX6_save_74 : decode cX6_save 74 = .ok (.iload_n 1, 1) := by decide +kernel
theorem dX6_save_75 : decode cX6_save 75 = .ok (.iaload, 1) := by decide +kernel
theorem dX6_save_76 : decode cX6_save 76 = .ok (.iastore, 1) := by decide +kernel
theorem dX6_save_77 : decode cX6_save 77 = .ok (.iinc 1 1, 3) := by decide +kernel
theorem dX6_save_80 : decode cX6_save 80 = .ok (.goto (-29), 3) := by decide +kernel
theorem dX6_save_83 : decode cX6_save 83 = .ok (.aload_n 0, 1) := by decide +kernel
theorem dX6_save_84 : decode cX6_save 84 = .ok (.dup, 1) := by decide +kernel
theorem dX6_save_85 : decode cX6_save 85 = .ok (.getfield 33, 3) := by decide +kernel
theorem dX6_save_88 : decode cX6_save 88 = .ok (.iconst 1, 1) := by decide +kernel
theorem dX6_save_89 : decode cX6_save 89 = .ok (.iadd, 1) := by decide +kernel
theorem dX6_save_90 : decode cX6_save 90 = .ok (.putfield 33, 3) := by decide +kernel
theorem dX6_save_93 : decode cX6_save 93 = .ok (.return_, 1) := by decide +kernel
set_option maxRecDepth 20000 in
theorem ggX6_putAside_X6_of : GoodIn wsX6_putAside wsX6_of := goodIn_r _ [6] (by decide +kernel) (by decide +kernel)
set_option maxRecDepth 20000 in
theorem gX6_putAside_X6_of : GoodIn wsX6_putAside (va_wsS RX6 36 yX6_of wsX6_of) := goodIn_app (goodIn_of _ (by decide +kernel)) ggX6_putAside_X6_of
theorem dX6_putAside_0 : decode cX6_putAside 0 = .ok (.iconst 0, 1) := by decide +kernel
theorem dX6_putAside_1 : decode cX6_putAside 1 = .ok (.istore_n 2, 1) := by decide +kernel
theorem dX6_putAside_2 : decode cX6_putAside 2 = .ok (.iload_n 2, 1) := by decide +kernel
theorem dX6_putAside_3 : decode cX6_putAside 3 = .ok (.bipush 30, 2) := by decide +kernel
theorem dX6_putAside_5 : decode cX6_putAside 5 = .ok (.if_icmp .ge 25, 3) := by decide +kernel
theorem dX6_putAside_8 : decode cX6_putAside 8 = .ok (.aload_n 0, 1) := by decide +kernel
theorem dX6_putAside_9 : decode cX6_putAside 9 = .ok (.getfield 13, 3) := by decide +kernel
theorem dX6_putAside_12 : decode cX6_putAside 12 = .ok (.iload_n 2, 1) := by decide +kernel
theorem dX6_putAside_13 : decode cX6_putAside 13 = .ok (.aload_n 0, 1) := by decide +kernel
theorem dX6_putAside_14 : decode cX6_putAside 14 = .ok (.getfield 7, 3) := by decide +kernel
theorem dX6_putAside_17 : decode cX6_putAside 17 = .ok (.iload_n 1, 1) := by decide +kernel
theorem dX6_putAside_18 : decode cX6_putAside 18 = .ok (.iload_n 2, 1) := by decide +kernel
theorem dX6_putAside_19 : decode cX6_putAside 19 = .ok (.invokestatic 36, 3) := by decide +kernel
theorem dX6_putAside_22 : decode cX6_putAside 22 = .ok (.iaload, 1) := by decide +kernel
theorem dX6_putAside_23 : decode cX6_putAside 23 = .ok (.iastore, 1) := by decide +kernel
theorem dX6_putAside_24 : decode cX6_putAside 24 = .ok (.iinc 2 1, 3) := by decide +kernel
theorem dX6_putAside_27 : decode cX6_putAside 27 = .ok (.goto (-25), 3) := by decide +kernel
theorem dX6_putAside_30 : decode cX6_putAside 30 = .ok (.return_, 1) := by decide +kernel
set_option maxRecDepth 20000 in
theorem ggX6_putBack_X6_of : GoodIn wsX6_putBack wsX6_of := goodIn_r _ [6] (by decide +kernel) (by decide +kernel)
set_option maxRecDepth 20000 in
theorem gX6_putBack_X6_of : GoodIn wsX6_putBack (va_wsS RX6 36 yX6_of wsX6_of) := goodIn_app (goodIn_of _ (by decide +kernel)) ggX6_putBack_X6_of
theorem dX6_putBack_0 : decode cX6_putBack 0 = .ok (.iconst 0, 1) := by decide +kernel
theorem dX6_putBack_1 : decode cX6_putBack 1 = .ok (.istore_n 2, 1) := by decide +kernel
theorem dX6_putBack_2 : decode cX6_putBack 2 = .ok (.iload_n 2, 1) := by decide +kernel
theorem dX6_putBack_3 : decode cX6_putBack 3 = .ok (.bipush 30, 2) := by decide +kernel
theorem dX6_putBack_5 : decode cX6_putBack 5 = .ok (.if_icmp .ge 25, 3) := by decide +kernel
theorem dX6_putBack_8 : decode cX6_putBack 8 = .ok (.aload_n 0, 1) := by decide +kernel
theorem dX6_putBack_9 : decode cX6_putBack 9 = .ok (.getfield 7, 3) := by decide +kernel
theorem dX6_putBack_12 : decode cX6_putBack 12 = .ok (.iload_n 1, 1) := by decide +kernel
theorem dX6_putBack_13 : decode cX6_putBack 13 = .ok (.iload_n 2, 1) := by decide +kernel
theorem dX6_putBack_14 : decode cX6_putBack 14 = .ok (.invokestatic 36, 3) := by decide +kernel
theorem dX6_putBack_17 : decode cX6_putBack 17 = .ok (.aload_n 0, 1) := by decide +kernel
theorem dX6_putBack_18 : decode cX6_putBack 18 = .ok (.getfield 13, 3) := by decide +kernel
theorem dX6_putBack_21 : decode cX6_putBack 21 = .ok (.iload_n 2, 1) := by decide +kernel
theorem dX6_putBack_22 : decode cX6_putBack 22 = .ok (.iaload, 1) := by decide +kernel
theorem dX6_putBack_23 : decode cX6_putBack 23 = .ok (.iastore, 1) := by decide +kernel
theorem dX6_putBack_24 : decode cX6_putBack 24 = .ok (.iinc 2 1, 3) := by decide +kernel
theorem dX6_putBack_27 : decode cX6_putBack 27 = .ok (.goto (-25), 3) := by decide +kernel
theorem dX6_putBack_30 : decode cX6_putBack 30 = .ok (.return_, 1) := by decide +kernel
theorem dX6_degree_0 : decode cX6_degree 0 = .ok (.iload_n 0, 1) := by decide +kernel
theorem dX6_degree_1 : decode cX6_degree 1 = .ok (.tableswitch 96 0 15 #[79, 79, 96, 96, 96, 96, 96, 81, 81, 81, 83, 83, 85, 87, 90, 93], 79) := by decide +kernel
theorem dX6_degree_80 : decode cX6_degree 80 = .ok (.iconst 1, 1) := by decide +kernel
theorem dX6_degree_81 : decode cX6_degree 81 = .ok (.ireturn, 1) := by decide +kernel
theorem dX6_degree_82 : decode cX6_degree 82 = .ok (.iconst 3, 1) := by decide +kernel
theorem dX6_degree_83 : decode cX6_degree 83 = .ok (.ireturn, 1) := by decide +kernel
theorem dX6_degree_84 : decode cX6_degree 84 = .ok (.iconst 4, 1) := by decide +kernel
theorem dX6_degree_85 : decode cX6_degree 85 = .ok (.ireturn, 1) := by decide +kernel
theorem dX6_degree_86 : decode cX6_degree 86 = .ok (.iconst 5, 1) := by decide +kernel
theorem dX6_degree_87 : decode cX6_degree 87 = .ok (.ireturn, 1) := by decide +kernel
theorem dX6_degree_88 : decode cX6_degree 88 = .ok (.bipush 6, 2) := by decide +kernel
theorem dX6_degree_90 : decode cX6_degree 90 = .ok (.ireturn, 1) := by decide +kernel
theorem dX6_degree_91 : decode cX6_degree 91 = .ok (.bipush 8, 2) := by decide +kernel
theorem dX6_degree_93 : decode cX6_degree 93 = .ok (.ireturn, 1) := by decide +kernel
theorem dX6_degree_94 : decode cX6_degree 94 = .ok (.bipush 12, 2) := by decide +kernel
theorem dX6_degree_96 : decode cX6_degree 96 = .ok (.ireturn, 1) := by decide +kernel
theorem dX6_degree_97 : decode cX6_degree 97 = .ok (.iconst 2, 1) := by decide +kernel
theorem dX6_degree_98 : decode cX6_degree 98 = .ok (.ireturn, 1) := by decide +kernel
set_option maxRecDepth 20000 in
theorem ggX6_maskOf_X6_degree : GoodIn wsX6_maskOf wsX6_degree := goodIn_r _ [5] (by decide +kernel) (by decide +kernel)
set_option maxRecDepth 20000 in
theorem gX6_maskOf_X6_degree : GoodIn wsX6_maskOf (va_wsS RX6 40 yX6_degree wsX6_degree) := goodIn_app (goodIn_of _ (by decide +kernel)) ggX6_maskOf_X6_degree
theorem dX6_maskOf_0 : decode cX6_maskOf 0 = .ok (.iload_n 1, 1) := by decide +kernel
theorem dX6_maskOf_1 : decode cX6_maskOf 1 = .ok (.sipush 7919, 3) := by decide +kernel
theorem dX6_maskOf_4 : decode cX6_maskOf 4 = .ok (.imul, 1) := by decide +kernel
theorem dX6_maskOf_5 : decode cX6_maskOf 5 = .ok (.bipush 17, 2) := by decide +kernel
theorem dX6_maskOf_7 : decode cX6_maskOf 7 = .ok (.iadd, 1) := by decide +kernel
theorem dX6_maskOf_8 : decode cX6_maskOf 8 = .ok (.sipush 30269, 3) := by decide +kernel
theorem dX6_maskOf_11 : decode cX6_maskOf 11 = .ok (.irem, 1) := by decide +kernel
theorem dX6_maskOf_12 : decode cX6_maskOf 12 = .ok (.istore_n 2, 1) := by decide +kernel
theorem dX6_maskOf_13 : decode cX6_maskOf 13 = .ok (.iload_n 2, 1) := by decide +kernel
theorem dX6_maskOf_14 : decode cX6_maskOf 14 = .ok (.bipush 16, 2) := by decide +kernel
theorem dX6_maskOf_16 : decode cX6_maskOf 16 = .ok (.irem, 1) := by decide +kernel
theorem dX6_maskOf_17 : decode cX6_maskOf 17 = .ok (.invokestatic 40, 3) := by decide +kernel
theorem dX6_maskOf_20 : decode cX6_maskOf 20 = .ok (.istore_n 3, 1) := by decide +kernel
theorem dX6_maskOf_21 : decode cX6_maskOf 21 = .ok (.iload_n 3, 1) := by decide +kernel
theorem dX6_maskOf_22 : decode cX6_maskOf 22 = .ok (.aload_n 0, 1) := by decide +kernel
theorem dX6_maskOf_23 : decode cX6_maskOf 23 = .ok (.getfield 7, 3) := by decide +kernel
theorem dX6_maskOf_26 : decode cX6_maskOf 26 = .ok (.iconst 0, 1) := by decide +kernel
theorem dX6_maskOf_27 : decode cX6_maskOf 27 = .ok (.iaload, 1) := by decide +kernel
theorem dX6_maskOf_28 : decode cX6_maskOf 28 = .ok (.if_icmp .le 12, 3) := by decide +kernel
theorem dX6_maskOf_31 : decode cX6_maskOf 31 = .ok (.aload_n 0, 1) := by decide +kernel
theorem dX6_maskOf_32 : decode cX6_maskOf 32 = .ok (.getfield 7, 3) := by decide +kernel
theorem dX6_maskOf_35 : decode cX6_maskOf 35 = .ok (.iconst 0, 1) := by decide +kernel
theorem dX6_maskOf_36 : decode cX6_maskOf 36 = .ok (.iaload, 1) := by decide +kernel
theorem dX6_maskOf_37 : decode cX6_maskOf 37 = .ok (.goto 4, 3) := by decide +kernel
theorem dX6_maskOf_40 : decode cX6_maskOf 40 = .ok (.iload_n 3, 1) := by decide +kernel
theorem dX6_maskOf_41 : decode cX6_maskOf 41 = .ok (.istore_n 3, 1) := by decide +kernel
theorem dX6_maskOf_42 : decode cX6_maskOf 42 = .ok (.iconst 0, 1) := by decide +kernel
theorem dX6_maskOf_43 : decode cX6_maskOf 43 = .ok (.istore 4, 2) := by decide +kernel
theorem dX6_maskOf_45 : decode cX6_maskOf 45 = .ok (.iconst 0, 1) := by decide +kernel
theorem dX6_maskOf_46 : decode cX6_maskOf 46 = .ok (.istore 5, 2) := by decide +kernel
theorem dX6_maskOf_48 : decode cX6_maskOf 48 = .ok (.iload 5, 2) := by decide +kernel
theorem dX6_maskOf_50 : decode cX6_maskOf 50 = .ok (.iload_n 3, 1) := by decide +kernel
theorem dX6_maskOf_51 : decode cX6_maskOf 51 = .ok (.if_icmp .ge 68, 3) := by decide +kernel
theorem dX6_maskOf_54 : decode cX6_maskOf 54 = .ok (.iload_n 2, 1) := by decide +kernel
theorem dX6_maskOf_55 : decode cX6_maskOf 55 = .ok (.sipush 171, 3) := by decide +kernel
theorem dX6_maskOf_58 : decode cX6_maskOf 58 = .ok (.imul, 1) := by decide +kernel
theorem dX6_maskOf_59 : decode cX6_maskOf 59 = .ok (.bipush 11, 2) := by decide +kernel
theorem dX6_maskOf_61 : decode cX6_maskOf 61 = .ok (.iadd, 1) := by decide +kernel
theorem dX6_maskOf_62 : decode cX6_maskOf 62 = .ok (.sipush 30269, 3) := by decide +kernel
theorem dX6_maskOf_65 : decode cX6_maskOf 65 = .ok (.irem, 1) := by decide +kernel
theorem dX6_maskOf_66 : decode cX6_maskOf 66 = .ok (.istore_n 2, 1) := by decide +kernel
theorem dX6_maskOf_67 : decode cX6_maskOf 67 = .ok (.iload_n 2, 1) := by decide +kernel
theorem dX6_maskOf_68 : decode cX6_maskOf 68 = .ok (.aload_n 0, 1) := by decide +kernel
theorem dX6_maskOf_69 : decode cX6_maskOf 69 = .ok (.getfield 7, 3) := by decide +kernel
theorem dX6_maskOf_72 : decode cX6_maskOf 72 = .ok (.iconst 0, 1) := by decide +kernel
theorem dX6_maskOf_73 : decode cX6_maskOf 73 = .ok (.iaload, 1) := by decide +kernel
theorem dX6_maskOf_74 : decode cX6_maskOf 74 = .ok (.irem, 1) := by decide +kernel
theorem dX6_maskOf_75 : decode cX6_maskOf 75 = .ok (.istore 6, 2) := by decide +kernel
theorem dX6_maskOf_77 : decode cX6_maskOf 77 = .ok (.iload 4, 2) := by decide +kernel
theorem dX6_maskOf_79 : decode cX6_maskOf 79 = .ok (.iload 6, 2) := by decide +kernel
theorem dX6_maskOf_81 : decode cX6_maskOf 81 = .ok (.ishr, 1) := by decide +kernel
theorem dX6_maskOf_82 : decode cX6_maskOf 82 = .ok (.iconst 1, 1) := by decide +kernel
theorem dX6_maskOf_83 : decode cX6_maskOf 83 = .ok (.iand, 1) := by decide +kernel
theorem dX6_maskOf_84 : decode cX6_maskOf 84 = .ok (.iconst 1, 1) := by decide +kernel
theorem dX6_maskOf_85 : decode cX6_maskOf 85 = .ok (.if_icmp .ne 19, 3) := by decide +kernel
theorem dX6_maskOf_88 : decode cX6_maskOf 88 = .ok (.iload 6, 2) := by decide +kernel
theorem dX6_maskOf_90 : decode cX6_maskOf 90 = .ok (.iconst 1, 1) := by decide +kernel
theorem dX6_maskOf_91 : decode cX6_maskOf 91 = .ok (.iadd, 1) := by decide +kernel
theorem dX6_maskOf_92 : decode cX6_maskOf 92 = .ok (.aload_n 0, 1) := by decide +kernel
theorem dX6_maskOf_93 : decode cX6_maskOf 93 = .ok (.getfield 7, 3) := by decide +kernel
theorem dX6_maskOf_96 : decode cX6_maskOf 96 = .ok (.iconst 0, 1) := by decide +kernel
theorem dX6_maskOf_97 : decode cX6_maskOf 97 = .ok (.iaload, 1) := by decide +kernel
theorem dX6_maskOf_98 : decode cX6_maskOf 98 = .ok (.irem, 1) := by decide +kernel
theorem dX6_maskOf_99 : decode cX6_maskOf 99 = .ok (.istore 6, 2) := by decide +kernel
theorem dX6_maskOf_101 : decode cX6_maskOf 101 = .ok (.goto (-24), 3) := by decide +kernel
theorem dX6_maskOf_104 : decode cX6_maskOf 104 = .ok (.iload 4, 2) := by decide +kernel
theorem dX6_maskOf_106 : decode cX6_maskOf 106 = .ok (.iconst 1, 1) := by decide +kernel
theorem dX6_maskOf_107 : decode cX6_maskOf 107 = .ok (.iload 6, 2) := by decide +kernel
theorem dX6_maskOf_109 : decode cX6_maskOf 109 = .ok (.ishl, 1) := by decide +kernel
theorem dX6_maskOf_110 : decode cX6_maskOf 110 = .ok (.ior, 1) := by decide +kernel
theorem dX6_maskOf_111 : decode cX6_maskOf 111 = .ok (.istore 4, 2) := by decide +kernel
theorem dX6_maskOf_113 : decode cX6_maskOf 113 = .ok (.iinc 5 1, 3) := by decide +kernel
theorem dX6_maskOf_116 : decode cX6_maskOf 116 = .ok (.goto (-68), 3) := by decide +kernel
theorem dX6_maskOf_119 : decode cX6_maskOf 119 = .ok (.iload 4, 2) := by decide +kernel
theorem dX6_maskOf_121 : decode cX6_maskOf 121 = .ok (.ireturn, 1) := by decide +kernel
theorem dX6_valueOf_0 : decode cX6_valueOf 0 = .ok (.iconst 0, 1) := by decide +kernel
theorem dX6_valueOf_1 : decode cX6_valueOf 1 = .ok (.istore_n 2, 1) := by decide +kernel
theorem dX6_valueOf_2 : decode cX6_valueOf 2 = .ok (.iconst 0, 1) := by decide +kernel
theorem dX6_valueOf_3 : decode cX6_valueOf 3 = .ok (.istore_n 3, 1) := by decide +kernel
theorem dX6_valueOf_4 : decode cX6_valueOf 4 = .ok (.iload_n 3, 1) := by decide +kernel
theorem dX6_valueOf_5 : decode cX6_valueOf 5 = .ok (.aload_n 0, 1) := by decide +kernel
theorem dX6_valueOf_6 : decode cX6_valueOf 6 = .ok (.getfield 7, 3) := by decide +kernel
theorem dX6_valueOf_9 : decode cX6_valueOf 9 = .ok (.iconst 0, 1) := by decide +kernel
theorem dX6_valueOf_10 : decode cX6_valueOf 10 = .ok (.iaload, 1) := by decide +kernel
theorem dX6_valueOf_11 : decode cX6_valueOf 11 = .ok (.if_icmp .ge 33, 3) := by decide +kernel
theorem dX6_valueOf_14 : decode cX6_valueOf 14 = .ok (.iload_n 2, 1) := by decide +kernel
theorem dX6_valueOf_15 : decode cX6_valueOf 15 = .ok (.iload_n 1, 1) := by decide +kernel
theorem dX6_valueOf_16 : decode cX6_valueOf 16 = .ok (.iload_n 3, 1) := by decide +kernel
theorem dX6_valueOf_17 : decode cX6_valueOf 17 = .ok (.ishr, 1) := by decide +kernel
theorem dX6_valueOf_18 : decode cX6_valueOf 18 = .ok (.iconst 1, 1) := by decide +kernel
theorem dX6_valueOf_19 : decode cX6_valueOf 19 = .ok (.iand, 1) := by decide +kernel
theorem dX6_valueOf_20 : decode cX6_valueOf 20 = .ok (.iconst 1, 1) := by decide +kernel
theorem dX6_valueOf_21 : decode cX6_valueOf 21 = .ok (.if_icmp .ne 14, 3) := by decide +kernel
theorem dX6_valueOf_24 : decode cX6_valueOf 24 = .ok (.aload_n 0, 1) := by decide +kernel
theorem dX6_valueOf_25 : decode cX6_valueOf 25 = .ok (.getfield 7, 3) := by decide +kernel
theorem dX6_valueOf_28 : decode cX6_valueOf 28 = .ok (.iconst 2, 1) := by decide +kernel
theorem dX6_valueOf_29 : decode cX6_valueOf 29 = .ok (.iload_n 3, 1) := by decide +kernel
theorem dX6_valueOf_30 : decode cX6_valueOf 30 = .ok (.iadd, 1) := by decide +kernel
theorem dX6_valueOf_31 : decode cX6_valueOf 31 = .ok (.iaload, 1) := by decide +kernel
theorem dX6_valueOf_32 : decode cX6_valueOf 32 = .ok (.goto 4, 3) := by decide +kernel
theorem dX6_valueOf_35 : decode cX6_valueOf 35 = .ok (.iconst 0, 1) := by decide +kernel
theorem dX6_valueOf_36 : decode cX6_valueOf 36 = .ok (.ixor, 1) := by decide +kernel
theorem dX6_valueOf_37 : decode cX6_valueOf 37 = .ok (.istore_n 2, 1) := by decide +kernel
theorem dX6_valueOf_38 : decode cX6_valueOf 38 = .ok (.iinc 3 1, 3) := by decide +kernel
theorem dX6_valueOf_41 : decode cX6_valueOf 41 = .ok (.goto (-37), 3) := by decide +kernel
theorem dX6_valueOf_44 : decode cX6_valueOf 44 = .ok (.iload_n 2, 1) := by decide +kernel
theorem dX6_valueOf_45 : decode cX6_valueOf 45 = .ok (.ireturn, 1) := by decide +kernel
theorem dX6_all_0 : decode cX6_all 0 = .ok (.iconst 1, 1) := by decide +kernel
theorem dX6_all_1 : decode cX6_all 1 = .ok (.aload_n 0, 1) := by decide +kernel
theorem dX6_all_2 : decode cX6_all 2 = .ok (.getfield 7, 3) := by decide +kernel
theorem dX6_all_5 : decode cX6_all 5 = .ok (.iconst 0, 1) := by decide +kernel
theorem dX6_all_6 : decode cX6_all 6 = .ok (.iaload, 1) := by decide +kernel
theorem dX6_all_7 : decode cX6_all 7 = .ok (.ishl, 1) := by decide +kernel
theorem dX6_all_8 : decode cX6_all 8 = .ok (.iconst 1, 1) := by decide +kernel
theorem dX6_all_9 : decode cX6_all 9 = .ok (.isub, 1) := by decide +kernel
theorem dX6_all_10 : decode cX6_all 10 = .ok (.ireturn, 1) := by decide +kernel
set_option maxRecDepth 20000 in
theorem ggX6_isDone_X6_of : GoodIn wsX6_isDone wsX6_of := goodIn_r _ [5] (by decide +kernel) (by decide +kernel)
set_option maxRecDepth 20000 in
theorem gX6_isDone_X6_of : GoodIn wsX6_isDone (va_wsS RX6 36 yX6_of wsX6_of) := goodIn_app (goodIn_of _ (by decide +kernel)) ggX6_isDone_X6_of
set_option maxRecDepth 20000 in
theorem ggX6_isDone_X6_all : GoodIn wsX6_isDone wsX6_all := goodIn_r _ [9, 1, 10, 11, 12, 13, 14, 15, 16, 17, 18, 19, 20] (by decide +kernel) (by decide +kernel)
set_option maxRecDepth 20000 in
theorem gX6_isDone_X6_all : GoodIn wsX6_isDone (wsV RX6 44 RX6 yX6_all wsX6_all) := goodIn_app (goodIn_of _ (by decide +kernel)) ggX6_isDone_X6_all
theorem dX6_isDone_0 : decode cX6_isDone 0 = .ok (.aload_n 0, 1) := by decide +kernel
theorem dX6_isDone_1 : decode cX6_isDone 1 = .ok (.getfield 7, 3) := by decide +kernel
theorem dX6_isDone_4 : decode cX6_isDone 4 = .ok (.iload_n 1, 1) := by decide +kernel
theorem dX6_isDone_5 : decode cX6_isDone 5 = .ok (.iconst 1, 1) := by decide +kernel
theorem dX6_isDone_6 : decode cX6_isDone 6 = .ok (.invokestatic 36, 3) := by decide +kernel
theorem dX6_isDone_9 : decode cX6_isDone 9 = .ok (.iaload, 1) := by decide +kernel
theorem dX6_isDone_10 : decode cX6_isDone 10 = .ok (.aload_n 0, 1) := by decide +kernel
theorem dX6_isDone_11 : decode cX6_isDone 11 = .ok (.invokevirtual 44, 3) := by decide +kernel
theorem dX6_isDone_14 : decode cX6_isDone 14 = .ok (.if_icmp .ne 7, 3) := by decide +kernel
theorem dX6_isDone_17 : decode cX6_isDone 17 = .ok (.iconst 1, 1) := by decide +kernel
theorem dX6_isDone_18 : decode cX6_isDone 18 = .ok (.goto 4, 3) := by decide +kernel
theorem dX6_isDone_21 : decode cX6_isDone 21 = .ok (.iconst 0, 1) := by decide +kernel
theorem dX6_isDone_22 : decode cX6_isDone 22 = .ok (.ireturn, 1) := by decide +kernel
set_option maxRecDepth 20000 in
theorem ggX6_knows_X6_of : GoodIn wsX6_knows wsX6_of := goodIn_r _ [5] (by decide +kernel) (by decide +kernel)
set_option maxRecDepth 20000 in
theorem gX6_knows_X6_of : GoodIn wsX6_knows (va_wsS RX6 36 yX6_of wsX6_of) := goodIn_app (goodIn_of _ (by decide +kernel)) ggX6_knows_X6_of
theorem dX6_knows_0 : decode cX6_knows 0 = .ok (.aload_n 0, 1) := by decide +kernel
theorem dX6_knows_1 : decode cX6_knows 1 = .ok (.getfield 7, 3) := by decide +kernel
theorem dX6_knows_4 : decode cX6_knows 4 = .ok (.iload_n 1, 1) := by decide +kernel
theorem dX6_knows_5 : decode cX6_knows 5 = .ok (.iconst 1, 1) := by decide +kernel
theorem dX6_knows_6 : decode cX6_knows 6 = .ok (.invokestatic 36, 3) := by decide +kernel
theorem dX6_knows_9 : decode cX6_knows 9 = .ok (.dup2, 1) := by decide +kernel
theorem dX6_knows_10 : decode cX6_knows 10 = .ok (.iaload, 1) := by decide +kernel
theorem dX6_knows_11 : decode cX6_knows 11 = .ok (.iload_n 2, 1) := by decide +kernel
theorem dX6_knows_12 : decode cX6_knows 12 = .ok (.ior, 1) := by decide +kernel
theorem dX6_knows_13 : decode cX6_knows 13 = .ok (.iastore, 1) := by decide +kernel
theorem dX6_knows_14 : decode cX6_knows 14 = .ok (.iconst 0, 1) := by decide +kernel
theorem dX6_knows_15 : decode cX6_knows 15 = .ok (.istore_n 3, 1) := by decide +kernel
theorem dX6_knows_16 : decode cX6_knows 16 = .ok (.iload_n 3, 1) := by decide +kernel
theorem dX6_knows_17 : decode cX6_knows 17 = .ok (.aload_n 0, 1) := by decide +kernel
theorem dX6_knows_18 : decode cX6_knows 18 = .ok (.getfield 7, 3) := by decide +kernel
theorem dX6_knows_21 : decode cX6_knows 21 = .ok (.iload_n 1, 1) := by decide +kernel
theorem dX6_knows_22 : decode cX6_knows 22 = .ok (.iconst 5, 1) := by decide +kernel
theorem dX6_knows_23 : decode cX6_knows 23 = .ok (.invokestatic 36, 3) := by decide +kernel
theorem dX6_knows_26 : decode cX6_knows 26 = .ok (.iaload, 1) := by decide +kernel
theorem dX6_knows_27 : decode cX6_knows 27 = .ok (.if_icmp .ge 28, 3) := by decide +kernel
theorem dX6_knows_30 : decode cX6_knows 30 = .ok (.aload_n 0, 1) := by decide +kernel
theorem dX6_knows_31 : decode cX6_knows 31 = .ok (.getfield 7, 3) := by decide +kernel
theorem dX6_knows_34 : decode cX6_knows 34 = .ok (.iload_n 1, 1) := by decide +kernel
theorem dX6_knows_35 : decode cX6_knows 35 = .ok (.bipush 6, 2) := by decide +kernel
theorem dX6_knows_37 : decode cX6_knows 37 = .ok (.iload_n 3, 1) := by decide +kernel
theorem dX6_knows_38 : decode cX6_knows 38 = .ok (.iadd, 1) := by decide +kernel
theorem dX6_knows_39 : decode cX6_knows 39 = .ok (.invokestatic 36, 3) := by decide +kernel
theorem dX6_knows_42 : decode cX6_knows 42 = .ok (.dup2, 1) := by decide +kernel
theorem dX6_knows_43 : decode cX6_knows 43 = .ok (.iaload, 1) := by decide +kernel
theorem dX6_knows_44 : decode cX6_knows 44 = .ok (.iload_n 2, 1) := by decide +kernel
theorem dX6_knows_45 : decode cX6_knows 45 = .ok (.iconst (-1), 1) := by decide +kernel
theorem dX6_knows_46 : decode cX6_knows 46 = .ok (.ixor, 1) := by decide +kernel
theorem dX6_knows_47 : decode cX6_knows 47 = .ok (.iand, 1) := by decide +kernel
theorem dX6_knows_48 : decode cX6_knows 48 = .ok (.iastore, 1) := by decide +kernel
theorem dX6_knows_49 : decode cX6_knows 49 = .ok (.iinc 3 1, 3) := by decide +kernel
theorem dX6_knows_52 : decode cX6_knows 52 = .ok (.goto (-36), 3) := by decide +kernel
theorem dX6_knows_55 : decode cX6_knows 55 = .ok (.return_, 1) := by decide +kernel
set_option maxRecDepth 20000 in
theorem ggX6_first_X6_of : GoodIn wsX6_first wsX6_of := goodIn_r _ [5] (by decide +kernel) (by decide +kernel)
set_option maxRecDepth 20000 in
theorem gX6_first_X6_of : GoodIn wsX6_first (va_wsS RX6 36 yX6_of wsX6_of) := goodIn_app (goodIn_of _ (by decide +kernel)) ggX6_first_X6_of
set_option maxRecDepth 20000 in
theorem ggX6_first_X6_bits : GoodIn wsX6_first wsX6_bits := goodIn_r _ [8] (by decide +kernel) (by decide +kernel)
set_option maxRecDepth 20000 in
theorem gX6_first_X6_bits : GoodIn wsX6_first (va_wsS RX6 48 yX6_bits wsX6_bits) := goodIn_app (goodIn_of _ (by decide +kernel)) ggX6_first_X6_bits
theorem dX6_first_0 : decode cX6_first 0 = .ok (.iconst 0, 1) := by decide +kernel
theorem dX6_first_1 : decode cX6_first 1 = .ok (.istore_n 2, 1) := by decide +kernel
theorem dX6_first_2 : decode cX6_first 2 = .ok (.iload_n 2, 1) := by decide +kernel
theorem dX6_first_3 : decode cX6_first 3 = .ok (.aload_n 0, 1) := by decide +kernel
theorem dX6_first_4 : decode cX6_first 4 = .ok (.getfield 7, 3) := by decide +kernel
theorem dX6_first_7 : decode cX6_first 7 = .ok (.iload_n 1, 1) := by decide +kernel
theorem dX6_first_8 : decode cX6_first 8 = .ok (.iconst 5, 1) := by decide +kernel
theorem dX6_first_9 : decode cX6_first 9 = .ok (.invokestatic 36, 3) := by decide +kernel
theorem dX6_first_12 : decode cX6_first 12 = .ok (.iaload, 1) := by decide +kernel
theorem dX6_first_13 : decode cX6_first 13 = .ok (.if_icmp .ge 31, 3) := by decide +kernel
theorem dX6_first_16 : decode cX6_first 16 = .ok (.aload_n 0, 1) := by decide +kernel
theorem dX6_first_17 : decode cX6_first 17 = .ok (.getfield 7, 3) := by decide +kernel
theorem dX6_first_20 : decode cX6_first 20 = .ok (.iload_n 1, 1) := by decide +kernel
theorem dX6_first_21 : decode cX6_first 21 = .ok (.bipush 6, 2) := by decide +kernel
theorem dX6_first_23 : decode cX6_first 23 = .ok (.iload_n 2, 1) := by decide +kernel
theorem dX6_first_24 : decode cX6_first 24 = .ok (.iadd, 1) := by decide +kernel
theorem dX6_first_25 : decode cX6_first 25 = .ok (.invokestatic 36, 3) := by decide +kernel
theorem dX6_first_28 : decode cX6_first 28 = .ok (.iaload, 1) := by decide +kernel
theorem dX6_first_29 : decode cX6_first 29 = .ok (.invokestatic 48, 3) := by decide +kernel
theorem dX6_first_32 : decode cX6_first 32 = .ok (.iconst 2, 1) := by decide +kernel
theorem dX6_first_33 : decode cX6_first 33 = .ok (.if_icmp .ge 5, 3) := by decide +kernel
theorem dX6_first_36 : decode cX6_first 36 = .ok (.iload_n 2, 1) := by decide +kernel
theorem dX6_first_37 : decode cX6_first 37 = .ok (.ireturn, 1) := by decide +kernel
theorem dX6_first_38 : decode cX6_first 38 = .ok (.iinc 2 1, 3) := by decide +kernel
theorem dX6_first_41 : decode cX6_first 41 = .ok (.goto (-39), 3) := by decide +kernel
theorem dX6_first_44 : decode cX6_first 44 = .ok (.iconst (-1), 1) := by decide +kernel
theorem dX6_first_45 : decode cX6_first 45 = .ok (.ireturn, 1) := by decide +kernel
set_option maxRecDepth 20000 in
theorem ggX6_peel_X6_first : GoodIn wsX6_peel wsX6_first := goodIn_r _ [6, 1, 7, 8, 5, 9, 10, 11, 12, 17, 18, 19, 20, 21, 22, 23, 24, 25, 26, 27] (by decide +kernel) (by decide +kernel)
set_option maxRecDepth 20000 in
theorem gX6_peel_X6_first : GoodIn wsX6_peel (wsV RX6 51 RX6 yX6_first wsX6_first) := goodIn_app (goodIn_of _ (by decide +kernel)) ggX6_peel_X6_first
set_option maxRecDepth 20000 in
theorem ggX6_peel_X6_of : GoodIn wsX6_peel wsX6_of := goodIn_r _ [9] (by decide +kernel) (by decide +kernel)
set_option maxRecDepth 20000 in
theorem gX6_peel_X6_of : GoodIn wsX6_peel (va_wsS RX6 36 yX6_of wsX6_of) := goodIn_app (goodIn_of _ (by decide +kernel)) ggX6_peel_X6_of
set_option maxRecDepth 20000 in
theorem ggX6_peel_X6_knows : GoodIn wsX6_peel wsX6_knows := goodIn_r _ [16, 1, 7, 8, 5, 9, 17, 18, 19, 20, 21, 22, 23, 24, 25, 26, 27] (by decide +kernel) (by decide +kernel)
set_option maxRecDepth 20000 in
theorem gX6_peel_X6_knows : GoodIn wsX6_peel (wsV RX6 54 RX6 yX6_knows wsX6_knows) := goodIn_app (goodIn_of _ (by decide +kernel)) ggX6_peel_X6_knows
theorem dX6_peel_0 : decode cX6_peel 0 = .ok (.aload_n 0, 1) := by decide +kernel
theorem dX6_peel_1 : decode cX6_peel 1 = .ok (.iload_n 1, 1) := by decide +kernel
theorem dX6_peel_2 : decode cX6_peel 2 = .ok (.invokevirtual 51, 3) := by decide +kernel
theorem dX6_peel_5 : decode cX6_peel 5 = .ok (.istore_n 2, 1) := by decide +kernel
theorem dX6_peel_6 : decode cX6_peel 6 = .ok (.iload_n 2, 1) := by decide +kernel
theorem dX6_peel_7 : decode cX6_peel 7 = .ok (.iconst (-1), 1) := by decide +kernel
theorem dX6_peel_8 : decode cX6_peel 8 = .ok (.if_icmp .eq 122, 3) := by decide +kernel
theorem dX6_peel_11 : decode cX6_peel 11 = .ok (.aload_n 0, 1) := by decide +kernel
theorem dX6_peel_12 : decode cX6_peel 12 = .ok (.getfield 7, 3) := by decide +kernel
theorem dX6_peel_15 : decode cX6_peel 15 = .ok (.iload_n 1, 1) := by decide +kernel
theorem dX6_peel_16 : decode cX6_peel 16 = .ok (.bipush 6, 2) := by decide +kernel
theorem dX6_peel_18 : decode cX6_peel 18 = .ok (.iload_n 2, 1) := by decide +kernel
theorem dX6_peel_19 : decode cX6_peel 19 = .ok (.iadd, 1) := by decide +kernel
theorem dX6_peel_20 : decode cX6_peel 20 = .ok (.invokestatic 36, 3) := by decide +kernel
theorem dX6_peel_23 : decode cX6_peel 23 = .ok (.iaload, 1) := by decide +kernel
theorem dX6_peel_24 : decode cX6_peel 24 = .ok (.istore_n 3, 1) := by decide +kernel
theorem dX6_peel_25 : decode cX6_peel 25 = .ok (.aload_n 0, 1) := by decide +kernel
theorem dX6_peel_26 : decode cX6_peel 26 = .ok (.getfield 7, 3) := by decide +kernel
theorem dX6_peel_29 : decode cX6_peel 29 = .ok (.iload_n 1, 1) := by decide +kernel
theorem dX6_peel_30 : decode cX6_peel 30 = .ok (.iconst 5, 1) := by decide +kernel
theorem dX6_peel_31 : decode cX6_peel 31 = .ok (.invokestatic 36, 3) := by decide +kernel
theorem dX6_peel_34 : decode cX6_peel 34 = .ok (.dup2, 1) := by decide +kernel
theorem dX6_peel_35 : decode cX6_peel 35 = .ok (.iaload, 1) := by decide +kernel
theorem dX6_peel_36 : decode cX6_peel 36 = .ok (.iconst 1, 1) := by decide +kernel
theorem dX6_peel_37 : decode cX6_peel 37 = .ok (.isub, 1) := by decide +kernel
theorem dX6_peel_38 : decode cX6_peel 38 = .ok (.iastore, 1) := by decide +kernel
theorem dX6_peel_39 : decode cX6_peel 39 = .ok (.iload_n 2, 1) := by decide +kernel
theorem dX6_peel_40 : decode cX6_peel 40 = .ok (.istore 4, 2) := by decide +kernel
theorem dX6_peel_42 : decode cX6_peel 42 = .ok (.iload 4, 2) := by decide +kernel
theorem dX6_peel_44 : decode cX6_peel 44 = .ok (.aload_n 0, 1) := by decide +kernel
theorem dX6_peel_45 : decode cX6_peel 45 = .ok (.getfield 7, 3) := by decide +kernel
theorem dX6_peel_48 : decode cX6_peel 48 = .ok (.iload_n 1, 1) := by decide +kernel
theorem dX6_peel_49 : decode cX6_peel 49 = .ok (.iconst 5, 1) := by decide +kernel
theorem dX6_peel_50 : decode cX6_peel 50 = .ok (.invokestatic 36, 3) := by decide +kernel
theorem dX6_peel_53 : decode cX6_peel 53 = .ok (.iaload, 1) := by decide +kernel
theorem dX6_peel_54 : decode cX6_peel 54 = .ok (.if_icmp .ge 39, 3) := by decide +kernel
theorem dX6_peel_57 : decode cX6_peel 57 = .ok (.aload_n 0, 1) := by decide +kernel
theorem dX6_peel_58 : decode cX6_peel 58 = .ok (.getfield 7, 3) := by decide +kernel
theorem dX6_peel_61 : decode cX6_peel 61 = .ok (.iload_n 1, 1) := by decide +kernel
theorem dX6_peel_62 : decode cX6_peel 62 = .ok (.bipush 6, 2) := by decide +kernel
theorem dX6_peel_64 : decode cX6_peel 64 = .ok (.iload 4, 2) := by decide +kernel
theorem dX6_peel_66 : decode cX6_peel 66 = .ok (.iadd, 1) := by decide +kernel
theorem dX6_peel_67 : decode cX6_peel 67 = .ok (.invokestatic 36, 3) := by decide +kernel
theorem dX6_peel_70 : decode cX6_peel 70 = .ok (.aload_n 0, 1) := by decide +kernel
theorem dX6_peel_71 : decode cX6_peel 71 = .ok (.getfield 7, 3) := by decide +kernel
theorem dX6_peel_74 : decode cX6_peel 74 = .ok (.iload_n 1, 1) := by decide +kernel
theorem dX6_peel_75 : decode cX6_peel 75 = .ok (.bipush 6, 2) := by decide +kernel
theorem dX6_peel_77 : decode cX6_peel 77 = .ok (.iload 4, 2) := by decide +kernel
theorem dX6_peel_79 : decode cX6_peel 79 = .ok (.iadd, 1) := by decide +kernel
theorem dX6_peel_80 : decode cX6_peel 80 = .ok (.iconst 1, 1) := by decide +kernel
theorem dX6_peel_81 : decode cX6_peel 81 = .ok (.iadd, 1) := by decide +kernel
theorem dX6_peel_82 : decode cX6_peel 82 = .ok (.invokestatic 36, 3) := by decide +kernel
theorem dX6_peel_85 : decode cX6_peel 85 = .ok (.iaload, 1) := by decide +kernel
theorem dX6_peel_86 : decode cX6_peel 86 = .ok (.iastore, 1) := by decide +kernel
theorem dX6_peel_87 : decode cX6_peel 87 = .ok (.iinc 4 1, 3) := by decide +kernel
theorem dX6_peel_90 : decode cX6_peel 90 = .ok (.goto (-48), 3) := by decide +kernel
theorem dX6_peel_93 : decode cX6_peel 93 = .ok (.aload_n 0, 1) := by decide +kernel
theorem dX6_peel_94 : decode cX6_peel 94 = .ok (.getfield 7, 3) := by decide +kernel
theorem dX6_peel_97 : decode cX6_peel 97 = .ok (.iload_n 1, 1) := by decide +kernel
theorem dX6_peel_98 : decode cX6_peel 98 = .ok (.iconst 3, 1) := by decide +kernel
theorem dX6_peel_99 : decode cX6_peel 99 = .ok (.invokestatic 36, 3) := by decide +kernel
theorem dX6_peel_102 : decode cX6_peel 102 = .ok (.dup2, 1) := by decide +kernel
theorem dX6_peel_103 : decode cX6_peel 103 = .ok (.iaload, 1) := by decide +kernel
theorem dX6_peel_104 : decode cX6_peel 104 = .ok (.iload_n 3, 1) := by decide +kernel
theorem dX6_peel_105 : decode cX6_peel 105 = .ok (.ifCond .ne 7, 3) := by decide +kernel
theorem dX6_peel_108 : decode cX6_peel 108 = .ok (.iconst 1, 1) := by decide +kernel
theorem dX6_peel_109 : decode cX6_peel 109 = .ok (.goto 4, 3) := by decide +kernel
theorem dX6_peel_112 : decode cX6_peel 112 = .ok (.iconst 0, 1) := by decide +kernel
theorem dX6_peel_113 : decode cX6_peel 113 = .ok (.iadd, 1) := by decide +kernel
theorem dX6_peel_114 : decode cX6_peel 114 = .ok (.iastore, 1) := by decide +kernel
theorem dX6_peel_115 : decode cX6_peel 115 = .ok (.aload_n 0, 1) := by decide +kernel
theorem dX6_peel_116 : decode cX6_peel 116 = .ok (.iload_n 1, 1) := by decide +kernel
theorem dX6_peel_117 : decode cX6_peel 117 = .ok (.iload_n 3, 1) := by decide +kernel
theorem dX6_peel_118 : decode cX6_peel 118 = .ok (.invokevirtual 54, 3) := by decide +kernel
theorem dX6_peel_121 : decode cX6_peel 121 = .ok (.aload_n 0, 1) := by decide +kernel
theorem dX6_peel_122 : decode cX6_peel 122 = .ok (.iload_n 1, 1) := by decide +kernel
theorem dX6_peel_123 : decode cX6_peel 123 = .ok (.invokevirtual 51, 3) := by decide +kernel
theorem dX6_peel_126 : decode cX6_peel 126 = .ok (.istore_n 2, 1) := by decide +kernel
theorem dX6_peel_127 : decode cX6_peel 127 = .ok (.goto (-121), 3) := by decide +kernel
theorem dX6_peel_130 : decode cX6_peel 130 = .ok (.return_, 1) := by decide +kernel
set_option maxRecDepth 20000 in
theorem ggX6_gets_X6_of : GoodIn wsX6_gets wsX6_of := goodIn_r _ [5] (by decide +kernel) (by decide +kernel)
set_option maxRecDepth 20000 in
theorem gX6_gets_X6_of : GoodIn wsX6_gets (va_wsS RX6 36 yX6_of wsX6_of) := goodIn_app (goodIn_of _ (by decide +kernel)) ggX6_gets_X6_of
set_option maxRecDepth 20000 in
theorem ggX6_gets_X6_bits : GoodIn wsX6_gets wsX6_bits := goodIn_r _ [8] (by decide +kernel) (by decide +kernel)
set_option maxRecDepth 20000 in
theorem gX6_gets_X6_bits : GoodIn wsX6_gets (va_wsS RX6 48 yX6_bits wsX6_bits) := goodIn_app (goodIn_of _ (by decide +kernel)) ggX6_gets_X6_bits
set_option maxRecDepth 20000 in
theorem ggX6_gets_X6_knows : GoodIn wsX6_gets wsX6_knows := goodIn_r _ [12, 1, 2, 3, 4, 5, 21, 22, 23, 24, 25, 26, 27, 28, 29, 30, 31] (by decide +kernel) (by decide +kernel)
set_option maxRecDepth 20000 in
theorem gX6_gets_X6_knows : GoodIn wsX6_gets (wsV RX6 54 RX6 yX6_knows wsX6_knows) := goodIn_app (goodIn_of _ (by decide +kernel)) ggX6_gets_X6_knows
set_option maxRecDepth 20000 in
theorem ggX6_gets_X6_peel : GoodIn wsX6_gets wsX6_peel := goodIn_r _ [16, 1, 17, 18, 19, 4, 20, 2, 3, 5, 6, 7, 8, 9, 10, 11, 12, 21, 22, 23, 24, 25, 26, 27, 28, 29, 30, 31] (by decide +kernel) (by decide +kernel)
set_option maxRecDepth 20000 in
theorem gX6_gets_X6_peel : GoodIn wsX6_gets (wsV RX6 58 RX6 yX6_peel wsX6_peel) := goodIn_app (goodIn_of _ (by decide +kernel)) ggX6_gets_X6_peel
theorem dX6_gets_0 : decode cX6_gets 0 = .ok (.aload_n 0, 1) := by decide +kernel
theorem dX6_gets_1 : decode cX6_gets 1 = .ok (.getfield 7, 3) := by decide +kernel
theorem dX6_gets_4 : decode cX6_gets 4 = .ok (.iload_n 1, 1) := by decide +kernel
theorem dX6_gets_5 : decode cX6_gets 5 = .ok (.iconst 1, 1) := by decide +kernel
theorem dX6_gets_6 : decode cX6_gets 6 = .ok (.invokestatic 36, 3) := by decide +kernel
theorem dX6_gets_9 : decode cX6_gets 9 = .ok (.iaload, 1) := by decide +kernel
theorem dX6_gets_10 : decode cX6_gets 10 = .ok (.invokestatic 48, 3) := by decide +kernel
theorem dX6_gets_13 : decode cX6_gets 13 = .ok (.istore_n 3, 1) := by decide +kernel
theorem dX6_gets_14 : decode cX6_gets 14 = .ok (.iload_n 2, 1) := by decide +kernel
theorem dX6_gets_15 : decode cX6_gets 15 = .ok (.aload_n 0, 1) := by decide +kernel
theorem dX6_gets_16 : decode cX6_gets 16 = .ok (.getfield 7, 3) := by decide +kernel
theorem dX6_gets_19 : decode cX6_gets 19 = .ok (.iload_n 1, 1) := by decide +kernel
theorem dX6_gets_20 : decode cX6_gets 20 = .ok (.iconst 1, 1) := by decide +kernel
theorem dX6_gets_21 : decode cX6_gets 21 = .ok (.invokestatic 36, 3) := by decide +kernel
theorem dX6_gets_24 : decode cX6_gets 24 = .ok (.iaload, 1) := by decide +kernel
theorem dX6_gets_25 : decode cX6_gets 25 = .ok (.iconst (-1), 1) := by decide +kernel
theorem dX6_gets_26 : decode cX6_gets 26 = .ok (.ixor, 1) := by decide +kernel
theorem dX6_gets_27 : decode cX6_gets 27 = .ok (.iand, 1) := by decide +kernel
theorem dX6_gets_28 : decode cX6_gets 28 = .ok (.istore 4, 2) := by decide +kernel
theorem dX6_gets_30 : decode cX6_gets 30 = .ok (.iload 4, 2) := by decide +kernel
theorem dX6_gets_32 : decode cX6_gets 32 = .ok (.invokestatic 48, 3) := by decide +kernel
theorem dX6_gets_35 : decode cX6_gets 35 = .ok (.istore 5, 2) := by decide +kernel
theorem dX6_gets_37 : decode cX6_gets 37 = .ok (.aload_n 0, 1) := by decide +kernel
theorem dX6_gets_38 : decode cX6_gets 38 = .ok (.getfield 7, 3) := by decide +kernel
theorem dX6_gets_41 : decode cX6_gets 41 = .ok (.iload_n 1, 1) := by decide +kernel
theorem dX6_gets_42 : decode cX6_gets 42 = .ok (.iconst 2, 1) := by decide +kernel
theorem dX6_gets_43 : decode cX6_gets 43 = .ok (.invokestatic 36, 3) := by decide +kernel
theorem dX6_gets_46 : decode cX6_gets 46 = .ok (.dup2, 1) := by decide +kernel
theorem dX6_gets_47 : decode cX6_gets 47 = .ok (.iaload, 1) := by decide +kernel
theorem dX6_gets_48 : decode cX6_gets 48 = .ok (.iconst 1, 1) := by decide +kernel
theorem dX6_gets_49 : decode cX6_gets 49 = .ok (.iadd, 1) := by decide +kernel
theorem dX6_gets_50 : decode cX6_gets 50 = .ok (.iastore, 1) := by decide +kernel
theorem dX6_gets_51 : decode cX6_gets 51 = .ok (.aload_n 0, 1) := by decide +kernel
theorem dX6_gets_52 : decode cX6_gets 52 = .ok (.getfield 7, 3) := by decide +kernel
theorem dX6_gets_55 : decode cX6_gets 55 = .ok (.iload_n 1, 1) := by decide +kernel
theorem dX6_gets_56 : decode cX6_gets 56 = .ok (.iconst 3, 1) := by decide +kernel
theorem dX6_gets_57 : decode cX6_gets 57 = .ok (.invokestatic 36, 3) := by decide +kernel
theorem dX6_gets_60 : decode cX6_gets 60 = .ok (.dup2, 1) := by decide +kernel
theorem dX6_gets_61 : decode cX6_gets 61 = .ok (.iaload, 1) := by decide +kernel
theorem dX6_gets_62 : decode cX6_gets 62 = .ok (.iload 5, 2) := by decide +kernel
theorem dX6_gets_64 : decode cX6_gets 64 = .ok (.ifCond .ne 7, 3) := by decide +kernel
theorem dX6_gets_67 : decode cX6_gets 67 = .ok (.iconst 1, 1) := by decide +kernel
theorem dX6_gets_68 : decode cX6_gets 68 = .ok (.goto 4, 3) := by decide +kernel
theorem dX6_gets_71 : decode cX6_gets 71 = .ok (.iconst 0, 1) := by decide +kernel
theorem dX6_gets_72 : decode cX6_gets 72 = .ok (.iadd, 1) := by decide +kernel
theorem dX6_gets_73 : decode cX6_gets 73 = .ok (.iastore, 1) := by decide +kernel
theorem dX6_gets_74 : decode cX6_gets 74 = .ok (.iload 5, 2) := by decide +kernel
theorem dX6_gets_76 : decode cX6_gets 76 = .ok (.iconst 1, 1) := by decide +kernel
theorem dX6_gets_77 : decode cX6_gets 77 = .ok (.if_icmp .ne 18, 3) := by decide +kernel
theorem dX6_gets_80 : decode cX6_gets 80 = .ok (.aload_n 0, 1) := by decide +kernel
theorem dX6_gets_81 : decode cX6_gets 81 = .ok (.iload_n 1, 1) := by decide +kernel
theorem dX6_gets_82 : decode cX6_gets 82 = .ok (.iload 4, 2) := by decide +kernel
theorem dX6_gets_84 : decode cX6_gets 84 = .ok (.invokevirtual 54, 3) := by decide +kernel
theorem dX6_gets_87 : decode cX6_gets 87 = .ok (.aload_n 0, 1) := by decide +kernel
theorem dX6_gets_88 : decode cX6_gets 88 = .ok (.iload_n 1, 1) := by decide +kernel
theorem dX6_gets_89 : decode cX6_gets 89 = .ok (.invokevirtual 58, 3) := by decide +kernel
theorem dX6_gets_92 : decode cX6_gets 92 = .ok (.goto 85, 3) := by decide +kernel
theorem dX6_gets_95 : decode cX6_gets 95 = .ok (.iload 5, 2) := by decide +kernel
theorem dX6_gets_97 : decode cX6_gets 97 = .ok (.iconst 1, 1) := by decide +kernel
theorem dX6_gets_98 : decode cX6_gets 98 = .ok (.if_icmp .le 59, 3) := by decide +kernel
theorem dX6_gets_101 : decode cX6_gets 101 = .ok (.aload_n 0, 1) := by decide +kernel
theorem dX6_gets_102 : decode cX6_gets 102 = .ok (.getfield 7, 3) := by decide +kernel
theorem dX6_gets_105 : decode cX6_gets 105 = .ok (.iload_n 1, 1) := by decide +kernel
theorem dX6_gets_106 : decode cX6_gets 106 = .ok (.iconst 5, 1) := by decide +kernel
theorem dX6_gets_107 : decode cX6_gets 107 = .ok (.invokestatic 36, 3) := by decide +kernel
theorem dX6_gets_110 : decode cX6_gets 110 = .ok (.iaload, 1) := by decide +kernel
theorem dX6_gets_111 : decode cX6_gets 111 = .ok (.bipush 24, 2) := by decide +kernel
theorem dX6_gets_113 : decode cX6_gets 113 = .ok (.if_icmp .ge 44, 3) := by decide +kernel
theorem dX6_gets_116 : decode cX6_gets 116 = .ok (.aload_n 0, 1) := by decide +kernel
theorem dX6_gets_117 : decode cX6_gets 117 = .ok (.getfield 7, 3) := by decide +kernel
theorem dX6_gets_120 : decode cX6_gets 120 = .ok (.iload_n 1, 1) := by decide +kernel
theorem dX6_gets_121 : decode cX6_gets 121 = .ok (.bipush 6, 2) := by decide +kernel
theorem dX6_gets_123 : decode cX6_gets 123 = .ok (.aload_n 0, 1) := by decide +kernel
theorem dX6_gets_124 : decode cX6_gets 124 = .ok (.getfield 7, 3) := by decide +kernel
theorem dX6_gets_127 : decode cX6_gets 127 = .ok (.iload_n 1, 1) := by decide +kernel
theorem dX6_gets_128 : decode cX6_gets 128 = .ok (.iconst 5, 1) := by decide +kernel
theorem dX6_gets_129 : decode cX6_gets 129 = .ok (.invokestatic 36, 3) := by decide +kernel
theorem dX6_gets_132 : decode cX6_gets 132 = .ok (.iaload, 1) := by decide +kernel
theorem dX6_gets_133 : decode cX6_gets 133 = .ok (.iadd, 1) := by decide +kernel
theorem dX6_gets_134 : decode cX6_gets 134 = .ok (.invokestatic 36, 3) := by decide +kernel
theorem dX6_gets_137 : decode cX6_gets 137 = .ok (.iload 4, 2) := by decide +kernel
theorem dX6_gets_139 : decode cX6_gets 139 = .ok (.iastore, 1) := by decide +kernel
theorem dX6_gets_140 : decode cX6_gets 140 = .ok (.aload_n 0, 1) := by decide +kernel
theorem dX6_gets_141 : decode cX6_gets 141 = .ok (.getfield 7, 3) := by decide +kernel
theorem dX6_gets_144 : decode cX6_gets 144 = .ok (.iload_n 1, 1) := by decide +kernel
theorem dX6_gets_145 : decode cX6_gets 145 = .ok (.iconst 5, 1) := by decide +kernel
theorem dX6_gets_146 : decode cX6_gets 146 = .ok (.invokestatic 36, 3) := by decide +kernel
theorem dX6_gets_149 : decode cX6_gets 149 = .ok (.dup2, 1) := by decide +kernel
theorem dX6_gets_150 : decode cX6_gets 150 = .ok (.iaload, 1) := by decide +kernel
theorem dX6_gets_151 : decode cX6_gets 151 = .ok (.iconst 1, 1) := by decide +kernel
theorem dX6_gets_152 : decode cX6_gets 152 = .ok (.iadd, 1) := by decide +kernel
theorem dX6_gets_153 : decode cX6_gets 153 = .ok (.iastore, 1) := by decide +kernel
theorem dX6_gets_154 : decode cX6_gets 154 = .ok (.goto 23, 3) := by decide +kernel
theorem dX6_gets_157 : decode cX6_gets 157 = .ok (.iload 5, 2) := by decide +kernel
theorem dX6_gets_159 : decode cX6_gets 159 = .ok (.iconst 1, 1) := by decide +kernel
theorem dX6_gets_160 : decode cX6_gets 160 = .ok (.if_icmp .le 17, 3) := by decide +kernel
theorem dX6_gets_163 : decode cX6_gets 163 = .ok (.aload_n 0, 1) := by decide +kernel
theorem dX6_gets_164 : decode cX6_gets 164 = .ok (.getfield 7, 3) := by decide +kernel
theorem dX6_gets_167 : decode cX6_gets 167 = .ok (.iload_n 1, 1) := by decide +kernel
theorem dX6_gets_168 : decode cX6_gets 168 = .ok (.iconst 4, 1) := by decide +kernel
theorem dX6_gets_169 : decode cX6_gets 169 = .ok (.invokestatic 36, 3) := by decide +kernel
theorem dX6_gets_172 : decode cX6_gets 172 = .ok (.dup2, 1) := by decide +kernel
theorem dX6_gets_173 : decode cX6_gets 173 = .ok (.iaload, 1) := by decide +kernel
theorem dX6_gets_174 : decode cX6_gets 174 = .ok (.iconst 1, 1) := by decide +kernel
theorem dX6_gets_175 : decode cX6_gets 175 = .ok (.iadd, 1) := by decide +kernel
theorem dX6_gets_176 : decode cX6_gets 176 = .ok (.iastore, 1) := by decide +kernel
theorem dX6_gets_177 : decode cX6_gets 177 = .ok (.aload_n 0, 1) := by decide +kernel
theorem dX6_gets_178 : decode cX6_gets 178 = .ok (.getfield 7, 3) := by decide +kernel
theorem dX6_gets_181 : decode cX6_gets 181 = .ok (.iload_n 1, 1) := by decide +kernel
theorem dX6_gets_182 : decode cX6_gets 182 = .ok (.iconst 1, 1) := by decide +kernel
theorem dX6_gets_183 : decode cX6_gets 183 = .ok (.invokestatic 36, 3) := by decide +kernel
theorem dX6_gets_186 : decode cX6_gets 186 = .ok (.iaload, 1) := by decide +kernel
theorem dX6_gets_187 : decode cX6_gets 187 = .ok (.invokestatic 48, 3) := by decide +kernel
theorem dX6_gets_190 : decode cX6_gets 190 = .ok (.iload_n 3, 1) := by decide +kernel
theorem dX6_gets_191 : decode cX6_gets 191 = .ok (.isub, 1) := by decide +kernel
theorem dX6_gets_192 : decode cX6_gets 192 = .ok (.ireturn, 1) := by decide +kernel
set_option maxRecDepth 20000 in
theorem ggX6_reduce_X6_of : GoodIn wsX6_reduce wsX6_of := goodIn_r _ [6] (by decide +kernel) (by decide +kernel)
set_option maxRecDepth 20000 in
theorem gX6_reduce_X6_of : GoodIn wsX6_reduce (va_wsS RX6 36 yX6_of wsX6_of) := goodIn_app (goodIn_of _ (by decide +kernel)) ggX6_reduce_X6_of
set_option maxRecDepth 20000 in
theorem ggX6_reduce_X6_lowest : GoodIn wsX6_reduce wsX6_lowest := goodIn_r _ [9] (by decide +kernel) (by decide +kernel)
set_option maxRecDepth 20000 in
theorem gX6_reduce_X6_lowest : GoodIn wsX6_reduce (va_wsS RX6 62 yX6_lowest wsX6_lowest) := goodIn_app (goodIn_of _ (by decide +kernel)) ggX6_reduce_X6_lowest
theorem dX6_reduce_0 : decode cX6_reduce 0 = .ok (.iconst 0, 1) := by decide +kernel
theorem dX6_reduce_1 : decode cX6_reduce 1 = .ok (.istore_n 2, 1) := by decide +kernel
theorem dX6_reduce_2 : decode cX6_reduce 2 = .ok (.iconst 0, 1) := by decide +kernel
theorem dX6_reduce_3 : decode cX6_reduce 3 = .ok (.istore_n 3, 1) := by decide +kernel
theorem dX6_reduce_4 : decode cX6_reduce 4 = .ok (.iload_n 3, 1) := by decide +kernel
theorem dX6_reduce_5 : decode cX6_reduce 5 = .ok (.aload_n 0, 1) := by decide +kernel
theorem dX6_reduce_6 : decode cX6_reduce 6 = .ok (.getfield 7, 3) := by decide +kernel
theorem dX6_reduce_9 : decode cX6_reduce 9 = .ok (.iload_n 1, 1) := by decide +kernel
theorem dX6_reduce_10 : decode cX6_reduce 10 = .ok (.iconst 5, 1) := by decide +kernel
theorem dX6_reduce_11 : decode cX6_reduce 11 = .ok (.invokestatic 36, 3) := by decide +kernel
theorem dX6_reduce_14 : decode cX6_reduce 14 = .ok (.iaload, 1) := by decide +kernel
theorem dX6_reduce_15 : decode cX6_reduce 15 = .ok (.if_icmp .ge 134, 3) := by decide +kernel
theorem dX6_reduce_18 : decode cX6_reduce 18 = .ok (.aload_n 0, 1) := by decide +kernel
theorem dX6_reduce_19 : decode cX6_reduce 19 = .ok (.getfield 7, 3) := by decide +kernel
theorem dX6_reduce_22 : decode cX6_reduce 22 = .ok (.iload_n 1, 1) := by decide +kernel
theorem dX6_reduce_23 : decode cX6_reduce 23 = .ok (.bipush 6, 2) := by decide +kernel
theorem dX6_reduce_25 : decode cX6_reduce 25 = .ok (.iload_n 3, 1) := by decide +kernel
theorem dX6_reduce_26 : decode cX6_reduce 26 = .ok (.iadd, 1) := by decide +kernel
theorem dX6_reduce_27 : decode cX6_reduce 27 = .ok (.invokestatic 36, 3) := by decide +kernel
theorem dX6_reduce_30 : decode cX6_reduce 30 = .ok (.iaload, 1) := by decide +kernel
theorem dX6_reduce_31 : decode cX6_reduce 31 = .ok (.istore 4, 2) := by decide +kernel
theorem dX6_reduce_33 : decode cX6_reduce 33 = .ok (.iconst 0, 1) := by decide +kernel
theorem dX6_reduce_34 : decode cX6_reduce 34 = .ok (.istore 5, 2) := by decide +kernel
theorem dX6_reduce_36 : decode cX6_reduce 36 = .ok (.iload 5, 2) := by decide +kernel
theorem dX6_reduce_38 : decode cX6_reduce 38 = .ok (.iload_n 2, 1) := by decide +kernel
theorem dX6_reduce_39 : decode cX6_reduce 39 = .ok (.if_icmp .ge 41, 3) := by decide +kernel
theorem dX6_reduce_42 : decode cX6_reduce 42 = .ok (.iload 4, 2) := by decide +kernel
theorem dX6_reduce_44 : decode cX6_reduce 44 = .ok (.iload 4, 2) := by decide +kernel
theorem dX6_reduce_46 : decode cX6_reduce 46 = .ok (.aload_n 0, 1) := by decide +kernel
theorem dX6_reduce_47 : decode cX6_reduce 47 = .ok (.getfield 22, 3) := by decide +kernel
theorem dX6_reduce_50 : decode cX6_reduce 50 = .ok (.iload 5, 2) := by decide +kernel
theorem dX6_reduce_52 : decode cX6_reduce 52 = .ok (.iaload, 1) := by decide +kernel
theorem dX6_reduce_53 : decode cX6_reduce 53 = .ok (.invokestatic 62, 3) := by decide +kernel
theorem dX6_reduce_56 : decode cX6_reduce 56 = .ok (.iand, 1) := by decide +kernel
theorem dX6_reduce_57 : decode cX6_reduce 57 = .ok (.ifCond .eq 13, 3) := by decide +kernel
theorem dX6_reduce_60 : decode cX6_reduce 60 = .ok (.aload_n 0, 1) := by decide +kernel
theorem dX6_reduce_61 : decode cX6_reduce 61 = .ok (.getfield 22, 3) := by decide +kernel
theorem dX6_reduce_64 : decode cX6_reduce 64 = .ok (.iload 5, 2) := by decide +kernel
theorem dX6_reduce_66 : decode cX6_reduce 66 = .ok (.iaload, 1) := by decide +kernel
theorem dX6_reduce_67 : decode cX6_reduce 67 = .ok (.goto 4, 3) := by decide +kernel
theorem dX6_reduce_70 : decode cX6_reduce 70 = .ok (.iconst 0, 1) := by decide +kernel
theorem dX6_reduce_71 : decode cX6_reduce 71 = .ok (.ixor, 1) := by decide +kernel
theorem dX6_reduce_72 : decode cX6_reduce 72 = .ok (.istore 4, 2) := by decide +kernel
theorem dX6_reduce_74 : decode cX6_reduce 74 = .ok (.iinc 5 1, 3) := by decide +kernel
theorem dX6_reduce_77 : decode cX6_reduce 77 = .ok (.goto (-41), 3) := by decide +kernel
theorem dX6_reduce_80 : decode cX6_reduce 80 = .ok (.iload 4, 2) := by decide +kernel
theorem dX6_reduce_82 : decode cX6_reduce 82 = .ok (.ifCond .eq 61, 3) := by decide +kernel
theorem dX6_reduce_85 : decode cX6_reduce 85 = .ok (.iconst 0, 1) := by decide +kernel
theorem dX6_reduce_86 : decode cX6_reduce 86 = .ok (.istore 5, 2) := by decide +kernel
theorem dX6_reduce_88 : decode cX6_reduce 88 = .ok (.iload 5, 2) := by decide +kernel
theorem dX6_reduce_90 : decode cX6_reduce 90 = .ok (.iload_n 2, 1) := by decide +kernel
theorem dX6_reduce_91 : decode cX6_reduce 91 = .ok (.if_icmp .ge 41, 3) := by decide +kernel
theorem dX6_reduce_94 : decode cX6_reduce 94 = .ok (.aload_n 0, 1) := by decide +kernel
theorem dX6_reduce_95 : decode cX6_reduce 95 = .ok (.getfield 22, 3) := by decide +kernel
theorem dX6_reduce_98 : decode cX6_reduce 98 = .ok (.iload 5, 2) := by decide +kernel
theorem dX6_reduce_100 : decode cX6_reduce 100 = .ok (.dup2, 1) := by decide +kernel
theorem dX6_reduce_101 : decode cX6_reduce 101 = .ok (.iaload, 1) := by decide +kernel
theorem dX6_reduce_102 : decode cX6_reduce 102 = .ok (.aload_n 0, 1) := by decide +kernel
theorem dX6_reduce_103 : decode cX6_reduce 103 = .ok (.getfield 22, 3) := by decide +kernel
theorem dX6_reduce_106 : decode cX6_reduce 106 = .ok (.iload 5, 2) := by decide +kernel
theorem dX6_reduce_108 : decode cX6_reduce 108 = .ok (.iaload, 1) := by decide +kernel
theorem dX6_reduce_109 : decode cX6_reduce 109 = .ok (.iload 4, 2) := by decide +kernel
theorem dX6_reduce_111 : decode cX6_reduce 111 = .ok (.invokestatic 62, 3) := by decide +kernel
theorem dX6_reduce_114 : decode cX6_reduce 114 = .ok (.iand, 1) := by decide +kernel
theorem dX6_reduce_115 : decode cX6_reduce 115 = .ok (.ifCond .eq 8, 3) := by decide +kernel
theorem dX6_reduce_118 : decode cX6_reduce 118 = .ok (.iload 4, 2) := by decide +kernel
theorem dX6_reduce_120 : decode cX6_reduce 120 = .ok (.goto 4, 3) := by decide +kernel
theorem dX6_reduce_123 : decode cX6_reduce 123 = .ok (.iconst 0, 1) := by decide +kernel
theorem dX6_reduce_124 : decode cX6_reduce 124 = .ok (.ixor, 1) := by decide +kernel
theorem dX6_reduce_125 : decode cX6_reduce 125 = .ok (.iastore, 1) := by decide +kernel
theorem dX6_reduce_126 : decode cX6_reduce 126 = .ok (.iinc 5 1, 3) := by decide +kernel
theorem dX6_reduce_129 : decode cX6_reduce 129 = .ok (.goto (-41), 3) := by decide +kernel
theorem dX6_reduce_132 : decode cX6_reduce 132 = .ok (.aload_n 0, 1) := by decide +kernel
theorem dX6_reduce_133 : decode cX6_reduce 133 = .ok (.getfield 22, 3) := by decide +kernel
theorem dX6_reduce_136 : decode cX6_reduce 136 = .ok (.iload_n 2, 1) := by decide +kernel
theorem dX6_reduce_137 : decode cX6_reduce 137 = .ok (.iload 4, 2) := by decide +kernel
theorem dX6_reduce_139 : decode cX6_reduce 139 = .ok (.iastore, 1) := by decide +kernel
theorem dX6_reduce_140 : decode cX6_reduce 140 = .ok (.iinc 2 1, 3) := by decide +kernel
theorem dX6_reduce_143 : decode cX6_reduce 143 = .ok (.iinc 3 1, 3) := by decide +kernel
theorem dX6_reduce_146 : decode cX6_reduce 146 = .ok (.goto (-142), 3) := by decide +kernel
theorem dX6_reduce_149 : decode cX6_reduce 149 = .ok (.iload_n 2, 1) := by decide +kernel
theorem dX6_reduce_150 : decode cX6_reduce 150 = .ok (.ireturn, 1) := by decide +kernel
theorem dX6_lowest_0 : decode cX6_lowest 0 = .ok (.iload_n 0, 1) := by decide +kernel
theorem dX6_lowest_1 : decode cX6_lowest 1 = .ok (.iload_n 0, 1) := by decide +kernel
theorem dX6_lowest_2 : decode cX6_lowest 2 = .ok (.ineg, 1) := by decide +kernel
theorem dX6_lowest_3 : decode cX6_lowest 3 = .ok (.iand, 1) := by decide +kernel
theorem dX6_lowest_4 : decode cX6_lowest 4 = .ok (.ireturn, 1) := by decide +kernel
set_option maxRecDepth 20000 in
theorem ggX6_rank_X6_of : GoodIn wsX6_rank wsX6_of := goodIn_r _ [5] (by decide +kernel) (by decide +kernel)
set_option maxRecDepth 20000 in
theorem gX6_rank_X6_of : GoodIn wsX6_rank (va_wsS RX6 36 yX6_of wsX6_of) := goodIn_app (goodIn_of _ (by decide +kernel)) ggX6_rank_X6_of
set_option maxRecDepth 20000 in
theorem ggX6_rank_X6_bits : GoodIn wsX6_rank wsX6_bits := goodIn_r _ [8] (by decide +kernel) (by decide +kernel)
set_option maxRecDepth 20000 in
theorem gX6_rank_X6_bits : GoodIn wsX6_rank (va_wsS RX6 48 yX6_bits wsX6_bits) := goodIn_app (goodIn_of _ (by decide +kernel)) ggX6_rank_X6_bits
set_option maxRecDepth 20000 in
theorem ggX6_rank_X6_reduce : GoodIn wsX6_rank wsX6_reduce := goodIn_r _ [12, 1, 13, 2, 3, 4, 5, 14, 15, 16, 17, 18, 19, 20, 21, 22, 23, 24, 25, 26, 27] (by decide +kernel) (by decide +kernel)
set_option maxRecDepth 20000 in
theorem gX6_rank_X6_reduce : GoodIn wsX6_rank (wsV RX6 65 RX6 yX6_reduce wsX6_reduce) := goodIn_app (goodIn_of _ (by decide +kernel)) ggX6_rank_X6_reduce
theorem dX6_rank_0 : decode cX6_rank 0 = .ok (.aload_n 0, 1) := by decide +kernel
theorem dX6_rank_1 : decode cX6_rank 1 = .ok (.getfield 7, 3) := by decide +kernel
theorem dX6_rank_4 : decode cX6_rank 4 = .ok (.iload_n 1, 1) := by decide +kernel
theorem dX6_rank_5 : decode cX6_rank 5 = .ok (.iconst 1, 1) := by decide +kernel
theorem dX6_rank_6 : decode cX6_rank 6 = .ok (.invokestatic 36, 3) := by decide +kernel
theorem dX6_rank_9 : decode cX6_rank 9 = .ok (.iaload, 1) := by decide +kernel
theorem dX6_rank_10 : decode cX6_rank 10 = .ok (.invokestatic 48, 3) := by decide +kernel
theorem dX6_rank_13 : decode cX6_rank 13 = .ok (.aload_n 0, 1) := by decide +kernel
theorem dX6_rank_14 : decode cX6_rank 14 = .ok (.iload_n 1, 1) := by decide +kernel
theorem dX6_rank_15 : decode cX6_rank 15 = .ok (.invokevirtual 65, 3) := by decide +kernel
theorem dX6_rank_18 : decode cX6_rank 18 = .ok (.iadd, 1) := by decide +kernel
theorem dX6_rank_19 : decode cX6_rank 19 = .ok (.ireturn, 1) := by decide +kernel
set_option maxRecDepth 20000 in
theorem ggX6_alone_X6_reduce : GoodIn wsX6_alone wsX6_reduce := goodIn_r _ [6, 7, 1, 8, 9, 5, 10, 11, 12, 13, 17, 18, 19, 20, 21, 22, 23, 24, 25, 26, 27] (by decide +kernel) (by decide +kernel)
set_option maxRecDepth 20000 in
theorem gX6_alone_X6_reduce : GoodIn wsX6_alone (wsV RX6 65 RX6 yX6_reduce wsX6_reduce) := goodIn_app (goodIn_of _ (by decide +kernel)) ggX6_alone_X6_reduce
set_option maxRecDepth 20000 in
theorem ggX6_alone_X6_bits : GoodIn wsX6_alone wsX6_bits := goodIn_r _ [16] (by decide +kernel) (by decide +kernel)
set_option maxRecDepth 20000 in
theorem gX6_alone_X6_bits : GoodIn wsX6_alone (va_wsS RX6 48 yX6_bits wsX6_bits) := goodIn_app (goodIn_of _ (by decide +kernel)) ggX6_alone_X6_bits
theorem dX6_alone_0 : decode cX6_alone 0 = .ok (.aload_n 0, 1) := by decide +kernel
theorem dX6_alone_1 : decode cX6_alone 1 = .ok (.iload_n 1, 1) := by decide +kernel
theorem dX6_alone_2 : decode cX6_alone 2 = .ok (.invokevirtual 65, 3) := by decide +kernel
theorem dX6_alone_5 : decode cX6_alone 5 = .ok (.istore_n 2, 1) := by decide +kernel
theorem dX6_alone_6 : decode cX6_alone 6 = .ok (.iconst 0, 1) := by decide +kernel
theorem dX6_alone_7 : decode cX6_alone 7 = .ok (.istore_n 3, 1) := by decide +kernel
theorem dX6_alone_8 : decode cX6_alone 8 = .ok (.iconst 0, 1) := by decide +kernel
theorem dX6_alone_9 : decode cX6_alone 9 = .ok (.istore 4, 2) := by decide +kernel
theorem dX6_alone_11 : decode cX6_alone 11 = .ok (.iload 4, 2) := by decide +kernel
theorem dX6_alone_13 : decode cX6_alone 13 = .ok (.iload_n 2, 1) := by decide +kernel
theorem dX6_alone_14 : decode cX6_alone 14 = .ok (.if_icmp .ge 37, 3) := by decide +kernel
theorem dX6_alone_17 : decode cX6_alone 17 = .ok (.iload_n 3, 1) := by decide +kernel
theorem dX6_alone_18 : decode cX6_alone 18 = .ok (.aload_n 0, 1) := by decide +kernel
theorem dX6_alone_19 : decode cX6_alone 19 = .ok (.getfield 22, 3) := by decide +kernel
theorem dX6_alone_22 : decode cX6_alone 22 = .ok (.iload 4, 2) := by decide +kernel
theorem dX6_alone_24 : decode cX6_alone 24 = .ok (.iaload, 1) := by decide +kernel
theorem dX6_alone_25 : decode cX6_alone 25 = .ok (.invokestatic 48, 3) := by decide +kernel
theorem dX6_alone_28 : decode cX6_alone 28 = .ok (.iconst 1, 1) := by decide +kernel
theorem dX6_alone_29 : decode cX6_alone 29 = .ok (.if_icmp .ne 13, 3) := by decide +kernel
theorem dX6_alone_32 : decode cX6_alone 32 = .ok (.aload_n 0, 1) := by decide +kernel
theorem dX6_alone_33 : decode cX6_alone 33 = .ok (.getfield 22, 3) := by decide +kernel
theorem dX6_alone_36 : decode cX6_alone 36 = .ok (.iload 4, 2) := by decide +kernel
theorem dX6_alone_38 : decode cX6_alone 38 = .ok (.iaload, 1) := by decide +kernel
theorem dX6_alone_39 : decode cX6_alone 39 = .ok (.goto 4, 3) := by decide +kernel
theorem dX6_alone_42 : decode cX6_alone 42 = .ok (.iconst 0, 1) := by decide +kernel
theorem dX6_alone_43 : decode cX6_alone 43 = .ok (.ior, 1) := by decide +kernel
theorem dX6_alone_44 : decode cX6_alone 44 = .ok (.istore_n 3, 1) := by decide +kernel
theorem dX6_alone_45 : decode cX6_alone 45 = .ok (.iinc 4 1, 3) := by decide +kernel
theorem dX6_alone_48 : decode cX6_alone 48 = .ok (.goto (-37), 3) := by decide +kernel
theorem dX6_alone_51 : decode cX6_alone 51 = .ok (.iload_n 3, 1) := by decide +kernel
theorem dX6_alone_52 : decode cX6_alone 52 = .ok (.ireturn, 1) := by decide +kernel
set_option maxRecDepth 20000 in
theorem ggX6_eliminates_X6_of : GoodIn wsX6_eliminates wsX6_of := goodIn_r _ [5] (by decide +kernel) (by decide +kernel)
set_option maxRecDepth 20000 in
theorem gX6_eliminates_X6_of : GoodIn wsX6_eliminates (va_wsS RX6 36 yX6_of wsX6_of) := goodIn_app (goodIn_of _ (by decide +kernel)) ggX6_eliminates_X6_of
set_option maxRecDepth 20000 in
theorem ggX6_eliminates_X6_bits : GoodIn wsX6_eliminates wsX6_bits := goodIn_r _ [8] (by decide +kernel) (by decide +kernel)
set_option maxRecDepth 20000 in
theorem gX6_eliminates_X6_bits : GoodIn wsX6_eliminates (va_wsS RX6 48 yX6_bits wsX6_bits) := goodIn_app (goodIn_of _ (by decide +kernel)) ggX6_eliminates_X6_bits
set_option maxRecDepth 20000 in
theorem ggX6_eliminates_X6_alone : GoodIn wsX6_eliminates wsX6_alone := goodIn_r _ [12, 13, 14, 15, 16, 4, 17, 1, 2, 3, 5, 18, 19, 20, 6, 7, 8, 33, 34, 35, 36, 37, 38, 39, 40, 41, 42, 43] (by decide +kernel) (by decide +kernel)
set_option maxRecDepth 20000 in
theorem gX6_eliminates_X6_alone : GoodIn wsX6_eliminates (wsV RX6 68 RX6 yX6_alone wsX6_alone) := goodIn_app (goodIn_of _ (by decide +kernel)) ggX6_eliminates_X6_alone
set_option maxRecDepth 20000 in
theorem ggX6_eliminates_X6_knows : GoodIn wsX6_eliminates wsX6_knows := goodIn_r _ [24, 1, 2, 3, 4, 5, 33, 34, 35, 36, 37, 38, 39, 40, 41, 42, 43] (by decide +kernel) (by decide +kernel)
set_option maxRecDepth 20000 in
theorem gX6_eliminates_X6_knows : GoodIn wsX6_eliminates (wsV RX6 54 RX6 yX6_knows wsX6_knows) := goodIn_app (goodIn_of _ (by decide +kernel)) ggX6_eliminates_X6_knows
set_option maxRecDepth 20000 in
theorem ggX6_eliminates_X6_peel : GoodIn wsX6_eliminates wsX6_peel := goodIn_r _ [28, 1, 29, 30, 31, 4, 32, 2, 3, 5, 6, 7, 8, 21, 22, 23, 24, 33, 34, 35, 36, 37, 38, 39, 40, 41, 42, 43] (by decide +kernel) (by decide +kernel)
set_option maxRecDepth 20000 in
theorem gX6_eliminates_X6_peel : GoodIn wsX6_eliminates (wsV RX6 58 RX6 yX6_peel wsX6_peel) := goodIn_app (goodIn_of _ (by decide +kernel)) ggX6_eliminates_X6_peel
theorem dX6_eliminates_0 : decode cX6_eliminates 0 = .ok (.aload_n 0, 1) := by decide +kernel
theorem dX6_eliminates_1 : decode cX6_eliminates 1 = .ok (.getfield 7, 3) := by decide +kernel
theorem dX6_eliminates_4 : decode cX6_eliminates 4 = .ok (.iload_n 1, 1) := by decide +kernel
theorem dX6_eliminates_5 : decode cX6_eliminates 5 = .ok (.iconst 1, 1) := by decide +kernel
theorem dX6_eliminates_6 : decode cX6_eliminates 6 = .ok (.invokestatic 36, 3) := by decide +kernel
theorem dX6_eliminates_9 : decode cX6_eliminates 9 = .ok (.iaload, 1) := by decide +kernel
theorem dX6_eliminates_10 : decode cX6_eliminates 10 = .ok (.invokestatic 48, 3) := by decide +kernel
theorem dX6_eliminates_13 : decode cX6_eliminates 13 = .ok (.istore_n 2, 1) := by decide +kernel
theorem dX6_eliminates_14 : decode cX6_eliminates 14 = .ok (.aload_n 0, 1) := by decide +kernel
theorem dX6_eliminates_15 : decode cX6_eliminates 15 = .ok (.iload_n 1, 1) := by decide +kernel
theorem dX6_eliminates_16 : decode cX6_eliminates 16 = .ok (.invokevirtual 68, 3) := by decide +kernel
theorem dX6_eliminates_19 : decode cX6_eliminates 19 = .ok (.istore_n 3, 1) := by decide +kernel
theorem dX6_eliminates_20 : decode cX6_eliminates 20 = .ok (.iconst 0, 1) := by decide +kernel
theorem dX6_eliminates_21 : decode cX6_eliminates 21 = .ok (.istore 4, 2) := by decide +kernel
theorem dX6_eliminates_23 : decode cX6_eliminates 23 = .ok (.iload 4, 2) := by decide +kernel
theorem dX6_eliminates_25 : decode cX6_eliminates 25 = .ok (.aload_n 0, 1) := by decide +kernel
theorem dX6_eliminates_26 : decode cX6_eliminates 26 = .ok (.getfield 7, 3) := by decide +kernel
theorem dX6_eliminates_29 : decode cX6_eliminates 29 = .ok (.iconst 0, 1) := by decide +kernel
theorem dX6_eliminates_30 : decode cX6_eliminates 30 = .ok (.iaload, 1) := by decide +kernel
theorem dX6_eliminates_31 : decode cX6_eliminates 31 = .ok (.if_icmp .ge 51, 3) := by decide +kernel
theorem dX6_eliminates_34 : decode cX6_eliminates 34 = .ok (.iload_n 3, 1) := by decide +kernel
theorem dX6_eliminates_35 : decode cX6_eliminates 35 = .ok (.iload 4, 2) := by decide +kernel
theorem dX6_eliminates_37 : decode cX6_eliminates 37 = .ok (.ishr, 1) := by decide +kernel
theorem dX6_eliminates_38 : decode cX6_eliminates 38 = .ok (.iconst 1, 1) := by decide +kernel
theorem dX6_eliminates_39 : decode cX6_eliminates 39 = .ok (.iand, 1) := by decide +kernel
theorem dX6_eliminates_40 : decode cX6_eliminates 40 = .ok (.iconst 1, 1) := by decide +kernel
theorem dX6_eliminates_41 : decode cX6_eliminates 41 = .ok (.if_icmp .ne 35, 3) := by decide +kernel
theorem dX6_eliminates_44 : decode cX6_eliminates 44 = .ok (.aload_n 0, 1) := by decide +kernel
theorem dX6_eliminates_45 : decode cX6_eliminates 45 = .ok (.getfield 7, 3) := by decide +kernel
theorem dX6_eliminates_48 : decode cX6_eliminates 48 = .ok (.iload_n 1, 1) := by decide +kernel
theorem dX6_eliminates_49 : decode cX6_eliminates 49 = .ok (.iconst 1, 1) := by decide +kernel
theorem dX6_eliminates_50 : decode cX6_eliminates 50 = .ok (.invokestatic 36, 3) := by decide +kernel
theorem dX6_eliminates_53 : decode cX6_eliminates 53 = .ok (.iaload, 1) := by decide +kernel
theorem dX6_eliminates_54 : decode cX6_eliminates 54 = .ok (.iload 4, 2) := by decide +kernel
theorem dX6_eliminates_56 : decode cX6_eliminates 56 = .ok (.ishr, 1) := by decide +kernel
theorem dX6_eliminates_57 : decode cX6_eliminates 57 = .ok (.iconst 1, 1) := by decide +kernel
theorem dX6_eliminates_58 : decode cX6_eliminates 58 = .ok (.iand, 1) := by decide +kernel
theorem dX6_eliminates_59 : decode cX6_eliminates 59 = .ok (.ifCond .ne 17, 3) := by decide +kernel
theorem dX6_eliminates_62 : decode cX6_eliminates 62 = .ok (.aload_n 0, 1) := by decide +kernel
theorem dX6_eliminates_63 : decode cX6_eliminates 63 = .ok (.iload_n 1, 1) := by decide +kernel
theorem dX6_eliminates_64 : decode cX6_eliminates 64 = .ok (.iconst 1, 1) := by decide +kernel
theorem dX6_eliminates_65 : decode cX6_eliminates 65 = .ok (.iload 4, 2) := by decide +kernel
theorem dX6_eliminates_67 : decode cX6_eliminates 67 = .ok (.ishl, 1) := by decide +kernel
theorem dX6_eliminates_68 : decode cX6_eliminates 68 = .ok (.invokevirtual 54, 3) := by decide +kernel
theorem dX6_eliminates_71 : decode cX6_eliminates 71 = .ok (.aload_n 0, 1) := by decide +kernel
theorem dX6_eliminates_72 : decode cX6_eliminates 72 = .ok (.iload_n 1, 1) := by decide +kernel
theorem dX6_eliminates_73 : decode cX6_eliminates 73 = .ok (.invokevirtual 58, 3) := by decide +kernel
theorem dX6_eliminates_76 : decode cX6_eliminates 76 = .ok (.iinc 4 1, 3) := by decide +kernel
theorem dX6_eliminates_79 : decode cX6_eliminates 79 = .ok (.goto (-56), 3) := by decide +kernel
theorem dX6_eliminates_82 : decode cX6_eliminates 82 = .ok (.aload_n 0, 1) := by decide +kernel
theorem dX6_eliminates_83 : decode cX6_eliminates 83 = .ok (.getfield 7, 3) := by decide +kernel
theorem dX6_eliminates_86 : decode cX6_eliminates 86 = .ok (.iload_n 1, 1) := by decide +kernel
theorem dX6_eliminates_87 : decode cX6_eliminates 87 = .ok (.iconst 1, 1) := by decide +kernel
theorem dX6_eliminates_88 : decode cX6_eliminates 88 = .ok (.invokestatic 36, 3) := by decide +kernel
theorem dX6_eliminates_91 : decode cX6_eliminates 91 = .ok (.iaload, 1) := by decide +kernel
theorem dX6_eliminates_92 : decode cX6_eliminates 92 = .ok (.invokestatic 48, 3) := by decide +kernel
theorem dX6_eliminates_95 : decode cX6_eliminates 95 = .ok (.iload_n 2, 1) := by decide +kernel
theorem dX6_eliminates_96 : decode cX6_eliminates 96 = .ok (.isub, 1) := by decide +kernel
theorem dX6_eliminates_97 : decode cX6_eliminates 97 = .ok (.ireturn, 1) := by decide +kernel
set_option maxRecDepth 20000 in
theorem ggX6_forgets_X6_of : GoodIn wsX6_forgets wsX6_of := goodIn_r _ [5] (by decide +kernel) (by decide +kernel)
set_option maxRecDepth 20000 in
theorem gX6_forgets_X6_of : GoodIn wsX6_forgets (va_wsS RX6 36 yX6_of wsX6_of) := goodIn_app (goodIn_of _ (by decide +kernel)) ggX6_forgets_X6_of
theorem dX6_forgets_0 : decode cX6_forgets 0 = .ok (.aload_n 0, 1) := by decide +kernel
theorem dX6_forgets_1 : decode cX6_forgets 1 = .ok (.getfield 7, 3) := by decide +kernel
theorem dX6_forgets_4 : decode cX6_forgets 4 = .ok (.iload_n 1, 1) := by decide +kernel
theorem dX6_forgets_5 : decode cX6_forgets 5 = .ok (.iconst 1, 1) := by decide +kernel
theorem dX6_forgets_6 : decode cX6_forgets 6 = .ok (.invokestatic 36, 3) := by decide +kernel
theorem dX6_forgets_9 : decode cX6_forgets 9 = .ok (.iconst 0, 1) := by decide +kernel
theorem dX6_forgets_10 : decode cX6_forgets 10 = .ok (.iastore, 1) := by decide +kernel
theorem dX6_forgets_11 : decode cX6_forgets 11 = .ok (.aload_n 0, 1) := by decide +kernel
theorem dX6_forgets_12 : decode cX6_forgets 12 = .ok (.getfield 7, 3) := by decide +kernel
theorem dX6_forgets_15 : decode cX6_forgets 15 = .ok (.iload_n 1, 1) := by decide +kernel
theorem dX6_forgets_16 : decode cX6_forgets 16 = .ok (.iconst 5, 1) := by decide +kernel
theorem dX6_forgets_17 : decode cX6_forgets 17 = .ok (.invokestatic 36, 3) := by decide +kernel
theorem dX6_forgets_20 : decode cX6_forgets 20 = .ok (.iconst 0, 1) := by decide +kernel
theorem dX6_forgets_21 : decode cX6_forgets 21 = .ok (.iastore, 1) := by decide +kernel
theorem dX6_forgets_22 : decode cX6_forgets 22 = .ok (.iconst 0, 1) := by decide +kernel
theorem dX6_forgets_23 : decode cX6_forgets 23 = .ok (.istore_n 2, 1) := by decide +kernel
theorem dX6_forgets_24 : decode cX6_forgets 24 = .ok (.iload_n 2, 1) := by decide +kernel
theorem dX6_forgets_25 : decode cX6_forgets 25 = .ok (.bipush 24, 2) := by decide +kernel
theorem dX6_forgets_27 : decode cX6_forgets 27 = .ok (.if_icmp .ge 23, 3) := by decide +kernel
theorem dX6_forgets_30 : decode cX6_forgets 30 = .ok (.aload_n 0, 1) := by decide +kernel
theorem dX6_forgets_31 : decode cX6_forgets 31 = .ok (.getfield 7, 3) := by decide +kernel
theorem dX6_forgets_34 : decode cX6_forgets 34 = .ok (.iload_n 1, 1) := by decide +kernel
theorem dX6_forgets_35 : decode cX6_forgets 35 = .ok (.bipush 6, 2) := by decide +kernel
theorem dX6_forgets_37 : decode cX6_forgets 37 = .ok (.iload_n 2, 1) := by decide +kernel
theorem dX6_forgets_38 : decode cX6_forgets 38 = .ok (.iadd, 1) := by decide +kernel
theorem dX6_forgets_39 : decode cX6_forgets 39 = .ok (.invokestatic 36, 3) := by decide +kernel
theorem dX6_forgets_42 : decode cX6_forgets 42 = .ok (.iconst 0, 1) := by decide +kernel
theorem dX6_forgets_43 : decode cX6_forgets 43 = .ok (.iastore, 1) := by decide +kernel
theorem dX6_forgets_44 : decode cX6_forgets 44 = .ok (.iinc 2 1, 3) := by decide +kernel
theorem dX6_forgets_47 : decode cX6_forgets 47 = .ok (.goto (-23), 3) := by decide +kernel
theorem dX6_forgets_50 : decode cX6_forgets 50 = .ok (.return_, 1) := by decide +kernel
set_option maxRecDepth 20000 in
theorem ggX6_allForget_X6_forgets : GoodIn wsX6_allForget wsX6_forgets := goodIn_r _ [5, 6, 7, 8, 4, 9, 10, 11, 12, 13, 14, 15, 16, 17, 18, 19, 20] (by decide +kernel) (by decide +kernel)
set_option maxRecDepth 20000 in
theorem gX6_allForget_X6_forgets : GoodIn wsX6_allForget (wsV RX6 71 RX6 yX6_forgets wsX6_forgets) := goodIn_app (goodIn_of _ (by decide +kernel)) ggX6_allForget_X6_forgets
theorem dX6_allForget_0 : decode cX6_allForget 0 = .ok (.iconst 0, 1) := by decide +kernel
theorem dX6_allForget_1 : decode cX6_allForget 1 = .ok (.istore_n 1, 1) := by decide +kernel
theorem dX6_allForget_2 : decode cX6_allForget 2 = .ok (.iload_n 1, 1) := by decide +kernel
theorem dX6_allForget_3 : decode cX6_allForget 3 = .ok (.iconst 3, 1) := by decide +kernel
theorem dX6_allForget_4 : decode cX6_allForget 4 = .ok (.if_icmp .ge 14, 3) := by decide +kernel
theorem dX6_allForget_7 : decode cX6_allForget 7 = .ok (.aload_n 0, 1) := by decide +kernel
theorem dX6_allForget_8 : decode cX6_allForget 8 = .ok (.iload_n 1, 1) := by decide +kernel
theorem dX6_allForget_9 : decode cX6_allForget 9 = .ok (.invokevirtual 71, 3) := by decide +kernel
theorem dX6_allForget_12 : decode cX6_allForget 12 = .ok (.iinc 1 1, 3) := by decide +kernel
theorem dX6_allForget_15 : decode cX6_allForget 15 = .ok (.goto (-13), 3) := by decide +kernel
theorem dX6_allForget_18 : decode cX6_allForget 18 = .ok (.return_, 1) := by decide +kernel
set_option maxRecDepth 20000 in
theorem ggX6_size_X6_in : GoodIn wsX6_size wsX6_in := goodIn_r _ [5] (by decide +kernel) (by decide +kernel)
set_option maxRecDepth 20000 in
theorem gX6_size_X6_in : GoodIn wsX6_size (va_wsS RX6 29 yX6_in wsX6_in) := goodIn_app (goodIn_of _ (by decide +kernel)) ggX6_size_X6_in
set_option maxRecDepth 20000 in
theorem ggX6_size_X6_holds : GoodIn wsX6_size wsX6_holds := goodIn_r _ [9, 10, 28, 29, 30, 31, 32, 33, 34, 35, 36, 37, 38] (by decide +kernel) (by decide +kernel)
set_option maxRecDepth 20000 in
theorem gX6_size_X6_holds : GoodIn wsX6_size (wsV RX6 74 RX6 yX6_holds wsX6_holds) := goodIn_app (goodIn_of _ (by decide +kernel)) ggX6_size_X6_holds
set_option maxRecDepth 20000 in
theorem ggX6_size_X6_save : GoodIn wsX6_size wsX6_save := goodIn_r _ [14, 15, 16, 1, 28, 29, 30, 31, 32, 33, 34, 35, 36, 37, 38] (by decide +kernel) (by decide +kernel)
set_option maxRecDepth 20000 in
theorem gX6_size_X6_save : GoodIn wsX6_size (wsV RX6 78 RX6 yX6_save wsX6_save) := goodIn_app (goodIn_of _ (by decide +kernel)) ggX6_size_X6_save
set_option maxRecDepth 20000 in
theorem ggX6_size_X6_allForget : GoodIn wsX6_size wsX6_allForget := goodIn_r _ [20, 21, 22, 23, 4, 24, 1, 25, 26, 27, 28, 29, 30, 31, 32, 33, 34, 35, 36, 37, 38] (by decide +kernel) (by decide +kernel)
set_option maxRecDepth 20000 in
theorem gX6_size_X6_allForget : GoodIn wsX6_size (wsV RX6 81 RX6 yX6_allForget wsX6_allForget) := goodIn_app (goodIn_of _ (by decide +kernel)) ggX6_size_X6_allForget
theorem dX6_size_0 : decode cX6_size 0 = .ok (.aload_n 0, 1) := by decide +kernel
theorem dX6_size_1 : decode cX6_size 1 = .ok (.iload_n 1, 1) := by decide +kernel
theorem dX6_size_2 : decode cX6_size 2 = .ok (.iconst 2, 1) := by decide +kernel
theorem dX6_size_3 : decode cX6_size 3 = .ok (.bipush 12, 2) := by decide +kernel
theorem dX6_size_5 : decode cX6_size 5 = .ok (.invokestatic 29, 3) := by decide +kernel
theorem dX6_size_8 : decode cX6_size 8 = .ok (.ifCond .eq 7, 3) := by decide +kernel
theorem dX6_size_11 : decode cX6_size 11 = .ok (.iconst 0, 1) := by decide +kernel
theorem dX6_size_12 : decode cX6_size 12 = .ok (.goto 4, 3) := by decide +kernel
theorem dX6_size_15 : decode cX6_size 15 = .ok (.iconst 1, 1) := by decide +kernel
theorem dX6_size_16 : decode cX6_size 16 = .ok (.invokevirtual 74, 3) := by decide +kernel
theorem dX6_size_19 : decode cX6_size 19 = .ok (.ifCond .ne 5, 3) := by decide +kernel
theorem dX6_size_22 : decode cX6_size 22 = .ok (.iconst 0, 1) := by decide +kernel
theorem dX6_size_23 : decode cX6_size 23 = .ok (.ireturn, 1) := by decide +kernel
theorem dX6_size_24 : decode cX6_size 24 = .ok (.aload_n 0, 1) := by decide +kernel
theorem dX6_size_25 : decode cX6_size 25 = .ok (.invokevirtual 78, 3) := by decide +kernel
theorem dX6_size_28 : decode cX6_size 28 = .ok (.aload_n 0, 1) := by decide +kernel
theorem dX6_size_29 : decode cX6_size 29 = .ok (.getfield 7, 3) := by decide +kernel
theorem dX6_size_32 : decode cX6_size 32 = .ok (.iconst 0, 1) := by decide +kernel
theorem dX6_size_33 : decode cX6_size 33 = .ok (.iaload, 1) := by decide +kernel
theorem dX6_size_34 : decode cX6_size 34 = .ok (.istore_n 2, 1) := by decide +kernel
theorem dX6_size_35 : decode cX6_size 35 = .ok (.iload_n 1, 1) := by decide +kernel
theorem dX6_size_36 : decode cX6_size 36 = .ok (.istore_n 3, 1) := by decide +kernel
theorem dX6_size_37 : decode cX6_size 37 = .ok (.iload_n 3, 1) := by decide +kernel
theorem dX6_size_38 : decode cX6_size 38 = .ok (.bipush 12, 2) := by decide +kernel
theorem dX6_size_40 : decode cX6_size 40 = .ok (.if_icmp .ge 18, 3) := by decide +kernel
theorem dX6_size_43 : decode cX6_size 43 = .ok (.aload_n 0, 1) := by decide +kernel
theorem dX6_size_44 : decode cX6_size 44 = .ok (.getfield 7, 3) := by decide +kernel
theorem dX6_size_47 : decode cX6_size 47 = .ok (.iconst 2, 1) := by decide +kernel
theorem dX6_size_48 : decode cX6_size 48 = .ok (.iload_n 3, 1) := by decide +kernel
theorem dX6_size_49 : decode cX6_size 49 = .ok (.iadd, 1) := by decide +kernel
theorem dX6_size_50 : decode cX6_size 50 = .ok (.iconst 0, 1) := by decide +kernel
theorem dX6_size_51 : decode cX6_size 51 = .ok (.iastore, 1) := by decide +kernel
theorem dX6_size_52 : decode cX6_size 52 = .ok (.iinc 3 1, 3) := by decide +kernel
theorem dX6_size_55 : decode cX6_size 55 = .ok (.goto (-18), 3) := by decide +kernel
theorem dX6_size_58 : decode cX6_size 58 = .ok (.aload_n 0, 1) := by decide +kernel
theorem dX6_size_59 : decode cX6_size 59 = .ok (.getfield 7, 3) := by decide +kernel
theorem dX6_size_62 : decode cX6_size 62 = .ok (.iconst 0, 1) := by decide +kernel
theorem dX6_size_63 : decode cX6_size 63 = .ok (.iload_n 1, 1) := by decide +kernel
theorem dX6_size_64 : decode cX6_size 64 = .ok (.iastore, 1) := by decide +kernel
theorem dX6_size_65 : decode cX6_size 65 = .ok (.aload_n 0, 1) := by decide +kernel
theorem dX6_size_66 : decode cX6_size 66 = .ok (.invokevirtual 81, 3) := by decide +kernel
theorem dX6_size_69 : decode cX6_size 69 = .ok (.iload_n 2, 1) := by decide +kernel
theorem dX6_size_70 : decode cX6_size 70 = .ok (.ireturn, 1) := by decide +kernel
set_option maxRecDepth 20000 in
theorem ggX6_write_X6_isBlock : GoodIn wsX6_write wsX6_isBlock := goodIn_r _ [7, 2, 8, 9, 6, 10, 33, 34, 35, 36, 37, 38, 39, 40, 41, 42, 43] (by decide +kernel) (by decide +kernel)
set_option maxRecDepth 20000 in
theorem gX6_write_X6_isBlock : GoodIn wsX6_write (wsV RX6 84 RX6 yX6_isBlock wsX6_isBlock) := goodIn_app (goodIn_of _ (by decide +kernel)) ggX6_write_X6_isBlock
set_option maxRecDepth 20000 in
theorem ggX6_write_X6_in : GoodIn wsX6_write wsX6_in := goodIn_r _ [10] (by decide +kernel) (by decide +kernel)
set_option maxRecDepth 20000 in
theorem gX6_write_X6_in : GoodIn wsX6_write (va_wsS RX6 29 yX6_in wsX6_in) := goodIn_app (goodIn_of _ (by decide +kernel)) ggX6_write_X6_in
set_option maxRecDepth 20000 in
theorem ggX6_write_X6_holds : GoodIn wsX6_write wsX6_holds := goodIn_r _ [14, 15, 33, 34, 35, 36, 37, 38, 39, 40, 41, 42, 43] (by decide +kernel) (by decide +kernel)
set_option maxRecDepth 20000 in
theorem gX6_write_X6_holds : GoodIn wsX6_write (wsV RX6 74 RX6 yX6_holds wsX6_holds) := goodIn_app (goodIn_of _ (by decide +kernel)) ggX6_write_X6_holds
set_option maxRecDepth 20000 in
theorem ggX6_write_X6_save : GoodIn wsX6_write wsX6_save := goodIn_r _ [19, 20, 21, 2, 33, 34, 35, 36, 37, 38, 39, 40, 41, 42, 43] (by decide +kernel) (by decide +kernel)
set_option maxRecDepth 20000 in
theorem gX6_write_X6_save : GoodIn wsX6_write (wsV RX6 78 RX6 yX6_save wsX6_save) := goodIn_app (goodIn_of _ (by decide +kernel)) ggX6_write_X6_save
set_option maxRecDepth 20000 in
theorem ggX6_write_X6_allForget : GoodIn wsX6_write wsX6_allForget := goodIn_r _ [25, 26, 27, 28, 6, 29, 2, 30, 31, 32, 33, 34, 35, 36, 37, 38, 39, 40, 41, 42, 43] (by decide +kernel) (by decide +kernel)
set_option maxRecDepth 20000 in
theorem gX6_write_X6_allForget : GoodIn wsX6_write (wsV RX6 81 RX6 yX6_allForget wsX6_allForget) := goodIn_app (goodIn_of _ (by decide +kernel)) ggX6_write_X6_allForget
theorem dX6_write_0 : decode cX6_write 0 = .ok (.aload_n 0, 1) := by decide +kernel
theorem dX6_write_1 : decode cX6_write 1 = .ok (.aload_n 0, 1) := by decide +kernel
theorem dX6_write_2 : decode cX6_write 2 = .ok (.iload_n 1, 1) := by decide +kernel
theorem dX6_write_3 : decode cX6_write 3 = .ok (.invokevirtual 84, 3) := by decide +kernel
theorem dX6_write_6 : decode cX6_write 6 = .ok (.ifCond .ne 7, 3) := by decide +kernel
theorem dX6_write_9 : decode cX6_write 9 = .ok (.iconst 1, 1) := by decide +kernel
theorem dX6_write_10 : decode cX6_write 10 = .ok (.goto 18, 3) := by decide +kernel
theorem dX6_write_13 : decode cX6_write 13 = .ok (.iload_n 2, 1) := by decide +kernel
theorem dX6_write_14 : decode cX6_write 14 = .ok (.iconst 0, 1) := by decide +kernel
theorem dX6_write_15 : decode cX6_write 15 = .ok (.ldc 87, 2) := by decide +kernel
theorem dX6_write_17 : decode cX6_write 17 = .ok (.invokestatic 29, 3) := by decide +kernel
theorem dX6_write_20 : decode cX6_write 20 = .ok (.ifCond .ne 7, 3) := by decide +kernel
theorem dX6_write_23 : decode cX6_write 23 = .ok (.iconst 2, 1) := by decide +kernel
theorem dX6_write_24 : decode cX6_write 24 = .ok (.goto 4, 3) := by decide +kernel
theorem dX6_write_27 : decode cX6_write 27 = .ok (.iconst 0, 1) := by decide +kernel
theorem dX6_write_28 : decode cX6_write 28 = .ok (.invokevirtual 74, 3) := by decide +kernel
theorem dX6_write_31 : decode cX6_write 31 = .ok (.ifCond .ne 5, 3) := by decide +kernel
theorem dX6_write_34 : decode cX6_write 34 = .ok (.iconst 0, 1) := by decide +kernel
theorem dX6_write_35 : decode cX6_write 35 = .ok (.ireturn, 1) := by decide +kernel
theorem dX6_write_36 : decode cX6_write 36 = .ok (.aload_n 0, 1) := by decide +kernel
theorem dX6_write_37 : decode cX6_write 37 = .ok (.invokevirtual 78, 3) := by decide +kernel
theorem dX6_write_40 : decode cX6_write 40 = .ok (.aload_n 0, 1) := by decide +kernel
theorem dX6_write_41 : decode cX6_write 41 = .ok (.getfield 7, 3) := by decide +kernel
theorem dX6_write_44 : decode cX6_write 44 = .ok (.iconst 2, 1) := by decide +kernel
theorem dX6_write_45 : decode cX6_write 45 = .ok (.iload_n 1, 1) := by decide +kernel
theorem dX6_write_46 : decode cX6_write 46 = .ok (.iadd, 1) := by decide +kernel
theorem dX6_write_47 : decode cX6_write 47 = .ok (.iaload, 1) := by decide +kernel
theorem dX6_write_48 : decode cX6_write 48 = .ok (.istore_n 3, 1) := by decide +kernel
theorem dX6_write_49 : decode cX6_write 49 = .ok (.aload_n 0, 1) := by decide +kernel
theorem dX6_write_50 : decode cX6_write 50 = .ok (.getfield 7, 3) := by decide +kernel
theorem dX6_write_53 : decode cX6_write 53 = .ok (.iconst 2, 1) := by decide +kernel
theorem dX6_write_54 : decode cX6_write 54 = .ok (.iload_n 1, 1) := by decide +kernel
theorem dX6_write_55 : decode cX6_write 55 = .ok (.iadd, 1) := by decide +kernel
theorem dX6_write_56 : decode cX6_write 56 = .ok (.iload_n 2, 1) := by decide +kernel
theorem dX6_write_57 : decode cX6_write 57 = .ok (.iastore, 1) := by decide +kernel
theorem dX6_write_58 : decode cX6_write 58 = .ok (.aload_n 0, 1) := by decide +kernel
theorem dX6_write_59 : decode cX6_write 59 = .ok (.invokevirtual 81, 3) := by decide +kernel
theorem dX6_write_62 : decode cX6_write 62 = .ok (.iload_n 3, 1) := by decide +kernel
theorem dX6_write_63 : decode cX6_write 63 = .ok (.ireturn, 1) := by decide +kernel
set_option maxRecDepth 20000 in
theorem ggX6_listen_X6_isReceiver : GoodIn wsX6_listen wsX6_isReceiver := goodIn_r _ [5, 6, 7, 4, 8] (by decide +kernel) (by decide +kernel)
set_option maxRecDepth 20000 in
theorem gX6_listen_X6_isReceiver : GoodIn wsX6_listen (va_wsS RX6 88 yX6_isReceiver wsX6_isReceiver) := goodIn_app (goodIn_of _ (by decide +kernel)) ggX6_listen_X6_isReceiver
set_option maxRecDepth 20000 in
theorem ggX6_listen_X6_holds : GoodIn wsX6_listen wsX6_holds := goodIn_r _ [12, 13, 23, 24, 25, 26, 27, 28, 29, 30, 31, 32, 33] (by decide +kernel) (by decide +kernel)
set_option maxRecDepth 20000 in
theorem gX6_listen_X6_holds : GoodIn wsX6_listen (wsV RX6 74 RX6 yX6_holds wsX6_holds) := goodIn_app (goodIn_of _ (by decide +kernel)) ggX6_listen_X6_holds
set_option maxRecDepth 20000 in
theorem ggX6_listen_X6_save : GoodIn wsX6_listen wsX6_save := goodIn_r _ [17, 18, 19, 1, 23, 24, 25, 26, 27, 28, 29, 30, 31, 32, 33] (by decide +kernel) (by decide +kernel)
set_option maxRecDepth 20000 in
theorem gX6_listen_X6_save : GoodIn wsX6_listen (wsV RX6 78 RX6 yX6_save wsX6_save) := goodIn_app (goodIn_of _ (by decide +kernel)) ggX6_listen_X6_save
set_option maxRecDepth 20000 in
theorem ggX6_listen_X6_of : GoodIn wsX6_listen wsX6_of := goodIn_r _ [22] (by decide +kernel) (by decide +kernel)
set_option maxRecDepth 20000 in
theorem gX6_listen_X6_of : GoodIn wsX6_listen (va_wsS RX6 36 yX6_of wsX6_of) := goodIn_app (goodIn_of _ (by decide +kernel)) ggX6_listen_X6_of
theorem dX6_listen_0 : decode cX6_listen 0 = .ok (.aload_n 0, 1) := by decide +kernel
theorem dX6_listen_1 : decode cX6_listen 1 = .ok (.iload_n 1, 1) := by decide +kernel
theorem dX6_listen_2 : decode cX6_listen 2 = .ok (.invokestatic 88, 3) := by decide +kernel
theorem dX6_listen_5 : decode cX6_listen 5 = .ok (.ifCond .eq 7, 3) := by decide +kernel
theorem dX6_listen_8 : decode cX6_listen 8 = .ok (.iconst 0, 1) := by decide +kernel
theorem dX6_listen_9 : decode cX6_listen 9 = .ok (.goto 4, 3) := by decide +kernel
theorem dX6_listen_12 : decode cX6_listen 12 = .ok (.iconst 1, 1) := by decide +kernel
theorem dX6_listen_13 : decode cX6_listen 13 = .ok (.invokevirtual 74, 3) := by decide +kernel
theorem dX6_listen_16 : decode cX6_listen 16 = .ok (.ifCond .ne 5, 3) := by decide +kernel
theorem dX6_listen_19 : decode cX6_listen 19 = .ok (.iconst 0, 1) := by decide +kernel
theorem dX6_listen_20 : decode cX6_listen 20 = .ok (.ireturn, 1) := by decide +kernel
theorem dX6_listen_21 : decode cX6_listen 21 = .ok (.aload_n 0, 1) := by decide +kernel
theorem dX6_listen_22 : decode cX6_listen 22 = .ok (.invokevirtual 78, 3) := by decide +kernel
theorem dX6_listen_25 : decode cX6_listen 25 = .ok (.aload_n 0, 1) := by decide +kernel
theorem dX6_listen_26 : decode cX6_listen 26 = .ok (.getfield 7, 3) := by decide +kernel
theorem dX6_listen_29 : decode cX6_listen 29 = .ok (.iload_n 1, 1) := by decide +kernel
theorem dX6_listen_30 : decode cX6_listen 30 = .ok (.iconst 0, 1) := by decide +kernel
theorem dX6_listen_31 : decode cX6_listen 31 = .ok (.invokestatic 36, 3) := by decide +kernel
theorem dX6_listen_34 : decode cX6_listen 34 = .ok (.iaload, 1) := by decide +kernel
theorem dX6_listen_35 : decode cX6_listen 35 = .ok (.istore_n 3, 1) := by decide +kernel
theorem dX6_listen_36 : decode cX6_listen 36 = .ok (.aload_n 0, 1) := by decide +kernel
theorem dX6_listen_37 : decode cX6_listen 37 = .ok (.getfield 7, 3) := by decide +kernel
theorem dX6_listen_40 : decode cX6_listen 40 = .ok (.iload_n 1, 1) := by decide +kernel
theorem dX6_listen_41 : decode cX6_listen 41 = .ok (.iconst 0, 1) := by decide +kernel
theorem dX6_listen_42 : decode cX6_listen 42 = .ok (.invokestatic 36, 3) := by decide +kernel
theorem dX6_listen_45 : decode cX6_listen 45 = .ok (.iload_n 2, 1) := by decide +kernel
theorem dX6_listen_46 : decode cX6_listen 46 = .ok (.ifCond .eq 7, 3) := by decide +kernel
theorem dX6_listen_49 : decode cX6_listen 49 = .ok (.iconst 1, 1) := by decide +kernel
theorem dX6_listen_50 : decode cX6_listen 50 = .ok (.goto 4, 3) := by decide +kernel
theorem dX6_listen_53 : decode cX6_listen 53 = .ok (.iconst 0, 1) := by decide +kernel
theorem dX6_listen_54 : decode cX6_listen 54 = .ok (.iastore, 1) := by decide +kernel
theorem dX6_listen_55 : decode cX6_listen 55 = .ok (.iload_n 3, 1) := by decide +kernel
theorem dX6_listen_56 : decode cX6_listen 56 = .ok (.ireturn, 1) := by decide +kernel
set_option maxRecDepth 20000 in
theorem ggX6_forget_X6_isReceiver : GoodIn wsX6_forget wsX6_isReceiver := goodIn_r _ [5, 6, 7, 4, 8] (by decide +kernel) (by decide +kernel)
set_option maxRecDepth 20000 in
theorem gX6_forget_X6_isReceiver : GoodIn wsX6_forget (va_wsS RX6 88 yX6_isReceiver wsX6_isReceiver) := goodIn_app (goodIn_of _ (by decide +kernel)) ggX6_forget_X6_isReceiver
set_option maxRecDepth 20000 in
theorem ggX6_forget_X6_holds : GoodIn wsX6_forget wsX6_holds := goodIn_r _ [12, 13, 30, 31, 32, 33, 34, 35, 36, 37, 38, 39, 40] (by decide +kernel) (by decide +kernel)
set_option maxRecDepth 20000 in
theorem gX6_forget_X6_holds : GoodIn wsX6_forget (wsV RX6 74 RX6 yX6_holds wsX6_holds) := goodIn_app (goodIn_of _ (by decide +kernel)) ggX6_forget_X6_holds
set_option maxRecDepth 20000 in
theorem ggX6_forget_X6_save : GoodIn wsX6_forget wsX6_save := goodIn_r _ [17, 18, 19, 1, 30, 31, 32, 33, 34, 35, 36, 37, 38, 39, 40] (by decide +kernel) (by decide +kernel)
set_option maxRecDepth 20000 in
theorem gX6_forget_X6_save : GoodIn wsX6_forget (wsV RX6 78 RX6 yX6_save wsX6_save) := goodIn_app (goodIn_of _ (by decide +kernel)) ggX6_forget_X6_save
set_option maxRecDepth 20000 in
theorem ggX6_forget_X6_of : GoodIn wsX6_forget wsX6_of := goodIn_r _ [22] (by decide +kernel) (by decide +kernel)
set_option maxRecDepth 20000 in
theorem gX6_forget_X6_of : GoodIn wsX6_forget (va_wsS RX6 36 yX6_of wsX6_of) := goodIn_app (goodIn_of _ (by decide +kernel)) ggX6_forget_X6_of
set_option maxRecDepth 20000 in
theorem ggX6_forget_X6_bits : GoodIn wsX6_forget wsX6_bits := goodIn_r _ [25] (by decide +kernel) (by decide +kernel)
set_option maxRecDepth 20000 in
theorem gX6_forget_X6_bits : GoodIn wsX6_forget (va_wsS RX6 48 yX6_bits wsX6_bits) := goodIn_app (goodIn_of _ (by decide +kernel)) ggX6_forget_X6_bits
set_option maxRecDepth 20000 in
theorem ggX6_forget_X6_forgets : GoodIn wsX6_forget wsX6_forgets := goodIn_r _ [29, 1, 20, 21, 4, 22, 30, 31, 32, 33, 34, 35, 36, 37, 38, 39, 40] (by decide +kernel) (by decide +kernel)
set_option maxRecDepth 20000 in
theorem gX6_forget_X6_forgets : GoodIn wsX6_forget (wsV RX6 71 RX6 yX6_forgets wsX6_forgets) := goodIn_app (goodIn_of _ (by decide +kernel)) ggX6_forget_X6_forgets
theorem dX6_forget_0 : decode cX6_forget 0 = .ok (.aload_n 0, 1) := by decide +kernel
theorem dX6_forget_1 : decode cX6_forget 1 = .ok (.iload_n 1, 1) := by decide +kernel
theorem dX6_forget_2 : decode cX6_forget 2 = .ok (.invokestatic 88, 3) := by decide +kernel
theorem dX6_forget_5 : decode cX6_forget 5 = .ok (.ifCond .eq 7, 3) := by decide +kernel
theorem dX6_forget_8 : decode cX6_forget 8 = .ok (.iconst 0, 1) := by decide +kernel
theorem dX6_forget_9 : decode cX6_forget 9 = .ok (.goto 4, 3) := by decide +kernel
theorem dX6_forget_12 : decode cX6_forget 12 = .ok (.iconst 1, 1) := by decide +kernel
theorem dX6_forget_13 : decode cX6_forget 13 = .ok (.invokevirtual 74, 3) := by decide +kernel
theorem dX6_forget_16 : decode cX6_forget 16 = .ok (.ifCond .ne 5, 3) := by decide +kernel
theorem dX6_forget_19 : decode cX6_forget 19 = .ok (.iconst 0, 1) := by decide +kernel
theorem dX6_forget_20 : decode cX6_forget 20 = .ok (.ireturn, 1) := by decide +kernel
theorem dX6_forget_21 : decode cX6_forget 21 = .ok (.aload_n 0, 1) := by decide +kernel
theorem dX6_forget_22 : decode cX6_forget 22 = .ok (.invokevirtual 78, 3) := by decide +kernel
theorem dX6_forget_25 : decode cX6_forget 25 = .ok (.aload_n 0, 1) := by decide +kernel
theorem dX6_forget_26 : decode cX6_forget 26 = .ok (.getfield 7, 3) := by decide +kernel
theorem dX6_forget_29 : decode cX6_forget 29 = .ok (.iload_n 1, 1) := by decide +kernel
theorem dX6_forget_30 : decode cX6_forget 30 = .ok (.iconst 1, 1) := by decide +kernel
theorem dX6_forget_31 : decode cX6_forget 31 = .ok (.invokestatic 36, 3) := by decide +kernel
theorem dX6_forget_34 : decode cX6_forget 34 = .ok (.iaload, 1) := by decide +kernel
theorem dX6_forget_35 : decode cX6_forget 35 = .ok (.invokestatic 48, 3) := by decide +kernel
theorem dX6_forget_38 : decode cX6_forget 38 = .ok (.istore_n 2, 1) := by decide +kernel
theorem dX6_forget_39 : decode cX6_forget 39 = .ok (.aload_n 0, 1) := by decide +kernel
theorem dX6_forget_40 : decode cX6_forget 40 = .ok (.iload_n 1, 1) := by decide +kernel
theorem dX6_forget_41 : decode cX6_forget 41 = .ok (.invokevirtual 71, 3) := by decide +kernel
theorem dX6_forget_44 : decode cX6_forget 44 = .ok (.iload_n 2, 1) := by decide +kernel
theorem dX6_forget_45 : decode cX6_forget 45 = .ok (.ireturn, 1) := by decide +kernel
set_option maxRecDepth 20000 in
theorem ggX6_sends_X6_of : GoodIn wsX6_sends wsX6_of := goodIn_r _ [5] (by decide +kernel) (by decide +kernel)
set_option maxRecDepth 20000 in
theorem gX6_sends_X6_of : GoodIn wsX6_sends (va_wsS RX6 36 yX6_of wsX6_of) := goodIn_app (goodIn_of _ (by decide +kernel)) ggX6_sends_X6_of
set_option maxRecDepth 20000 in
theorem ggX6_sends_X6_maskOf : GoodIn wsX6_sends wsX6_maskOf := goodIn_r _ [9, 1, 10, 11, 4, 12, 32, 33, 34, 35, 36, 37, 38, 39, 40, 41, 42] (by decide +kernel) (by decide +kernel)
set_option maxRecDepth 20000 in
theorem gX6_sends_X6_maskOf : GoodIn wsX6_sends (wsV RX6 91 RX6 yX6_maskOf wsX6_maskOf) := goodIn_app (goodIn_of _ (by decide +kernel)) ggX6_sends_X6_maskOf
set_option maxRecDepth 20000 in
theorem ggX6_sends_X6_gets : GoodIn wsX6_sends wsX6_gets := goodIn_r _ [16, 1, 2, 3, 4, 5, 17, 18, 19, 20, 21, 22, 23, 24, 25, 26, 27, 28, 29, 30, 31, 32, 33, 34, 35, 36, 37, 38, 39, 40, 41, 42] (by decide +kernel) (by decide +kernel)
set_option maxRecDepth 20000 in
theorem gX6_sends_X6_gets : GoodIn wsX6_sends (wsV RX6 94 RX6 yX6_gets wsX6_gets) := goodIn_app (goodIn_of _ (by decide +kernel)) ggX6_sends_X6_gets
theorem dX6_sends_0 : decode cX6_sends 0 = .ok (.iconst 0, 1) := by decide +kernel
theorem dX6_sends_1 : decode cX6_sends 1 = .ok (.istore_n 2, 1) := by decide +kernel
theorem dX6_sends_2 : decode cX6_sends 2 = .ok (.iconst 0, 1) := by decide +kernel
theorem dX6_sends_3 : decode cX6_sends 3 = .ok (.istore_n 3, 1) := by decide +kernel
theorem dX6_sends_4 : decode cX6_sends 4 = .ok (.iload_n 3, 1) := by decide +kernel
theorem dX6_sends_5 : decode cX6_sends 5 = .ok (.iconst 3, 1) := by decide +kernel
theorem dX6_sends_6 : decode cX6_sends 6 = .ok (.if_icmp .ge 40, 3) := by decide +kernel
theorem dX6_sends_9 : decode cX6_sends 9 = .ok (.iload_n 2, 1) := by decide +kernel
theorem dX6_sends_10 : decode cX6_sends 10 = .ok (.aload_n 0, 1) := by decide +kernel
theorem dX6_sends_11 : decode cX6_sends 11 = .ok (.getfield 7, 3) := by decide +kernel
theorem dX6_sends_14 : decode cX6_sends 14 = .ok (.iload_n 3, 1) := by decide +kernel
theorem dX6_sends_15 : decode cX6_sends 15 = .ok (.iconst 0, 1) := by decide +kernel
theorem dX6_sends_16 : decode cX6_sends 16 = .ok (.invokestatic 36, 3) := by decide +kernel
theorem dX6_sends_19 : decode cX6_sends 19 = .ok (.iaload, 1) := by decide +kernel
theorem dX6_sends_20 : decode cX6_sends 20 = .ok (.iconst 1, 1) := by decide +kernel
theorem dX6_sends_21 : decode cX6_sends 21 = .ok (.if_icmp .ne 16, 3) := by decide +kernel
theorem dX6_sends_24 : decode cX6_sends 24 = .ok (.aload_n 0, 1) := by decide +kernel
theorem dX6_sends_25 : decode cX6_sends 25 = .ok (.iload_n 3, 1) := by decide +kernel
theorem dX6_sends_26 : decode cX6_sends 26 = .ok (.aload_n 0, 1) := by decide +kernel
theorem dX6_sends_27 : decode cX6_sends 27 = .ok (.iload_n 1, 1) := by decide +kernel
theorem dX6_sends_28 : decode cX6_sends 28 = .ok (.invokevirtual 91, 3) := by decide +kernel
theorem dX6_sends_31 : decode cX6_sends 31 = .ok (.invokevirtual 94, 3) := by decide +kernel
theorem dX6_sends_34 : decode cX6_sends 34 = .ok (.goto 4, 3) := by decide +kernel
theorem dX6_sends_37 : decode cX6_sends 37 = .ok (.iconst 0, 1) := by decide +kernel
theorem dX6_sends_38 : decode cX6_sends 38 = .ok (.iadd, 1) := by decide +kernel
theorem dX6_sends_39 : decode cX6_sends 39 = .ok (.istore_n 2, 1) := by decide +kernel
theorem dX6_sends_40 : decode cX6_sends 40 = .ok (.iinc 3 1, 3) := by decide +kernel
theorem dX6_sends_43 : decode cX6_sends 43 = .ok (.goto (-39), 3) := by decide +kernel
theorem dX6_sends_46 : decode cX6_sends 46 = .ok (.aload_n 0, 1) := by decide +kernel
theorem dX6_sends_47 : decode cX6_sends 47 = .ok (.getfield 7, 3) := by decide +kernel
theorem dX6_sends_50 : decode cX6_sends 50 = .ok (.iconst 1, 1) := by decide +kernel
theorem dX6_sends_51 : decode cX6_sends 51 = .ok (.dup2, 1) := by decide +kernel
theorem dX6_sends_52 : decode cX6_sends 52 = .ok (.iaload, 1) := by decide +kernel
theorem dX6_sends_53 : decode cX6_sends 53 = .ok (.iconst 1, 1) := by decide +kernel
theorem dX6_sends_54 : decode cX6_sends 54 = .ok (.iadd, 1) := by decide +kernel
theorem dX6_sends_55 : decode cX6_sends 55 = .ok (.iastore, 1) := by decide +kernel
theorem dX6_sends_56 : decode cX6_sends 56 = .ok (.iload_n 2, 1) := by decide +kernel
theorem dX6_sends_57 : decode cX6_sends 57 = .ok (.ireturn, 1) := by decide +kernel
set_option maxRecDepth 20000 in
theorem ggX6_isMix_X6_in : GoodIn wsX6_isMix wsX6_in := goodIn_r _ [4] (by decide +kernel) (by decide +kernel)
set_option maxRecDepth 20000 in
theorem gX6_isMix_X6_in : GoodIn wsX6_isMix (va_wsS RX6 29 yX6_in wsX6_in) := goodIn_app (goodIn_of _ (by decide +kernel)) ggX6_isMix_X6_in
theorem dX6_isMix_0 : decode cX6_isMix 0 = .ok (.iload_n 0, 1) := by decide +kernel
theorem dX6_isMix_1 : decode cX6_isMix 1 = .ok (.iconst 0, 1) := by decide +kernel
theorem dX6_isMix_2 : decode cX6_isMix 2 = .ok (.sipush 9999, 3) := by decide +kernel
theorem dX6_isMix_5 : decode cX6_isMix 5 = .ok (.invokestatic 29, 3) := by decide +kernel
theorem dX6_isMix_8 : decode cX6_isMix 8 = .ok (.ireturn, 1) := by decide +kernel
set_option maxRecDepth 20000 in
theorem ggX6_send_X6_isMix : GoodIn wsX6_send wsX6_isMix := goodIn_r _ [4, 5, 6, 3, 7] (by decide +kernel) (by decide +kernel)
set_option maxRecDepth 20000 in
theorem gX6_send_X6_isMix : GoodIn wsX6_send (va_wsS RX6 97 yX6_isMix wsX6_isMix) := goodIn_app (goodIn_of _ (by decide +kernel)) ggX6_send_X6_isMix
set_option maxRecDepth 20000 in
theorem ggX6_send_X6_holds : GoodIn wsX6_send wsX6_holds := goodIn_r _ [11, 12, 53, 54, 55, 56, 57, 58, 59, 60, 61, 62, 63] (by decide +kernel) (by decide +kernel)
set_option maxRecDepth 20000 in
theorem gX6_send_X6_holds : GoodIn wsX6_send (wsV RX6 74 RX6 yX6_holds wsX6_holds) := goodIn_app (goodIn_of _ (by decide +kernel)) ggX6_send_X6_holds
set_option maxRecDepth 20000 in
theorem ggX6_send_X6_save : GoodIn wsX6_send wsX6_save := goodIn_r _ [16, 17, 18, 19, 53, 54, 55, 56, 57, 58, 59, 60, 61, 62, 63] (by decide +kernel) (by decide +kernel)
set_option maxRecDepth 20000 in
theorem gX6_send_X6_save : GoodIn wsX6_send (wsV RX6 78 RX6 yX6_save wsX6_save) := goodIn_app (goodIn_of _ (by decide +kernel)) ggX6_send_X6_save
set_option maxRecDepth 20000 in
theorem ggX6_send_X6_sends : GoodIn wsX6_send wsX6_sends := goodIn_r _ [23, 19, 24, 25, 3, 26, 27, 28, 29, 30, 31, 32, 33, 34, 35, 36, 37, 38, 39, 40, 41, 42, 43, 44, 45, 46, 47, 48, 49, 50, 51, 52, 53, 54, 55, 56, 57, 58, 59, 60, 61, 62, 63] (by decide +kernel) (by decide +kernel)
set_option maxRecDepth 20000 in
theorem gX6_send_X6_sends : GoodIn wsX6_send (wsV RX6 100 RX6 yX6_sends wsX6_sends) := goodIn_app (goodIn_of _ (by decide +kernel)) ggX6_send_X6_sends
theorem dX6_send_0 : decode cX6_send 0 = .ok (.aload_n 0, 1) := by decide +kernel
theorem dX6_send_1 : decode cX6_send 1 = .ok (.iload_n 1, 1) := by decide +kernel
theorem dX6_send_2 : decode cX6_send 2 = .ok (.invokestatic 97, 3) := by decide +kernel
theorem dX6_send_5 : decode cX6_send 5 = .ok (.ifCond .eq 7, 3) := by decide +kernel
theorem dX6_send_8 : decode cX6_send 8 = .ok (.iconst 0, 1) := by decide +kernel
theorem dX6_send_9 : decode cX6_send 9 = .ok (.goto 4, 3) := by decide +kernel
theorem dX6_send_12 : decode cX6_send 12 = .ok (.iconst 1, 1) := by decide +kernel
theorem dX6_send_13 : decode cX6_send 13 = .ok (.invokevirtual 74, 3) := by decide +kernel
theorem dX6_send_16 : decode cX6_send 16 = .ok (.ifCond .ne 5, 3) := by decide +kernel
theorem dX6_send_19 : decode cX6_send 19 = .ok (.iconst 0, 1) := by decide +kernel
theorem dX6_send_20 : decode cX6_send 20 = .ok (.ireturn, 1) := by decide +kernel
theorem dX6_send_21 : decode cX6_send 21 = .ok (.aload_n 0, 1) := by decide +kernel
theorem dX6_send_22 : decode cX6_send 22 = .ok (.invokevirtual 78, 3) := by decide +kernel
theorem dX6_send_25 : decode cX6_send 25 = .ok (.aload_n 0, 1) := by decide +kernel
theorem dX6_send_26 : decode cX6_send 26 = .ok (.iload_n 1, 1) := by decide +kernel
theorem dX6_send_27 : decode cX6_send 27 = .ok (.invokevirtual 100, 3) := by decide +kernel
theorem dX6_send_30 : decode cX6_send 30 = .ok (.ireturn, 1) := by decide +kernel
set_option maxRecDepth 20000 in
theorem ggX6_eliminate_X6_isReceiver : GoodIn wsX6_eliminate wsX6_isReceiver := goodIn_r _ [4, 5, 6, 3, 7] (by decide +kernel) (by decide +kernel)
set_option maxRecDepth 20000 in
theorem gX6_eliminate_X6_isReceiver : GoodIn wsX6_eliminate (va_wsS RX6 88 yX6_isReceiver wsX6_isReceiver) := goodIn_app (goodIn_of _ (by decide +kernel)) ggX6_eliminate_X6_isReceiver
set_option maxRecDepth 20000 in
theorem ggX6_eliminate_X6_holds : GoodIn wsX6_eliminate wsX6_holds := goodIn_r _ [11, 12, 54, 55, 56, 57, 58, 59, 60, 61, 62, 63, 64] (by decide +kernel) (by decide +kernel)
set_option maxRecDepth 20000 in
theorem gX6_eliminate_X6_holds : GoodIn wsX6_eliminate (wsV RX6 74 RX6 yX6_holds wsX6_holds) := goodIn_app (goodIn_of _ (by decide +kernel)) ggX6_eliminate_X6_holds
set_option maxRecDepth 20000 in
theorem ggX6_eliminate_X6_save : GoodIn wsX6_eliminate wsX6_save := goodIn_r _ [16, 17, 18, 19, 54, 55, 56, 57, 58, 59, 60, 61, 62, 63, 64] (by decide +kernel) (by decide +kernel)
set_option maxRecDepth 20000 in
theorem gX6_eliminate_X6_save : GoodIn wsX6_eliminate (wsV RX6 78 RX6 yX6_save wsX6_save) := goodIn_app (goodIn_of _ (by decide +kernel)) ggX6_eliminate_X6_save
set_option maxRecDepth 20000 in
theorem ggX6_eliminate_X6_eliminates : GoodIn wsX6_eliminate wsX6_eliminates := goodIn_r _ [23, 19, 24, 25, 3, 26, 27, 28, 29, 30, 31, 32, 33, 34, 35, 36, 37, 38, 39, 40, 41, 42, 43, 44, 45, 46, 47, 48, 49, 50, 51, 52, 53, 54, 55, 56, 57, 58, 59, 60, 61, 62, 63, 64] (by decide +kernel) (by decide +kernel)
set_option maxRecDepth 20000 in
theorem gX6_eliminate_X6_eliminates : GoodIn wsX6_eliminate (wsV RX6 103 RX6 yX6_eliminates wsX6_eliminates) := goodIn_app (goodIn_of _ (by decide +kernel)) ggX6_eliminate_X6_eliminates
theorem dX6_eliminate_0 : decode cX6_eliminate 0 = .ok (.aload_n 0, 1) := by decide +kernel
theorem dX6_eliminate_1 : decode cX6_eliminate 1 = .ok (.iload_n 1, 1) := by decide +kernel
theorem dX6_eliminate_2 : decode cX6_eliminate 2 = .ok (.invokestatic 88, 3) := by decide +kernel
theorem dX6_eliminate_5 : decode cX6_eliminate 5 = .ok (.ifCond .eq 7, 3) := by decide +kernel
theorem dX6_eliminate_8 : decode cX6_eliminate 8 = .ok (.iconst 0, 1) := by decide +kernel
theorem dX6_eliminate_9 : decode cX6_eliminate 9 = .ok (.goto 4, 3) := by decide +kernel
theorem dX6_eliminate_12 : decode cX6_eliminate 12 = .ok (.iconst 1, 1) := by decide +kernel
theorem dX6_eliminate_13 : decode cX6_eliminate 13 = .ok (.invokevirtual 74, 3) := by decide +kernel
theorem dX6_eliminate_16 : decode cX6_eliminate 16 = .ok (.ifCond .ne 5, 3) := by decide +kernel
theorem dX6_eliminate_19 : decode cX6_eliminate 19 = .ok (.iconst 0, 1) := by decide +kernel
theorem dX6_eliminate_20 : decode cX6_eliminate 20 = .ok (.ireturn, 1) := by decide +kernel
theorem dX6_eliminate_21 : decode cX6_eliminate 21 = .ok (.aload_n 0, 1) := by decide +kernel
theorem dX6_eliminate_22 : decode cX6_eliminate 22 = .ok (.invokevirtual 78, 3) := by decide +kernel
theorem dX6_eliminate_25 : decode cX6_eliminate 25 = .ok (.aload_n 0, 1) := by decide +kernel
theorem dX6_eliminate_26 : decode cX6_eliminate 26 = .ok (.iload_n 1, 1) := by decide +kernel
theorem dX6_eliminate_27 : decode cX6_eliminate 27 = .ok (.invokevirtual 103, 3) := by decide +kernel
theorem dX6_eliminate_30 : decode cX6_eliminate 30 = .ok (.ireturn, 1) := by decide +kernel
set_option maxRecDepth 20000 in
theorem ggX6_append_X6_in : GoodIn wsX6_append wsX6_in := goodIn_r _ [6] (by decide +kernel) (by decide +kernel)
set_option maxRecDepth 20000 in
theorem gX6_append_X6_in : GoodIn wsX6_append (va_wsS RX6 29 yX6_in wsX6_in) := goodIn_app (goodIn_of _ (by decide +kernel)) ggX6_append_X6_in
set_option maxRecDepth 20000 in
theorem ggX6_append_X6_holds : GoodIn wsX6_append wsX6_holds := goodIn_r _ [10, 11, 12, 13, 14, 15, 16, 17, 18, 19, 20, 21, 22] (by decide +kernel) (by decide +kernel)
set_option maxRecDepth 20000 in
theorem gX6_append_X6_holds : GoodIn wsX6_append (wsV RX6 74 RX6 yX6_holds wsX6_holds) := goodIn_app (goodIn_of _ (by decide +kernel)) ggX6_append_X6_holds
theorem dX6_append_0 : decode cX6_append 0 = .ok (.aload_n 0, 1) := by decide +kernel
theorem dX6_append_1 : decode cX6_append 1 = .ok (.iload_n 1, 1) := by decide +kernel
theorem dX6_append_2 : decode cX6_append 2 = .ok (.bipush 33, 2) := by decide +kernel
theorem dX6_append_4 : decode cX6_append 4 = .ok (.bipush 126, 2) := by decide +kernel
theorem dX6_append_6 : decode cX6_append 6 = .ok (.invokestatic 29, 3) := by decide +kernel
theorem dX6_append_9 : decode cX6_append 9 = .ok (.ifCond .ne 7, 3) := by decide +kernel
theorem dX6_append_12 : decode cX6_append 12 = .ok (.iconst 1, 1) := by decide +kernel
theorem dX6_append_13 : decode cX6_append 13 = .ok (.goto 17, 3) := by decide +kernel
theorem dX6_append_16 : decode cX6_append 16 = .ok (.aload_n 0, 1) := by decide +kernel
theorem dX6_append_17 : decode cX6_append 17 = .ok (.getfield 106, 3) := by decide +kernel
theorem dX6_append_20 : decode cX6_append 20 = .ok (.bipush 60, 2) := by decide +kernel
theorem dX6_append_22 : decode cX6_append 22 = .ok (.if_icmp .ne 7, 3) := by decide +kernel
theorem dX6_append_25 : decode cX6_append 25 = .ok (.iconst 2, 1) := by decide +kernel
theorem dX6_append_26 : decode cX6_append 26 = .ok (.goto 4, 3) := by decide +kernel
theorem dX6_append_29 : decode cX6_append 29 = .ok (.iconst 0, 1) := by decide +kernel
theorem dX6_append_30 : decode cX6_append 30 = .ok (.invokevirtual 74, 3) := by decide +kernel
theorem dX6_append_33 : decode cX6_append 33 = .ok (.ifCond .ne 5, 3) := by decide +kernel
theorem dX6_append_36 : decode cX6_append 36 = .ok (.iconst 0, 1) := by decide +kernel
theorem dX6_append_37 : decode cX6_append 37 = .ok (.ireturn, 1) := by decide +kernel
theorem dX6_append_38 : decode cX6_append 38 = .ok (.aload_n 0, 1) := by decide +kernel
theorem dX6_append_39 : decode cX6_append 39 = .ok (.getfield 19, 3) := by decide +kernel
theorem dX6_append_42 : decode cX6_append 42 = .ok (.aload_n 0, 1) := by decide +kernel
theorem dX6_append_43 : decode cX6_append 43 = .ok (.getfield 106, 3) := by decide +kernel
theorem dX6_append_46 : decode cX6_append 46 = .ok (.iload_n 1, 1) := by decide +kernel
theorem dX6_append_47 : decode cX6_append 47 = .ok (.iastore, 1) := by decide +kernel
theorem dX6_append_48 : decode cX6_append 48 = .ok (.aload_n 0, 1) := by decide +kernel
theorem dX6_append_49 : decode cX6_append 49 = .ok (.dup, 1) := by decide +kernel
theorem dX6_append_50 : decode cX6_append 50 = .ok (.getfield 106, 3) := by decide +kernel
theorem dX6_append_53 : decode cX6_append 53 = .ok (.iconst 1, 1) := by decide +kernel
theorem dX6_append_54 : decode cX6_append 54 = .ok (.iadd, 1) := by decide +kernel
theorem dX6_append_55 : decode cX6_append 55 = .ok (.putfield 106, 3) := by decide +kernel
theorem dX6_append_58 : decode cX6_append 58 = .ok (.aload_n 0, 1) := by decide +kernel
theorem dX6_append_59 : decode cX6_append 59 = .ok (.getfield 106, 3) := by decide +kernel
theorem dX6_append_62 : decode cX6_append 62 = .ok (.ireturn, 1) := by decide +kernel
theorem dX6_clearBuffer_0 : decode cX6_clearBuffer 0 = .ok (.aload_n 0, 1) := by decide +kernel
theorem dX6_clearBuffer_1 : decode cX6_clearBuffer 1 = .ok (.iconst 0, 1) := by decide +kernel
theorem dX6_clearBuffer_2 : decode cX6_clearBuffer 2 = .ok (.putfield 25, 3) := by decide +kernel
theorem dX6_clearBuffer_5 : decode cX6_clearBuffer 5 = .ok (.aload_n 0, 1) := by decide +kernel
theorem dX6_clearBuffer_6 : decode cX6_clearBuffer 6 = .ok (.getfield 106, 3) := by decide +kernel
theorem dX6_clearBuffer_9 : decode cX6_clearBuffer 9 = .ok (.istore_n 1, 1) := by decide +kernel
theorem dX6_clearBuffer_10 : decode cX6_clearBuffer 10 = .ok (.aload_n 0, 1) := by decide +kernel
theorem dX6_clearBuffer_11 : decode cX6_clearBuffer 11 = .ok (.iconst 0, 1) := by decide +kernel
theorem dX6_clearBuffer_12 : decode cX6_clearBuffer 12 = .ok (.putfield 106, 3) := by decide +kernel
theorem dX6_clearBuffer_15 : decode cX6_clearBuffer 15 = .ok (.iload_n 1, 1) := by decide +kernel
theorem dX6_clearBuffer_16 : decode cX6_clearBuffer 16 = .ok (.ireturn, 1) := by decide +kernel
theorem dX6_canReach_0 : decode cX6_canReach 0 = .ok (.iload_n 0, 1) := by decide +kernel
theorem dX6_canReach_1 : decode cX6_canReach 1 = .ok (.istore_n 3, 1) := by decide +kernel
theorem dX6_canReach_2 : decode cX6_canReach 2 = .ok (.iload_n 1, 1) := by decide +kernel
theorem dX6_canReach_3 : decode cX6_canReach 3 = .ok (.istore 4, 2) := by decide +kernel
theorem dX6_canReach_5 : decode cX6_canReach 5 = .ok (.iload 4, 2) := by decide +kernel
theorem dX6_canReach_7 : decode cX6_canReach 7 = .ok (.iconst 4, 1) := by decide +kernel
theorem dX6_canReach_8 : decode cX6_canReach 8 = .ok (.if_icmp .ge 21, 3) := by decide +kernel
theorem dX6_canReach_11 : decode cX6_canReach 11 = .ok (.iload_n 0, 1) := by decide +kernel
theorem dX6_canReach_12 : decode cX6_canReach 12 = .ok (.ifCond .le 17, 3) := by decide +kernel
theorem dX6_canReach_15 : decode cX6_canReach 15 = .ok (.bipush 10, 2) := by decide +kernel
theorem dX6_canReach_17 : decode cX6_canReach 17 = .ok (.iload_n 3, 1) := by decide +kernel
theorem dX6_canReach_18 : decode cX6_canReach 18 = .ok (.imul, 1) := by decide +kernel
theorem dX6_canReach_19 : decode cX6_canReach 19 = .ok (.bipush 9, 2) := by decide +kernel
theorem dX6_canReach_21 : decode cX6_canReach 21 = .ok (.iadd, 1) := by decide +kernel
theorem dX6_canReach_22 : decode cX6_canReach 22 = .ok (.istore_n 3, 1) := by decide +kernel
theorem dX6_canReach_23 : decode cX6_canReach 23 = .ok (.iinc 4 1, 3) := by decide +kernel
theorem dX6_canReach_26 : decode cX6_canReach 26 = .ok (.goto (-21), 3) := by decide +kernel
theorem dX6_canReach_29 : decode cX6_canReach 29 = .ok (.iload_n 3, 1) := by decide +kernel
theorem dX6_canReach_30 : decode cX6_canReach 30 = .ok (.iload_n 2, 1) := by decide +kernel
theorem dX6_canReach_31 : decode cX6_canReach 31 = .ok (.if_icmp .lt 7, 3) := by decide +kernel
theorem dX6_canReach_34 : decode cX6_canReach 34 = .ok (.iconst 1, 1) := by decide +kernel
theorem dX6_canReach_35 : decode cX6_canReach 35 = .ok (.goto 4, 3) := by decide +kernel
theorem dX6_canReach_38 : decode cX6_canReach 38 = .ok (.iconst 0, 1) := by decide +kernel
theorem dX6_canReach_39 : decode cX6_canReach 39 = .ok (.ireturn, 1) := by decide +kernel
set_option maxRecDepth 20000 in
theorem ggX6_number_X6_in : GoodIn wsX6_number wsX6_in := goodIn_r _ [8] (by decide +kernel) (by decide +kernel)
set_option maxRecDepth 20000 in
theorem gX6_number_X6_in : GoodIn wsX6_number (va_wsS RX6 29 yX6_in wsX6_in) := goodIn_app (goodIn_of _ (by decide +kernel)) ggX6_number_X6_in
set_option maxRecDepth 20000 in
theorem ggX6_number_X6_canReach : GoodIn wsX6_number wsX6_canReach := goodIn_r _ [11] (by decide +kernel) (by decide +kernel)
set_option maxRecDepth 20000 in
theorem gX6_number_X6_canReach : GoodIn wsX6_number (va_wsS RX6 112 yX6_canReach wsX6_canReach) := goodIn_app (goodIn_of _ (by decide +kernel)) ggX6_number_X6_canReach
theorem dX6_number_0 : decode cX6_number 0 = .ok (.iconst 0, 1) := by decide +kernel
theorem dX6_number_1 : decode cX6_number 1 = .ok (.istore_n 2, 1) := by decide +kernel
theorem dX6_number_2 : decode cX6_number 2 = .ok (.iconst 0, 1) := by decide +kernel
theorem dX6_number_3 : decode cX6_number 3 = .ok (.istore_n 3, 1) := by decide +kernel
theorem dX6_number_4 : decode cX6_number 4 = .ok (.iconst 1, 1) := by decide +kernel
theorem dX6_number_5 : decode cX6_number 5 = .ok (.istore 4, 2) := by decide +kernel
theorem dX6_number_7 : decode cX6_number 7 = .ok (.iload 4, 2) := by decide +kernel
theorem dX6_number_9 : decode cX6_number 9 = .ok (.ifCond .eq 140, 3) := by decide +kernel
theorem dX6_number_12 : decode cX6_number 12 = .ok (.aload_n 0, 1) := by decide +kernel
theorem dX6_number_13 : decode cX6_number 13 = .ok (.getfield 109, 3) := by decide +kernel
theorem dX6_number_16 : decode cX6_number 16 = .ok (.aload_n 0, 1) := by decide +kernel
theorem dX6_number_17 : decode cX6_number 17 = .ok (.getfield 106, 3) := by decide +kernel
theorem dX6_number_20 : decode cX6_number 20 = .ok (.if_icmp .ge 15, 3) := by decide +kernel
theorem dX6_number_23 : decode cX6_number 23 = .ok (.aload_n 0, 1) := by decide +kernel
theorem dX6_number_24 : decode cX6_number 24 = .ok (.getfield 19, 3) := by decide +kernel
theorem dX6_number_27 : decode cX6_number 27 = .ok (.aload_n 0, 1) := by decide +kernel
theorem dX6_number_28 : decode cX6_number 28 = .ok (.getfield 109, 3) := by decide +kernel
theorem dX6_number_31 : decode cX6_number 31 = .ok (.iaload, 1) := by decide +kernel
theorem dX6_number_32 : decode cX6_number 32 = .ok (.goto 4, 3) := by decide +kernel
theorem dX6_number_35 : decode cX6_number 35 = .ok (.iconst 0, 1) := by decide +kernel
theorem dX6_number_36 : decode cX6_number 36 = .ok (.istore 5, 2) := by decide +kernel
theorem dX6_number_38 : decode cX6_number 38 = .ok (.iload 5, 2) := by decide +kernel
theorem dX6_number_40 : decode cX6_number 40 = .ok (.bipush 48, 2) := by decide +kernel
theorem dX6_number_42 : decode cX6_number 42 = .ok (.bipush 57, 2) := by decide +kernel
theorem dX6_number_44 : decode cX6_number 44 = .ok (.invokestatic 29, 3) := by decide +kernel
theorem dX6_number_47 : decode cX6_number 47 = .ok (.ifCond .eq 40, 3) := by decide +kernel
theorem dX6_number_50 : decode cX6_number 50 = .ok (.iload_n 3, 1) := by decide +kernel
theorem dX6_number_51 : decode cX6_number 51 = .ok (.iconst 4, 1) := by decide +kernel
theorem dX6_number_52 : decode cX6_number 52 = .ok (.if_icmp .ge 35, 3) := by decide +kernel
theorem dX6_number_55 : decode cX6_number 55 = .ok (.iload_n 3, 1) := by decide +kernel
theorem dX6_number_56 : decode cX6_number 56 = .ok (.ifCond .eq 7, 3) := by decide +kernel
theorem dX6_number_59 : decode cX6_number 59 = .ok (.iload_n 2, 1) := by decide +kernel
theorem dX6_number_60 : decode cX6_number 60 = .ok (.ifCond .le 27, 3) := by decide +kernel
theorem dX6_number_63 : decode cX6_number 63 = .ok (.bipush 10, 2) := by decide +kernel
theorem dX6_number_65 : decode cX6_number 65 = .ok (.iload_n 2, 1) := by decide +kernel
theorem dX6_number_66 : decode cX6_number 66 = .ok (.imul, 1) := by decide +kernel
theorem dX6_number_67 : decode cX6_number 67 = .ok (.iload 5, 2) := by decide +kernel
theorem dX6_number_69 : decode cX6_number 69 = .ok (.iadd, 1) := by decide +kernel
theorem dX6_number_70 : decode cX6_number 70 = .ok (.bipush 48, 2) := by decide +kernel
theorem dX6_number_72 : decode cX6_number 72 = .ok (.isub, 1) := by decide +kernel
theorem dX6_number_73 : decode cX6_number 73 = .ok (.iload_n 3, 1) := by decide +kernel
theorem dX6_number_74 : decode cX6_number 74 = .ok (.iconst 1, 1) := by decide +kernel
theorem dX6_number_75 : decode cX6_number 75 = .ok (.iadd, 1) := by decide +kernel
theorem dX6_number_76 : decode cX6_number 76 = .ok (.iload_n 1, 1) := by decide +kernel
theorem dX6_number_77 : decode cX6_number 77 = .ok (.invokestatic 112, 3) := by decide +kernel
theorem dX6_number_80 : decode cX6_number 80 = .ok (.ifCond .eq 7, 3) := by decide +kernel
theorem dX6_number_83 : decode cX6_number 83 = .ok (.iconst 1, 1) := by decide +kernel
theorem dX6_number_84 : decode cX6_number 84 = .ok (.goto 4, 3) := by decide +kernel
theorem dX6_number_87 : decode cX6_number 87 = .ok (.iconst 0, 1) := by decide +kernel
theorem dX6_number_88 : decode cX6_number 88 = .ok (.istore 6, 2) := by decide +kernel
theorem dX6_number_90 : decode cX6_number 90 = .ok (.iload 6, 2) := by decide +kernel
theorem dX6_number_92 : decode cX6_number 92 = .ok (.ifCond .eq 16, 3) := by decide +kernel
theorem dX6_number_95 : decode cX6_number 95 = .ok (.bipush 10, 2) := by decide +kernel
theorem dX6_number_97 : decode cX6_number 97 = .ok (.iload_n 2, 1) := by decide +kernel
theorem dX6_number_98 : decode cX6_number 98 = .ok (.imul, 1) := by decide +kernel
theorem dX6_number_99 : decode cX6_number 99 = .ok (.iload 5, 2) := by decide +kernel
theorem dX6_number_101 : decode cX6_number 101 = .ok (.iadd, 1) := by decide +kernel
theorem dX6_number_102 : decode cX6_number 102 = .ok (.bipush 48, 2) := by decide +kernel
theorem dX6_number_104 : decode cX6_number 104 = .ok (.isub, 1) := by decide +kernel
theorem dX6_number_105 : decode cX6_number 105 = .ok (.goto 4, 3) := by decide +kernel
theorem dX6_number_108 : decode cX6_number 108 = .ok (.iload_n 2, 1) := by decide +kernel
theorem dX6_number_109 : decode cX6_number 109 = .ok (.istore_n 2, 1) := by decide +kernel
theorem dX6_number_110 : decode cX6_number 110 = .ok (.iload_n 3, 1) := by decide +kernel
theorem dX6_number_111 : decode cX6_number 111 = .ok (.iload 6, 2) := by decide +kernel
theorem dX6_number_113 : decode cX6_number 113 = .ok (.ifCond .eq 7, 3) := by decide +kernel
theorem dX6_number_116 : decode cX6_number 116 = .ok (.iconst 1, 1) := by decide +kernel
theorem dX6_number_117 : decode cX6_number 117 = .ok (.goto 4, 3) := by decide +kernel
theorem dX6_number_120 : decode cX6_number 120 = .ok (.iconst 0, 1) := by decide +kernel
theorem dX6_number_121 : decode cX6_number 121 = .ok (.iadd, 1) := by decide +kernel
theorem dX6_number_122 : decode cX6_number 122 = .ok (.istore_n 3, 1) := by decide +kernel
theorem dX6_number_123 : decode cX6_number 123 = .ok (.aload_n 0, 1) := by decide +kernel
theorem dX6_number_124 : decode cX6_number 124 = .ok (.dup, 1) := by decide +kernel
theorem dX6_number_125 : decode cX6_number 125 = .ok (.getfield 109, 3) := by decide +kernel
theorem dX6_number_128 : decode cX6_number 128 = .ok (.iload 6, 2) := by decide +kernel
theorem dX6_number_130 : decode cX6_number 130 = .ok (.ifCond .eq 7, 3) := by decide +kernel
theorem dX6_number_133 : decode cX6_number 133 = .ok (.iconst 1, 1) := by decide +kernel
theorem dX6_number_134 : decode cX6_number 134 = .ok (.goto 4, 3) := by decide +kernel
theorem dX6_number_137 : decode cX6_number 137 = .ok (.iconst 0, 1) := by decide +kernel
theorem dX6_number_138 : decode cX6_number 138 = .ok (.iadd, 1) := by decide +kernel
theorem dX6_number_139 : decode cX6_number 139 = .ok (.putfield 109, 3) := by decide +kernel
theorem dX6_number_142 : decode cX6_number 142 = .ok (.iload 6, 2) := by decide +kernel
theorem dX6_number_144 : decode cX6_number 144 = .ok (.istore 4, 2) := by decide +kernel
theorem dX6_number_146 : decode cX6_number 146 = .ok (.goto (-139), 3) := by decide +kernel
theorem dX6_number_149 : decode cX6_number 149 = .ok (.aload_n 0, 1) := by decide +kernel
theorem dX6_number_150 : decode cX6_number 150 = .ok (.aload_n 0, 1) := by decide +kernel
theorem dX6_number_151 : decode cX6_number 151 = .ok (.getfield 115, 3) := by decide +kernel
theorem dX6_number_154 : decode cX6_number 154 = .ok (.ifCond .ne 12, 3) := by decide +kernel
theorem dX6_number_157 : decode cX6_number 157 = .ok (.iload_n 3, 1) := by decide +kernel
theorem dX6_number_158 : decode cX6_number 158 = .ok (.ifCond .eq 8, 3) := by decide +kernel
theorem dX6_number_161 : decode cX6_number 161 = .ok (.iload_n 2, 1) := by decide +kernel
theorem dX6_number_162 : decode cX6_number 162 = .ok (.iload_n 1, 1) := by decide +kernel
theorem dX6_number_163 : decode cX6_number 163 = .ok (.if_icmp .ge 7, 3) := by decide +kernel
theorem dX6_number_166 : decode cX6_number 166 = .ok (.iconst 1, 1) := by decide +kernel
theorem dX6_number_167 : decode cX6_number 167 = .ok (.goto 4, 3) := by decide +kernel
theorem dX6_number_170 : decode cX6_number 170 = .ok (.iconst 0, 1) := by decide +kernel
theorem dX6_number_171 : decode cX6_number 171 = .ok (.putfield 115, 3) := by decide +kernel
theorem dX6_number_174 : decode cX6_number 174 = .ok (.iload_n 2, 1) := by decide +kernel
theorem dX6_number_175 : decode cX6_number 175 = .ok (.ireturn, 1) := by decide +kernel
set_option maxRecDepth 20000 in
theorem ggX6_go_X6_number : GoodIn wsX6_go wsX6_number := goodIn_r _ [9, 1, 3, 4, 2, 10, 11, 8, 12, 13, 14, 15, 50, 51, 52, 53, 54, 55, 56, 57, 58, 59, 60] (by decide +kernel) (by decide +kernel)
set_option maxRecDepth 20000 in
theorem gX6_go_X6_number : GoodIn wsX6_go (wsV RX6 119 RX6 yX6_number wsX6_number) := goodIn_app (goodIn_of _ (by decide +kernel)) ggX6_go_X6_number
set_option maxRecDepth 20000 in
theorem ggX6_go_X6_sends : GoodIn wsX6_go wsX6_sends := goodIn_r _ [19, 20, 21, 22, 8, 23, 24, 25, 26, 27, 28, 29, 30, 31, 32, 33, 34, 35, 36, 37, 38, 39, 40, 41, 42, 43, 44, 45, 46, 47, 48, 49, 50, 51, 52, 53, 54, 55, 56, 57, 58, 59, 60] (by decide +kernel) (by decide +kernel)
set_option maxRecDepth 20000 in
theorem gX6_go_X6_sends : GoodIn wsX6_go (wsV RX6 100 RX6 yX6_sends wsX6_sends) := goodIn_app (goodIn_of _ (by decide +kernel)) ggX6_go_X6_sends
theorem dX6_go_0 : decode cX6_go 0 = .ok (.aload_n 0, 1) := by decide +kernel
theorem dX6_go_1 : decode cX6_go 1 = .ok (.iconst 0, 1) := by decide +kernel
theorem dX6_go_2 : decode cX6_go 2 = .ok (.putfield 109, 3) := by decide +kernel
theorem dX6_go_5 : decode cX6_go 5 = .ok (.aload_n 0, 1) := by decide +kernel
theorem dX6_go_6 : decode cX6_go 6 = .ok (.iconst 0, 1) := by decide +kernel
theorem dX6_go_7 : decode cX6_go 7 = .ok (.putfield 115, 3) := by decide +kernel
theorem dX6_go_10 : decode cX6_go 10 = .ok (.iconst 0, 1) := by decide +kernel
theorem dX6_go_11 : decode cX6_go 11 = .ok (.istore_n 2, 1) := by decide +kernel
theorem dX6_go_12 : decode cX6_go 12 = .ok (.iconst 1, 1) := by decide +kernel
theorem dX6_go_13 : decode cX6_go 13 = .ok (.istore_n 3, 1) := by decide +kernel
theorem dX6_go_14 : decode cX6_go 14 = .ok (.iload_n 3, 1) := by decide +kernel
theorem dX6_go_15 : decode cX6_go 15 = .ok (.ifCond .eq 190, 3) := by decide +kernel
theorem dX6_go_18 : decode cX6_go 18 = .ok (.aload_n 0, 1) := by decide +kernel
theorem dX6_go_19 : decode cX6_go 19 = .ok (.iconst 0, 1) := by decide +kernel
theorem dX6_go_20 : decode cX6_go 20 = .ok (.invokevirtual 119, 3) := by decide +kernel
theorem dX6_go_23 : decode cX6_go 23 = .ok (.istore 4, 2) := by decide +kernel
theorem dX6_go_25 : decode cX6_go 25 = .ok (.iload 4, 2) := by decide +kernel
theorem dX6_go_27 : decode cX6_go 27 = .ok (.istore 5, 2) := by decide +kernel
theorem dX6_go_29 : decode cX6_go 29 = .ok (.aload_n 0, 1) := by decide +kernel
theorem dX6_go_30 : decode cX6_go 30 = .ok (.getfield 115, 3) := by decide +kernel
theorem dX6_go_33 : decode cX6_go 33 = .ok (.ifCond .ne 46, 3) := by decide +kernel
theorem dX6_go_36 : decode cX6_go 36 = .ok (.aload_n 0, 1) := by decide +kernel
theorem dX6_go_37 : decode cX6_go 37 = .ok (.getfield 109, 3) := by decide +kernel
theorem dX6_go_40 : decode cX6_go 40 = .ok (.aload_n 0, 1) := by decide +kernel
theorem dX6_go_41 : decode cX6_go 41 = .ok (.getfield 106, 3) := by decide +kernel
theorem dX6_go_44 : decode cX6_go 44 = .ok (.if_icmp .ge 35, 3) := by decide +kernel
theorem dX6_go_47 : decode cX6_go 47 = .ok (.aload_n 0, 1) := by decide +kernel
theorem dX6_go_48 : decode cX6_go 48 = .ok (.getfield 19, 3) := by decide +kernel
theorem dX6_go_51 : decode cX6_go 51 = .ok (.aload_n 0, 1) := by decide +kernel
theorem dX6_go_52 : decode cX6_go 52 = .ok (.getfield 109, 3) := by decide +kernel
theorem dX6_go_55 : decode cX6_go 55 = .ok (.iaload, 1) := by decide +kernel
theorem dX6_go_56 : decode cX6_go 56 = .ok (.bipush 45, 2) := by decide +kernel
theorem dX6_go_58 : decode cX6_go 58 = .ok (.if_icmp .ne 21, 3) := by decide +kernel
theorem dX6_go_61 : decode cX6_go 61 = .ok (.aload_n 0, 1) := by decide +kernel
theorem dX6_go_62 : decode cX6_go 62 = .ok (.dup, 1) := by decide +kernel
theorem dX6_go_63 : decode cX6_go 63 = .ok (.getfield 109, 3) := by decide +kernel
theorem dX6_go_66 : decode cX6_go 66 = .ok (.iconst 1, 1) := by decide +kernel
theorem dX6_go_67 : decode cX6_go 67 = .ok (.iadd, 1) := by decide +kernel
theorem dX6_go_68 : decode cX6_go 68 = .ok (.putfield 109, 3) := by decide +kernel
theorem dX6_go_71 : decode cX6_go 71 = .ok (.aload_n 0, 1) := by decide +kernel
theorem dX6_go_72 : decode cX6_go 72 = .ok (.iload 4, 2) := by decide +kernel
theorem dX6_go_74 : decode cX6_go 74 = .ok (.invokevirtual 119, 3) := by decide +kernel
theorem dX6_go_77 : decode cX6_go 77 = .ok (.istore 5, 2) := by decide +kernel
theorem dX6_go_79 : decode cX6_go 79 = .ok (.iload 4, 2) := by decide +kernel
theorem dX6_go_81 : decode cX6_go 81 = .ok (.istore 6, 2) := by decide +kernel
theorem dX6_go_83 : decode cX6_go 83 = .ok (.iload 6, 2) := by decide +kernel
theorem dX6_go_85 : decode cX6_go 85 = .ok (.iload 5, 2) := by decide +kernel
theorem dX6_go_87 : decode cX6_go 87 = .ok (.if_icmp .gt 30, 3) := by decide +kernel
theorem dX6_go_90 : decode cX6_go 90 = .ok (.iload_n 1, 1) := by decide +kernel
theorem dX6_go_91 : decode cX6_go 91 = .ok (.ifCond .eq 26, 3) := by decide +kernel
theorem dX6_go_94 : decode cX6_go 94 = .ok (.iload_n 2, 1) := by decide +kernel
theorem dX6_go_95 : decode cX6_go 95 = .ok (.bipush 100, 2) := by decide +kernel
theorem dX6_go_97 : decode cX6_go 97 = .ok (.if_icmp .ge 20, 3) := by decide +kernel
theorem dX6_go_100 : decode cX6_go 100 = .ok (.aload_n 0, 1) := by decide +kernel
theorem dX6_go_101 : decode cX6_go 101 = .ok (.iload 6, 2) := by decide +kernel
theorem dX6_go_103 : decode cX6_go 103 = .ok (.invokevirtual 100, 3) := by decide +kernel
theorem dX6_go_106 : decode cX6_go 106 = .ok (.istore 7, 2) := by decide +kernel
theorem dX6_go_108 : decode cX6_go 108 = .ok (.iinc 2 1, 3) := by decide +kernel
theorem dX6_go_111 : decode cX6_go 111 = .ok (.iinc 6 1, 3) := by decide +kernel
theorem dX6_go_114 : decode cX6_go 114 = .ok (.goto (-31), 3) := by decide +kernel
theorem dX6_go_117 : decode cX6_go 117 = .ok (.aload_n 0, 1) := by decide +kernel
theorem dX6_go_118 : decode cX6_go 118 = .ok (.getfield 115, 3) := by decide +kernel
theorem dX6_go_121 : decode cX6_go 121 = .ok (.ifCond .ne 18, 3) := by decide +kernel
theorem dX6_go_124 : decode cX6_go 124 = .ok (.aload_n 0, 1) := by decide +kernel
theorem dX6_go_125 : decode cX6_go 125 = .ok (.getfield 109, 3) := by decide +kernel
theorem dX6_go_128 : decode cX6_go 128 = .ok (.aload_n 0, 1) := by decide +kernel
theorem dX6_go_129 : decode cX6_go 129 = .ok (.getfield 106, 3) := by decide +kernel
theorem dX6_go_132 : decode cX6_go 132 = .ok (.if_icmp .ge 7, 3) := by decide +kernel
theorem dX6_go_135 : decode cX6_go 135 = .ok (.iconst 1, 1) := by decide +kernel
theorem dX6_go_136 : decode cX6_go 136 = .ok (.goto 4, 3) := by decide +kernel
theorem dX6_go_139 : decode cX6_go 139 = .ok (.iconst 0, 1) := by decide +kernel
theorem dX6_go_140 : decode cX6_go 140 = .ok (.istore_n 3, 1) := by decide +kernel
theorem dX6_go_141 : decode cX6_go 141 = .ok (.iload_n 3, 1) := by decide +kernel
theorem dX6_go_142 : decode cX6_go 142 = .ok (.ifCond .eq 60, 3) := by decide +kernel
theorem dX6_go_145 : decode cX6_go 145 = .ok (.aload_n 0, 1) := by decide +kernel
theorem dX6_go_146 : decode cX6_go 146 = .ok (.aload_n 0, 1) := by decide +kernel
theorem dX6_go_147 : decode cX6_go 147 = .ok (.getfield 19, 3) := by decide +kernel
theorem dX6_go_150 : decode cX6_go 150 = .ok (.aload_n 0, 1) := by decide +kernel
theorem dX6_go_151 : decode cX6_go 151 = .ok (.getfield 109, 3) := by decide +kernel
theorem dX6_go_154 : decode cX6_go 154 = .ok (.iaload, 1) := by decide +kernel
theorem dX6_go_155 : decode cX6_go 155 = .ok (.bipush 44, 2) := by decide +kernel
theorem dX6_go_157 : decode cX6_go 157 = .ok (.if_icmp .eq 7, 3) := by decide +kernel
theorem dX6_go_160 : decode cX6_go 160 = .ok (.iconst 1, 1) := by decide +kernel
theorem dX6_go_161 : decode cX6_go 161 = .ok (.goto 4, 3) := by decide +kernel
theorem dX6_go_164 : decode cX6_go 164 = .ok (.iconst 0, 1) := by decide +kernel
theorem dX6_go_165 : decode cX6_go 165 = .ok (.putfield 115, 3) := by decide +kernel
theorem dX6_go_168 : decode cX6_go 168 = .ok (.aload_n 0, 1) := by decide +kernel
theorem dX6_go_169 : decode cX6_go 169 = .ok (.dup, 1) := by decide +kernel
theorem dX6_go_170 : decode cX6_go 170 = .ok (.getfield 109, 3) := by decide +kernel
theorem dX6_go_173 : decode cX6_go 173 = .ok (.aload_n 0, 1) := by decide +kernel
theorem dX6_go_174 : decode cX6_go 174 = .ok (.getfield 115, 3) := by decide +kernel
theorem dX6_go_177 : decode cX6_go 177 = .ok (.ifCond .eq 7, 3) := by decide +kernel
theorem dX6_go_180 : decode cX6_go 180 = .ok (.iconst 0, 1) := by decide +kernel
theorem dX6_go_181 : decode cX6_go 181 = .ok (.goto 4, 3) := by decide +kernel
theorem dX6_go_184 : decode cX6_go 184 = .ok (.iconst 1, 1) := by decide +kernel
theorem dX6_go_185 : decode cX6_go 185 = .ok (.iadd, 1) := by decide +kernel
theorem dX6_go_186 : decode cX6_go 186 = .ok (.putfield 109, 3) := by decide +kernel
theorem dX6_go_189 : decode cX6_go 189 = .ok (.aload_n 0, 1) := by decide +kernel
theorem dX6_go_190 : decode cX6_go 190 = .ok (.getfield 115, 3) := by decide +kernel
theorem dX6_go_193 : decode cX6_go 193 = .ok (.ifCond .ne 7, 3) := by decide +kernel
theorem dX6_go_196 : decode cX6_go 196 = .ok (.iconst 1, 1) := by decide +kernel
theorem dX6_go_197 : decode cX6_go 197 = .ok (.goto 4, 3) := by decide +kernel
theorem dX6_go_200 : decode cX6_go 200 = .ok (.iconst 0, 1) := by decide +kernel
theorem dX6_go_201 : decode cX6_go 201 = .ok (.istore_n 3, 1) := by decide +kernel
theorem dX6_go_202 : decode cX6_go 202 = .ok (.goto (-188), 3) := by decide +kernel
theorem dX6_go_205 : decode cX6_go 205 = .ok (.iload_n 2, 1) := by decide +kernel
theorem dX6_go_206 : decode cX6_go 206 = .ok (.ireturn, 1) := by decide +kernel
set_option maxRecDepth 20000 in
theorem ggX6_firstError_X6_go : GoodIn wsX6_firstError wsX6_go := goodIn_r _ [9, 3, 2, 4, 10, 11, 12, 13, 8, 14, 15, 16, 17, 18, 19, 20, 21, 22, 23, 24, 25, 26, 27, 28, 29, 30, 31, 32, 33, 34, 35, 36, 37, 38, 39, 40, 41, 42, 43, 44, 45, 46, 47, 48, 49, 50, 51, 52, 53, 54, 55, 56, 57, 58, 59, 60, 61, 62, 63, 64, 65] (by decide +kernel) (by decide +kernel)
set_option maxRecDepth 20000 in
theorem gX6_firstError_X6_go : GoodIn wsX6_firstError (wsV RX6 122 RX6 yX6_go wsX6_go) := goodIn_app (goodIn_of _ (by decide +kernel)) ggX6_firstError_X6_go
theorem dX6_firstError_0 : decode cX6_firstError 0 = .ok (.aload_n 0, 1) := by decide +kernel
theorem dX6_firstError_1 : decode cX6_firstError 1 = .ok (.iconst 0, 1) := by decide +kernel
theorem dX6_firstError_2 : decode cX6_firstError 2 = .ok (.putfield 25, 3) := by decide +kernel
theorem dX6_firstError_5 : decode cX6_firstError 5 = .ok (.aload_n 0, 1) := by decide +kernel
theorem dX6_firstError_6 : decode cX6_firstError 6 = .ok (.iconst 0, 1) := by decide +kernel
theorem dX6_firstError_7 : decode cX6_firstError 7 = .ok (.invokevirtual 122, 3) := by decide +kernel
theorem dX6_firstError_10 : decode cX6_firstError 10 = .ok (.istore_n 1, 1) := by decide +kernel
theorem dX6_firstError_11 : decode cX6_firstError 11 = .ok (.aload_n 0, 1) := by decide +kernel
theorem dX6_firstError_12 : decode cX6_firstError 12 = .ok (.getfield 115, 3) := by decide +kernel
theorem dX6_firstError_15 : decode cX6_firstError 15 = .ok (.ifCond .eq 10, 3) := by decide +kernel
theorem dX6_firstError_18 : decode cX6_firstError 18 = .ok (.aload_n 0, 1) := by decide +kernel
theorem dX6_firstError_19 : decode cX6_firstError 19 = .ok (.getfield 109, 3) := by decide +kernel
theorem dX6_firstError_22 : decode cX6_firstError 22 = .ok (.goto 7, 3) := by decide +kernel
theorem dX6_firstError_25 : decode cX6_firstError 25 = .ok (.aload_n 0, 1) := by decide +kernel
theorem dX6_firstError_26 : decode cX6_firstError 26 = .ok (.getfield 106, 3) := by decide +kernel
theorem dX6_firstError_29 : decode cX6_firstError 29 = .ok (.ireturn, 1) := by decide +kernel
set_option maxRecDepth 20000 in
theorem ggX6_sendAll_X6_go : GoodIn wsX6_sendAll wsX6_go := goodIn_r _ [7, 8, 1, 2, 9, 10, 11, 12, 6, 13, 14, 15, 16, 17, 18, 19, 20, 21, 22, 23, 24, 25, 26, 27, 28, 29, 30, 31, 32, 33, 34, 35, 36, 37, 38, 39, 40, 41, 42, 43, 44, 45, 46, 47, 48, 49, 50, 51, 52, 53, 65, 66, 67, 68, 69, 70, 71, 72, 73, 74, 75] (by decide +kernel) (by decide +kernel)
set_option maxRecDepth 20000 in
theorem gX6_sendAll_X6_go : GoodIn wsX6_sendAll (wsV RX6 122 RX6 yX6_go wsX6_go) := goodIn_app (goodIn_of _ (by decide +kernel)) ggX6_sendAll_X6_go
set_option maxRecDepth 20000 in
theorem ggX6_sendAll_X6_holds : GoodIn wsX6_sendAll wsX6_holds := goodIn_r _ [57, 58, 65, 66, 67, 68, 69, 70, 71, 72, 73, 74, 75] (by decide +kernel) (by decide +kernel)
set_option maxRecDepth 20000 in
theorem gX6_sendAll_X6_holds : GoodIn wsX6_sendAll (wsV RX6 74 RX6 yX6_holds wsX6_holds) := goodIn_app (goodIn_of _ (by decide +kernel)) ggX6_sendAll_X6_holds
set_option maxRecDepth 20000 in
theorem ggX6_sendAll_X6_save : GoodIn wsX6_sendAll wsX6_save := goodIn_r _ [62, 63, 64, 24, 65, 66, 67, 68, 69, 70, 71, 72, 73, 74, 75] (by decide +kernel) (by decide +kernel)
set_option maxRecDepth 20000 in
theorem gX6_sendAll_X6_save : GoodIn wsX6_sendAll (wsV RX6 78 RX6 yX6_save wsX6_save) := goodIn_app (goodIn_of _ (by decide +kernel)) ggX6_sendAll_X6_save
theorem dX6_sendAll_0 : decode cX6_sendAll 0 = .ok (.aload_n 0, 1) := by decide +kernel
theorem dX6_sendAll_1 : decode cX6_sendAll 1 = .ok (.iconst 0, 1) := by decide +kernel
theorem dX6_sendAll_2 : decode cX6_sendAll 2 = .ok (.invokevirtual 122, 3) := by decide +kernel
theorem dX6_sendAll_5 : decode cX6_sendAll 5 = .ok (.istore_n 1, 1) := by decide +kernel
theorem dX6_sendAll_6 : decode cX6_sendAll 6 = .ok (.aload_n 0, 1) := by decide +kernel
theorem dX6_sendAll_7 : decode cX6_sendAll 7 = .ok (.aload_n 0, 1) := by decide +kernel
theorem dX6_sendAll_8 : decode cX6_sendAll 8 = .ok (.getfield 115, 3) := by decide +kernel
theorem dX6_sendAll_11 : decode cX6_sendAll 11 = .ok (.ifCond .eq 7, 3) := by decide +kernel
theorem dX6_sendAll_14 : decode cX6_sendAll 14 = .ok (.iconst 1, 1) := by decide +kernel
theorem dX6_sendAll_15 : decode cX6_sendAll 15 = .ok (.goto 4, 3) := by decide +kernel
theorem dX6_sendAll_18 : decode cX6_sendAll 18 = .ok (.iconst 0, 1) := by decide +kernel
theorem dX6_sendAll_19 : decode cX6_sendAll 19 = .ok (.invokevirtual 74, 3) := by decide +kernel
theorem dX6_sendAll_22 : decode cX6_sendAll 22 = .ok (.ifCond .ne 5, 3) := by decide +kernel
theorem dX6_sendAll_25 : decode cX6_sendAll 25 = .ok (.iconst 0, 1) := by decide +kernel
theorem dX6_sendAll_26 : decode cX6_sendAll 26 = .ok (.ireturn, 1) := by decide +kernel
theorem dX6_sendAll_27 : decode cX6_sendAll 27 = .ok (.aload_n 0, 1) := by decide +kernel
theorem dX6_sendAll_28 : decode cX6_sendAll 28 = .ok (.invokevirtual 78, 3) := by decide +kernel
theorem dX6_sendAll_31 : decode cX6_sendAll 31 = .ok (.aload_n 0, 1) := by decide +kernel
theorem dX6_sendAll_32 : decode cX6_sendAll 32 = .ok (.iconst 1, 1) := by decide +kernel
theorem dX6_sendAll_33 : decode cX6_sendAll 33 = .ok (.invokevirtual 122, 3) := by decide +kernel
theorem dX6_sendAll_36 : decode cX6_sendAll 36 = .ok (.istore_n 2, 1) := by decide +kernel
theorem dX6_sendAll_37 : decode cX6_sendAll 37 = .ok (.aload_n 0, 1) := by decide +kernel
theorem dX6_sendAll_38 : decode cX6_sendAll 38 = .ok (.iconst 0, 1) := by decide +kernel
theorem dX6_sendAll_39 : decode cX6_sendAll 39 = .ok (.putfield 106, 3) := by decide +kernel
theorem dX6_sendAll_42 : decode cX6_sendAll 42 = .ok (.iload_n 2, 1) := by decide +kernel
theorem dX6_sendAll_43 : decode cX6_sendAll 43 = .ok (.ireturn, 1) := by decide +kernel
set_option maxRecDepth 20000 in
theorem ggX6_undo_X6_holds : GoodIn wsX6_undo wsX6_holds := goodIn_r _ [8, 9, 10, 11, 12, 13, 14, 15, 16, 17, 18, 19, 20] (by decide +kernel) (by decide +kernel)
set_option maxRecDepth 20000 in
theorem gX6_undo_X6_holds : GoodIn wsX6_undo (wsV RX6 74 RX6 yX6_holds wsX6_holds) := goodIn_app (goodIn_of _ (by decide +kernel)) ggX6_undo_X6_holds
theorem dX6_undo_0 : decode cX6_undo 0 = .ok (.aload_n 0, 1) := by decide +kernel
theorem dX6_undo_1 : decode cX6_undo 1 = .ok (.aload_n 0, 1) := by decide +kernel
theorem dX6_undo_2 : decode cX6_undo 2 = .ok (.getfield 33, 3) := by decide +kernel
theorem dX6_undo_5 : decode cX6_undo 5 = .ok (.ifCond .le 7, 3) := by decide +kernel
theorem dX6_undo_8 : decode cX6_undo 8 = .ok (.iconst 0, 1) := by decide +kernel
theorem dX6_undo_9 : decode cX6_undo 9 = .ok (.goto 4, 3) := by decide +kernel
theorem dX6_undo_12 : decode cX6_undo 12 = .ok (.iconst 1, 1) := by decide +kernel
theorem dX6_undo_13 : decode cX6_undo 13 = .ok (.invokevirtual 74, 3) := by decide +kernel
theorem dX6_undo_16 : decode cX6_undo 16 = .ok (.ifCond .ne 5, 3) := by decide +kernel
theorem dX6_undo_19 : decode cX6_undo 19 = .ok (.iconst 0, 1) := by decide +kernel
theorem dX6_undo_20 : decode cX6_undo 20 = .ok (.ireturn, 1) := by decide +kernel
theorem dX6_undo_21 : decode cX6_undo 21 = .ok (.aload_n 0, 1) := by decide +kernel
theorem dX6_undo_22 : decode cX6_undo 22 = .ok (.dup, 1) := by decide +kernel
theorem dX6_undo_23 : decode cX6_undo 23 = .ok (.getfield 33, 3) := by decide +kernel
theorem dX6_undo_26 : decode cX6_undo 26 = .ok (.iconst 1, 1) := by decide +kernel
theorem dX6_undo_27 : decode cX6_undo 27 = .ok (.isub, 1) := by decide +kernel
theorem dX6_undo_28 : decode cX6_undo 28 = .ok (.putfield 33, 3) := by decide +kernel
theorem dX6_undo_31 : decode cX6_undo 31 = .ok (.iconst 0, 1) := by decide +kernel
theorem dX6_undo_32 : decode cX6_undo 32 = .ok (.istore_n 1, 1) := by decide +kernel
theorem dX6_undo_33 : decode cX6_undo 33 = .ok (.iload_n 1, 1) := by decide +kernel
theorem dX6_undo_34 : decode cX6_undo 34 = .ok (.bipush 104, 2) := by decide +kernel
theorem dX6_undo_36 : decode cX6_undo 36 = .ok (.if_icmp .ge 29, 3) := by decide +kernel
theorem dX6_undo_39 : decode cX6_undo 39 = .ok (.aload_n 0, 1) := by decide +kernel
theorem dX6_undo_40 : decode cX6_undo 40 = .ok (.getfield 7, 3) := by decide +kernel
theorem dX6_undo_43 : decode cX6_undo 43 = .ok (.iload_n 1, 1) := by decide +kernel
theorem dX6_undo_44 : decode cX6_undo 44 = .ok (.aload_n 0, 1) := by decide +kernel
theorem dX6_undo_45 : decode cX6_undo 45 = .ok (.getfield 16, 3) := by decide +kernel
theorem dX6_undo_48 : decode cX6_undo 48 = .ok (.bipush 104, 2) := by decide +kernel
theorem dX6_undo_50 : decode cX6_undo 50 = .ok (.aload_n 0, 1) := by decide +kernel
theorem dX6_undo_51 : decode cX6_undo 51 = .ok (.getfield 33, 3) := by decide +kernel
theorem dX6_undo_54 : decode cX6_undo 54 = .ok (.imul, 1) := by decide +kernel
theorem dX6_undo_55 : decode cX6_undo 55 = .ok (.iload_n 1, 1) := by decide +kernel
theorem dX6_undo_56 : decode cX6_undo 56 = .ok (.iadd, 1) := by decide +kernel
theorem dX6_undo_57 : decode cX6_undo 57 = .ok (.iaload, 1) := by decide +kernel
theorem dX6_undo_58 : decode cX6_undo 58 = .ok (.iastore, 1) := by decide +kernel
theorem dX6_undo_59 : decode cX6_undo 59 = .ok (.iinc 1 1, 3) := by decide +kernel
theorem dX6_undo_62 : decode cX6_undo 62 = .ok (.goto (-29), 3) := by decide +kernel
theorem dX6_undo_65 : decode cX6_undo 65 = .ok (.aload_n 0, 1) := by decide +kernel
theorem dX6_undo_66 : decode cX6_undo 66 = .ok (.getfield 33, 3) := by decide +kernel
theorem dX6_undo_69 : decode cX6_undo 69 = .ok (.ireturn, 1) := by decide +kernel
set_option maxRecDepth 20000 in
theorem ggX6_toldOfMix_X6_maskOf : GoodIn wsX6_toldOfMix wsX6_maskOf := goodIn_r _ [5, 6, 7, 8, 4, 9, 17, 18, 19, 20, 21, 22, 23, 24, 25, 26, 27] (by decide +kernel) (by decide +kernel)
set_option maxRecDepth 20000 in
theorem gX6_toldOfMix_X6_maskOf : GoodIn wsX6_toldOfMix (wsV RX6 91 RX6 yX6_maskOf wsX6_maskOf) := goodIn_app (goodIn_of _ (by decide +kernel)) ggX6_toldOfMix_X6_maskOf
set_option maxRecDepth 20000 in
theorem ggX6_toldOfMix_X6_bits : GoodIn wsX6_toldOfMix wsX6_bits := goodIn_r _ [12] (by decide +kernel) (by decide +kernel)
set_option maxRecDepth 20000 in
theorem gX6_toldOfMix_X6_bits : GoodIn wsX6_toldOfMix (va_wsS RX6 48 yX6_bits wsX6_bits) := goodIn_app (goodIn_of _ (by decide +kernel)) ggX6_toldOfMix_X6_bits
set_option maxRecDepth 20000 in
theorem ggX6_toldOfMix_X6_valueOf : GoodIn wsX6_toldOfMix wsX6_valueOf := goodIn_r _ [16, 6, 17, 18, 19, 20, 21, 22, 23, 24, 25, 26, 27] (by decide +kernel) (by decide +kernel)
set_option maxRecDepth 20000 in
theorem gX6_toldOfMix_X6_valueOf : GoodIn wsX6_toldOfMix (wsV RX6 126 RX6 yX6_valueOf wsX6_valueOf) := goodIn_app (goodIn_of _ (by decide +kernel)) ggX6_toldOfMix_X6_valueOf
theorem dX6_toldOfMix_0 : decode cX6_toldOfMix 0 = .ok (.aload_n 0, 1) := by decide +kernel
theorem dX6_toldOfMix_1 : decode cX6_toldOfMix 1 = .ok (.iload_n 1, 1) := by decide +kernel
theorem dX6_toldOfMix_2 : decode cX6_toldOfMix 2 = .ok (.invokevirtual 91, 3) := by decide +kernel
theorem dX6_toldOfMix_5 : decode cX6_toldOfMix 5 = .ok (.istore_n 3, 1) := by decide +kernel
theorem dX6_toldOfMix_6 : decode cX6_toldOfMix 6 = .ok (.iload_n 2, 1) := by decide +kernel
theorem dX6_toldOfMix_7 : decode cX6_toldOfMix 7 = .ok (.ifCond .ne 10, 3) := by decide +kernel
theorem dX6_toldOfMix_10 : decode cX6_toldOfMix 10 = .ok (.iload_n 3, 1) := by decide +kernel
theorem dX6_toldOfMix_11 : decode cX6_toldOfMix 11 = .ok (.invokestatic 48, 3) := by decide +kernel
theorem dX6_toldOfMix_14 : decode cX6_toldOfMix 14 = .ok (.goto 17, 3) := by decide +kernel
theorem dX6_toldOfMix_17 : decode cX6_toldOfMix 17 = .ok (.iload_n 2, 1) := by decide +kernel
theorem dX6_toldOfMix_18 : decode cX6_toldOfMix 18 = .ok (.iconst 1, 1) := by decide +kernel
theorem dX6_toldOfMix_19 : decode cX6_toldOfMix 19 = .ok (.if_icmp .ne 7, 3) := by decide +kernel
theorem dX6_toldOfMix_22 : decode cX6_toldOfMix 22 = .ok (.iload_n 3, 1) := by decide +kernel
theorem dX6_toldOfMix_23 : decode cX6_toldOfMix 23 = .ok (.goto 8, 3) := by decide +kernel
theorem dX6_toldOfMix_26 : decode cX6_toldOfMix 26 = .ok (.aload_n 0, 1) := by decide +kernel
theorem dX6_toldOfMix_27 : decode cX6_toldOfMix 27 = .ok (.iload_n 3, 1) := by decide +kernel
theorem dX6_toldOfMix_28 : decode cX6_toldOfMix 28 = .ok (.invokevirtual 126, 3) := by decide +kernel
theorem dX6_toldOfMix_31 : decode cX6_toldOfMix 31 = .ok (.ireturn, 1) := by decide +kernel
set_option maxRecDepth 20000 in
theorem ggX6_mix_X6_isMix : GoodIn wsX6_mix wsX6_isMix := goodIn_r _ [4, 5, 6, 3, 7] (by decide +kernel) (by decide +kernel)
set_option maxRecDepth 20000 in
theorem gX6_mix_X6_isMix : GoodIn wsX6_mix (va_wsS RX6 97 yX6_isMix wsX6_isMix) := goodIn_app (goodIn_of _ (by decide +kernel)) ggX6_mix_X6_isMix
set_option maxRecDepth 20000 in
theorem ggX6_mix_X6_in : GoodIn wsX6_mix wsX6_in := goodIn_r _ [7] (by decide +kernel) (by decide +kernel)
set_option maxRecDepth 20000 in
theorem gX6_mix_X6_in : GoodIn wsX6_mix (va_wsS RX6 29 yX6_in wsX6_in) := goodIn_app (goodIn_of _ (by decide +kernel)) ggX6_mix_X6_in
set_option maxRecDepth 20000 in
theorem ggX6_mix_X6_holds : GoodIn wsX6_mix wsX6_holds := goodIn_r _ [11, 12, 32, 33, 34, 35, 36, 37, 38, 39, 40, 41, 42] (by decide +kernel) (by decide +kernel)
set_option maxRecDepth 20000 in
theorem gX6_mix_X6_holds : GoodIn wsX6_mix (wsV RX6 74 RX6 yX6_holds wsX6_holds) := goodIn_app (goodIn_of _ (by decide +kernel)) ggX6_mix_X6_holds
set_option maxRecDepth 20000 in
theorem ggX6_mix_X6_toldOfMix : GoodIn wsX6_mix wsX6_toldOfMix := goodIn_r _ [16, 17, 18, 19, 3, 20, 21, 22, 23, 24, 25, 26, 27, 28, 29, 30, 31, 32, 33, 34, 35, 36, 37, 38, 39, 40, 41, 42] (by decide +kernel) (by decide +kernel)
set_option maxRecDepth 20000 in
theorem gX6_mix_X6_toldOfMix : GoodIn wsX6_mix (wsV RX6 129 RX6 yX6_toldOfMix wsX6_toldOfMix) := goodIn_app (goodIn_of _ (by decide +kernel)) ggX6_mix_X6_toldOfMix
theorem dX6_mix_0 : decode cX6_mix 0 = .ok (.aload_n 0, 1) := by decide +kernel
theorem dX6_mix_1 : decode cX6_mix 1 = .ok (.iload_n 1, 1) := by decide +kernel
theorem dX6_mix_2 : decode cX6_mix 2 = .ok (.invokestatic 97, 3) := by decide +kernel
theorem dX6_mix_5 : decode cX6_mix 5 = .ok (.ifCond .eq 16, 3) := by decide +kernel
theorem dX6_mix_8 : decode cX6_mix 8 = .ok (.iload_n 2, 1) := by decide +kernel
theorem dX6_mix_9 : decode cX6_mix 9 = .ok (.iconst 0, 1) := by decide +kernel
theorem dX6_mix_10 : decode cX6_mix 10 = .ok (.iconst 2, 1) := by decide +kernel
theorem dX6_mix_11 : decode cX6_mix 11 = .ok (.invokestatic 29, 3) := by decide +kernel
theorem dX6_mix_14 : decode cX6_mix 14 = .ok (.ifCond .eq 7, 3) := by decide +kernel
theorem dX6_mix_17 : decode cX6_mix 17 = .ok (.iconst 0, 1) := by decide +kernel
theorem dX6_mix_18 : decode cX6_mix 18 = .ok (.goto 4, 3) := by decide +kernel
theorem dX6_mix_21 : decode cX6_mix 21 = .ok (.iconst 1, 1) := by decide +kernel
theorem dX6_mix_22 : decode cX6_mix 22 = .ok (.invokevirtual 74, 3) := by decide +kernel
theorem dX6_mix_25 : decode cX6_mix 25 = .ok (.ifCond .eq 12, 3) := by decide +kernel
theorem dX6_mix_28 : decode cX6_mix 28 = .ok (.aload_n 0, 1) := by decide +kernel
theorem dX6_mix_29 : decode cX6_mix 29 = .ok (.iload_n 1, 1) := by decide +kernel
theorem dX6_mix_30 : decode cX6_mix 30 = .ok (.iload_n 2, 1) := by decide +kernel
theorem dX6_mix_31 : decode cX6_mix 31 = .ok (.invokevirtual 129, 3) := by decide +kernel
theorem dX6_mix_34 : decode cX6_mix 34 = .ok (.goto 4, 3) := by decide +kernel
theorem dX6_mix_37 : decode cX6_mix 37 = .ok (.iconst 0, 1) := by decide +kernel
theorem dX6_mix_38 : decode cX6_mix 38 = .ok (.ireturn, 1) := by decide +kernel
set_option maxRecDepth 20000 in
theorem ggX6_told_X6_of : GoodIn wsX6_told wsX6_of := goodIn_r _ [5] (by decide +kernel) (by decide +kernel)
set_option maxRecDepth 20000 in
theorem gX6_told_X6_of : GoodIn wsX6_told (va_wsS RX6 36 yX6_of wsX6_of) := goodIn_app (goodIn_of _ (by decide +kernel)) ggX6_told_X6_of
set_option maxRecDepth 20000 in
theorem ggX6_told_X6_bits : GoodIn wsX6_told wsX6_bits := goodIn_r _ [8] (by decide +kernel) (by decide +kernel)
set_option maxRecDepth 20000 in
theorem gX6_told_X6_bits : GoodIn wsX6_told (va_wsS RX6 48 yX6_bits wsX6_bits) := goodIn_app (goodIn_of _ (by decide +kernel)) ggX6_told_X6_bits
set_option maxRecDepth 20000 in
theorem ggX6_told_X6_isDone : GoodIn wsX6_told wsX6_isDone := goodIn_r _ [12, 1, 2, 3, 4, 5, 13, 14, 15, 16, 29, 30, 31, 32, 33, 34, 35, 36, 37, 38, 39] (by decide +kernel) (by decide +kernel)
set_option maxRecDepth 20000 in
theorem gX6_told_X6_isDone : GoodIn wsX6_told (wsV RX6 132 RX6 yX6_isDone wsX6_isDone) := goodIn_app (goodIn_of _ (by decide +kernel)) ggX6_told_X6_isDone
set_option maxRecDepth 20000 in
theorem ggX6_told_X6_rank : GoodIn wsX6_told wsX6_rank := goodIn_r _ [20, 1, 2, 3, 4, 5, 6, 7, 8, 21, 22, 23, 24, 25, 26, 27, 28, 29, 30, 31, 32, 33, 34, 35, 36, 37, 38, 39] (by decide +kernel) (by decide +kernel)
set_option maxRecDepth 20000 in
theorem gX6_told_X6_rank : GoodIn wsX6_told (wsV RX6 135 RX6 yX6_rank wsX6_rank) := goodIn_app (goodIn_of _ (by decide +kernel)) ggX6_told_X6_rank
theorem dX6_told_0 : decode cX6_told 0 = .ok (.iload_n 2, 1) := by decide +kernel
theorem dX6_told_1 : decode cX6_told 1 = .ok (.tableswitch 123 0 7 #[47, 58, 72, 83, 94, 94, 94, 109], 47) := by decide +kernel
theorem dX6_told_48 : decode cX6_told 48 = .ok (.aload_n 0, 1) := by decide +kernel
theorem dX6_told_49 : decode cX6_told 49 = .ok (.getfield 7, 3) := by decide +kernel
theorem dX6_told_52 : decode cX6_told 52 = .ok (.iload_n 1, 1) := by decide +kernel
theorem dX6_told_53 : decode cX6_told 53 = .ok (.iconst 0, 1) := by decide +kernel
theorem dX6_told_54 : decode cX6_told 54 = .ok (.invokestatic 36, 3) := by decide +kernel
theorem dX6_told_57 : decode cX6_told 57 = .ok (.iaload, 1) := by decide +kernel
theorem dX6_told_58 : decode cX6_told 58 = .ok (.ireturn, 1) := by decide +kernel
theorem dX6_told_59 : decode cX6_told 59 = .ok (.aload_n 0, 1) := by decide +kernel
theorem dX6_told_60 : decode cX6_told 60 = .ok (.getfield 7, 3) := by decide +kernel
theorem dX6_told_63 : decode cX6_told 63 = .ok (.iload_n 1, 1) := by decide +kernel
theorem dX6_told_64 : decode cX6_told 64 = .ok (.iconst 1, 1) := by decide +kernel
theorem dX6_told_65 : decode cX6_told 65 = .ok (.invokestatic 36, 3) := by decide +kernel
theorem dX6_told_68 : decode cX6_told 68 = .ok (.iaload, 1) := by decide +kernel
theorem dX6_told_69 : decode cX6_told 69 = .ok (.invokestatic 48, 3) := by decide +kernel
theorem dX6_told_72 : decode cX6_told 72 = .ok (.ireturn, 1) := by decide +kernel
theorem dX6_told_73 : decode cX6_told 73 = .ok (.aload_n 0, 1) := by decide +kernel
theorem dX6_told_74 : decode cX6_told 74 = .ok (.getfield 7, 3) := by decide +kernel
theorem dX6_told_77 : decode cX6_told 77 = .ok (.iload_n 1, 1) := by decide +kernel
theorem dX6_told_78 : decode cX6_told 78 = .ok (.iconst 1, 1) := by decide +kernel
theorem dX6_told_79 : decode cX6_told 79 = .ok (.invokestatic 36, 3) := by decide +kernel
theorem dX6_told_82 : decode cX6_told 82 = .ok (.iaload, 1) := by decide +kernel
theorem dX6_told_83 : decode cX6_told 83 = .ok (.ireturn, 1) := by decide +kernel
theorem dX6_told_84 : decode cX6_told 84 = .ok (.aload_n 0, 1) := by decide +kernel
theorem dX6_told_85 : decode cX6_told 85 = .ok (.getfield 7, 3) := by decide +kernel
theorem dX6_told_88 : decode cX6_told 88 = .ok (.iload_n 1, 1) := by decide +kernel
theorem dX6_told_89 : decode cX6_told 89 = .ok (.iconst 5, 1) := by decide +kernel
theorem dX6_told_90 : decode cX6_told 90 = .ok (.invokestatic 36, 3) := by decide +kernel
theorem dX6_told_93 : decode cX6_told 93 = .ok (.iaload, 1) := by decide +kernel
theorem dX6_told_94 : decode cX6_told 94 = .ok (.ireturn, 1) := by decide +kernel
theorem dX6_told_95 : decode cX6_told 95 = .ok (.aload_n 0, 1) := by decide +kernel
theorem dX6_told_96 : decode cX6_told 96 = .ok (.getfield 7, 3) := by decide +kernel
theorem dX6_told_99 : decode cX6_told 99 = .ok (.iload_n 1, 1) := by decide +kernel
theorem dX6_told_100 : decode cX6_told 100 = .ok (.iconst 2, 1) := by decide +kernel
theorem dX6_told_101 : decode cX6_told 101 = .ok (.iload_n 2, 1) := by decide +kernel
theorem dX6_told_102 : decode cX6_told 102 = .ok (.iadd, 1) := by decide +kernel
theorem dX6_told_103 : decode cX6_told 103 = .ok (.iconst 4, 1) := by decide +kernel
theorem dX6_told_104 : decode cX6_told 104 = .ok (.isub, 1) := by decide +kernel
theorem dX6_told_105 : decode cX6_told 105 = .ok (.invokestatic 36, 3) := by decide +kernel
theorem dX6_told_108 : decode cX6_told 108 = .ok (.iaload, 1) := by decide +kernel
theorem dX6_told_109 : decode cX6_told 109 = .ok (.ireturn, 1) := by decide +kernel
theorem dX6_told_110 : decode cX6_told 110 = .ok (.aload_n 0, 1) := by decide +kernel
theorem dX6_told_111 : decode cX6_told 111 = .ok (.iload_n 1, 1) := by decide +kernel
theorem dX6_told_112 : decode cX6_told 112 = .ok (.invokevirtual 132, 3) := by decide +kernel
theorem dX6_told_115 : decode cX6_told 115 = .ok (.ifCond .eq 7, 3) := by decide +kernel
theorem dX6_told_118 : decode cX6_told 118 = .ok (.iconst 1, 1) := by decide +kernel
theorem dX6_told_119 : decode cX6_told 119 = .ok (.goto 4, 3) := by decide +kernel
theorem dX6_told_122 : decode cX6_told 122 = .ok (.iconst 0, 1) := by decide +kernel
theorem dX6_told_123 : decode cX6_told 123 = .ok (.ireturn, 1) := by decide +kernel
theorem dX6_told_124 : decode cX6_told 124 = .ok (.aload_n 0, 1) := by decide +kernel
theorem dX6_told_125 : decode cX6_told 125 = .ok (.iload_n 1, 1) := by decide +kernel
theorem dX6_told_126 : decode cX6_told 126 = .ok (.invokevirtual 135, 3) := by decide +kernel
theorem dX6_told_129 : decode cX6_told 129 = .ok (.ireturn, 1) := by decide +kernel
set_option maxRecDepth 20000 in
theorem ggX6_receiver_X6_isReceiver : GoodIn wsX6_receiver wsX6_isReceiver := goodIn_r _ [4, 5, 6, 3, 7] (by decide +kernel) (by decide +kernel)
set_option maxRecDepth 20000 in
theorem gX6_receiver_X6_isReceiver : GoodIn wsX6_receiver (va_wsS RX6 88 yX6_isReceiver wsX6_isReceiver) := goodIn_app (goodIn_of _ (by decide +kernel)) ggX6_receiver_X6_isReceiver
set_option maxRecDepth 20000 in
theorem ggX6_receiver_X6_in : GoodIn wsX6_receiver wsX6_in := goodIn_r _ [7] (by decide +kernel) (by decide +kernel)
set_option maxRecDepth 20000 in
theorem gX6_receiver_X6_in : GoodIn wsX6_receiver (va_wsS RX6 29 yX6_in wsX6_in) := goodIn_app (goodIn_of _ (by decide +kernel)) ggX6_receiver_X6_in
set_option maxRecDepth 20000 in
theorem ggX6_receiver_X6_holds : GoodIn wsX6_receiver wsX6_holds := goodIn_r _ [11, 12, 44, 45, 46, 47, 48, 49, 50, 51, 52, 53, 54] (by decide +kernel) (by decide +kernel)
set_option maxRecDepth 20000 in
theorem gX6_receiver_X6_holds : GoodIn wsX6_receiver (wsV RX6 74 RX6 yX6_holds wsX6_holds) := goodIn_app (goodIn_of _ (by decide +kernel)) ggX6_receiver_X6_holds
set_option maxRecDepth 20000 in
theorem ggX6_receiver_X6_told : GoodIn wsX6_receiver wsX6_told := goodIn_r _ [16, 17, 18, 19, 3, 20, 21, 22, 23, 24, 25, 26, 27, 28, 29, 30, 31, 32, 33, 34, 35, 36, 37, 38, 39, 40, 41, 42, 43, 44, 45, 46, 47, 48, 49, 50, 51, 52, 53, 54] (by decide +kernel) (by decide +kernel)
set_option maxRecDepth 20000 in
theorem gX6_receiver_X6_told : GoodIn wsX6_receiver (wsV RX6 138 RX6 yX6_told wsX6_told) := goodIn_app (goodIn_of _ (by decide +kernel)) ggX6_receiver_X6_told
theorem dX6_receiver_0 : decode cX6_receiver 0 = .ok (.aload_n 0, 1) := by decide +kernel
theorem dX6_receiver_1 : decode cX6_receiver 1 = .ok (.iload_n 1, 1) := by decide +kernel
theorem dX6_receiver_2 : decode cX6_receiver 2 = .ok (.invokestatic 88, 3) := by decide +kernel
theorem dX6_receiver_5 : decode cX6_receiver 5 = .ok (.ifCond .ne 7, 3) := by decide +kernel
theorem dX6_receiver_8 : decode cX6_receiver 8 = .ok (.iconst 1, 1) := by decide +kernel
theorem dX6_receiver_9 : decode cX6_receiver 9 = .ok (.goto 18, 3) := by decide +kernel
theorem dX6_receiver_12 : decode cX6_receiver 12 = .ok (.iload_n 2, 1) := by decide +kernel
theorem dX6_receiver_13 : decode cX6_receiver 13 = .ok (.iconst 0, 1) := by decide +kernel
theorem dX6_receiver_14 : decode cX6_receiver 14 = .ok (.bipush 8, 2) := by decide +kernel
theorem dX6_receiver_16 : decode cX6_receiver 16 = .ok (.invokestatic 29, 3) := by decide +kernel
theorem dX6_receiver_19 : decode cX6_receiver 19 = .ok (.ifCond .ne 7, 3) := by decide +kernel
theorem dX6_receiver_22 : decode cX6_receiver 22 = .ok (.iconst 2, 1) := by decide +kernel
theorem dX6_receiver_23 : decode cX6_receiver 23 = .ok (.goto 4, 3) := by decide +kernel
theorem dX6_receiver_26 : decode cX6_receiver 26 = .ok (.iconst 0, 1) := by decide +kernel
theorem dX6_receiver_27 : decode cX6_receiver 27 = .ok (.invokevirtual 74, 3) := by decide +kernel
theorem dX6_receiver_30 : decode cX6_receiver 30 = .ok (.ifCond .eq 12, 3) := by decide +kernel
theorem dX6_receiver_33 : decode cX6_receiver 33 = .ok (.aload_n 0, 1) := by decide +kernel
theorem dX6_receiver_34 : decode cX6_receiver 34 = .ok (.iload_n 1, 1) := by decide +kernel
theorem dX6_receiver_35 : decode cX6_receiver 35 = .ok (.iload_n 2, 1) := by decide +kernel
theorem dX6_receiver_36 : decode cX6_receiver 36 = .ok (.invokevirtual 138, 3) := by decide +kernel
theorem dX6_receiver_39 : decode cX6_receiver 39 = .ok (.goto 4, 3) := by decide +kernel
theorem dX6_receiver_42 : decode cX6_receiver 42 = .ok (.iconst 0, 1) := by decide +kernel
theorem dX6_receiver_43 : decode cX6_receiver 43 = .ok (.ireturn, 1) := by decide +kernel
set_option maxRecDepth 20000 in
theorem ggX6_knownOf_X6_of : GoodIn wsX6_knownOf wsX6_of := goodIn_r _ [5] (by decide +kernel) (by decide +kernel)
set_option maxRecDepth 20000 in
theorem gX6_knownOf_X6_of : GoodIn wsX6_knownOf (va_wsS RX6 36 yX6_of wsX6_of) := goodIn_app (goodIn_of _ (by decide +kernel)) ggX6_knownOf_X6_of
theorem dX6_knownOf_0 : decode cX6_knownOf 0 = .ok (.aload_n 0, 1) := by decide +kernel
theorem dX6_knownOf_1 : decode cX6_knownOf 1 = .ok (.getfield 7, 3) := by decide +kernel
theorem dX6_knownOf_4 : decode cX6_knownOf 4 = .ok (.iload_n 1, 1) := by decide +kernel
theorem dX6_knownOf_5 : decode cX6_knownOf 5 = .ok (.iconst 1, 1) := by decide +kernel
theorem dX6_knownOf_6 : decode cX6_knownOf 6 = .ok (.invokestatic 36, 3) := by decide +kernel
theorem dX6_knownOf_9 : decode cX6_knownOf 9 = .ok (.iaload, 1) := by decide +kernel
theorem dX6_knownOf_10 : decode cX6_knownOf 10 = .ok (.iload_n 2, 1) := by decide +kernel
theorem dX6_knownOf_11 : decode cX6_knownOf 11 = .ok (.ishr, 1) := by decide +kernel
theorem dX6_knownOf_12 : decode cX6_knownOf 12 = .ok (.iconst 1, 1) := by decide +kernel
theorem dX6_knownOf_13 : decode cX6_knownOf 13 = .ok (.iand, 1) := by decide +kernel
theorem dX6_knownOf_14 : decode cX6_knownOf 14 = .ok (.iconst 1, 1) := by decide +kernel
theorem dX6_knownOf_15 : decode cX6_knownOf 15 = .ok (.if_icmp .ne 14, 3) := by decide +kernel
theorem dX6_knownOf_18 : decode cX6_knownOf 18 = .ok (.aload_n 0, 1) := by decide +kernel
theorem dX6_knownOf_19 : decode cX6_knownOf 19 = .ok (.getfield 7, 3) := by decide +kernel
theorem dX6_knownOf_22 : decode cX6_knownOf 22 = .ok (.iconst 2, 1) := by decide +kernel
theorem dX6_knownOf_23 : decode cX6_knownOf 23 = .ok (.iload_n 2, 1) := by decide +kernel
theorem dX6_knownOf_24 : decode cX6_knownOf 24 = .ok (.iadd, 1) := by decide +kernel
theorem dX6_knownOf_25 : decode cX6_knownOf 25 = .ok (.iaload, 1) := by decide +kernel
theorem dX6_knownOf_26 : decode cX6_knownOf 26 = .ok (.goto 4, 3) := by decide +kernel
theorem dX6_knownOf_29 : decode cX6_knownOf 29 = .ok (.iconst (-1), 1) := by decide +kernel
theorem dX6_knownOf_30 : decode cX6_knownOf 30 = .ok (.ireturn, 1) := by decide +kernel
set_option maxRecDepth 20000 in
theorem ggX6_known_X6_isReceiver : GoodIn wsX6_known wsX6_isReceiver := goodIn_r _ [4, 5, 6, 3, 7] (by decide +kernel) (by decide +kernel)
set_option maxRecDepth 20000 in
theorem gX6_known_X6_isReceiver : GoodIn wsX6_known (va_wsS RX6 88 yX6_isReceiver wsX6_isReceiver) := goodIn_app (goodIn_of _ (by decide +kernel)) ggX6_known_X6_isReceiver
set_option maxRecDepth 20000 in
theorem ggX6_known_X6_isBlock : GoodIn wsX6_known wsX6_isBlock := goodIn_r _ [11, 12, 5, 6, 3, 7, 25, 26, 27, 28, 29, 30, 31, 32, 33, 34, 35] (by decide +kernel) (by decide +kernel)
set_option maxRecDepth 20000 in
theorem gX6_known_X6_isBlock : GoodIn wsX6_known (wsV RX6 84 RX6 yX6_isBlock wsX6_isBlock) := goodIn_app (goodIn_of _ (by decide +kernel)) ggX6_known_X6_isBlock
set_option maxRecDepth 20000 in
theorem ggX6_known_X6_holds : GoodIn wsX6_known wsX6_holds := goodIn_r _ [16, 17, 25, 26, 27, 28, 29, 30, 31, 32, 33, 34, 35] (by decide +kernel) (by decide +kernel)
set_option maxRecDepth 20000 in
theorem gX6_known_X6_holds : GoodIn wsX6_known (wsV RX6 74 RX6 yX6_holds wsX6_holds) := goodIn_app (goodIn_of _ (by decide +kernel)) ggX6_known_X6_holds
set_option maxRecDepth 20000 in
theorem ggX6_known_X6_knownOf : GoodIn wsX6_known wsX6_knownOf := goodIn_r _ [21, 12, 22, 23, 3, 24, 25, 26, 27, 28, 29, 30, 31, 32, 33, 34, 35] (by decide +kernel) (by decide +kernel)
set_option maxRecDepth 20000 in
theorem gX6_known_X6_knownOf : GoodIn wsX6_known (wsV RX6 141 RX6 yX6_knownOf wsX6_knownOf) := goodIn_app (goodIn_of _ (by decide +kernel)) ggX6_known_X6_knownOf
theorem dX6_known_0 : decode cX6_known 0 = .ok (.aload_n 0, 1) := by decide +kernel
theorem dX6_known_1 : decode cX6_known 1 = .ok (.iload_n 1, 1) := by decide +kernel
theorem dX6_known_2 : decode cX6_known 2 = .ok (.invokestatic 88, 3) := by decide +kernel
theorem dX6_known_5 : decode cX6_known 5 = .ok (.ifCond .eq 15, 3) := by decide +kernel
theorem dX6_known_8 : decode cX6_known 8 = .ok (.aload_n 0, 1) := by decide +kernel
theorem dX6_known_9 : decode cX6_known 9 = .ok (.iload_n 2, 1) := by decide +kernel
theorem dX6_known_10 : decode cX6_known 10 = .ok (.invokevirtual 84, 3) := by decide +kernel
theorem dX6_known_13 : decode cX6_known 13 = .ok (.ifCond .eq 7, 3) := by decide +kernel
theorem dX6_known_16 : decode cX6_known 16 = .ok (.iconst 0, 1) := by decide +kernel
theorem dX6_known_17 : decode cX6_known 17 = .ok (.goto 4, 3) := by decide +kernel
theorem dX6_known_20 : decode cX6_known 20 = .ok (.iconst 1, 1) := by decide +kernel
theorem dX6_known_21 : decode cX6_known 21 = .ok (.invokevirtual 74, 3) := by decide +kernel
theorem dX6_known_24 : decode cX6_known 24 = .ok (.ifCond .eq 12, 3) := by decide +kernel
theorem dX6_known_27 : decode cX6_known 27 = .ok (.aload_n 0, 1) := by decide +kernel
theorem dX6_known_28 : decode cX6_known 28 = .ok (.iload_n 1, 1) := by decide +kernel
theorem dX6_known_29 : decode cX6_known 29 = .ok (.iload_n 2, 1) := by decide +kernel
theorem dX6_known_30 : decode cX6_known 30 = .ok (.invokevirtual 141, 3) := by decide +kernel
theorem dX6_known_33 : decode cX6_known 33 = .ok (.goto 4, 3) := by decide +kernel
theorem dX6_known_36 : decode cX6_known 36 = .ok (.iconst 0, 1) := by decide +kernel
theorem dX6_known_37 : decode cX6_known 37 = .ok (.ireturn, 1) := by decide +kernel
set_option maxRecDepth 20000 in
theorem ggX6_waitsAt_X6_of : GoodIn wsX6_waitsAt wsX6_of := goodIn_r _ [5] (by decide +kernel) (by decide +kernel)
set_option maxRecDepth 20000 in
theorem gX6_waitsAt_X6_of : GoodIn wsX6_waitsAt (va_wsS RX6 36 yX6_of wsX6_of) := goodIn_app (goodIn_of _ (by decide +kernel)) ggX6_waitsAt_X6_of
set_option maxRecDepth 20000 in
theorem ggX6_waitsAt_X6_valueOf : GoodIn wsX6_waitsAt wsX6_valueOf := goodIn_r _ [9, 1, 10, 11, 12, 13, 14, 15, 16, 17, 18, 19, 20] (by decide +kernel) (by decide +kernel)
set_option maxRecDepth 20000 in
theorem gX6_waitsAt_X6_valueOf : GoodIn wsX6_waitsAt (wsV RX6 126 RX6 yX6_valueOf wsX6_valueOf) := goodIn_app (goodIn_of _ (by decide +kernel)) ggX6_waitsAt_X6_valueOf
theorem dX6_waitsAt_0 : decode cX6_waitsAt 0 = .ok (.iload_n 2, 1) := by decide +kernel
theorem dX6_waitsAt_1 : decode cX6_waitsAt 1 = .ok (.aload_n 0, 1) := by decide +kernel
theorem dX6_waitsAt_2 : decode cX6_waitsAt 2 = .ok (.getfield 7, 3) := by decide +kernel
theorem dX6_waitsAt_5 : decode cX6_waitsAt 5 = .ok (.iload_n 1, 1) := by decide +kernel
theorem dX6_waitsAt_6 : decode cX6_waitsAt 6 = .ok (.iconst 5, 1) := by decide +kernel
theorem dX6_waitsAt_7 : decode cX6_waitsAt 7 = .ok (.invokestatic 36, 3) := by decide +kernel
theorem dX6_waitsAt_10 : decode cX6_waitsAt 10 = .ok (.iaload, 1) := by decide +kernel
theorem dX6_waitsAt_11 : decode cX6_waitsAt 11 = .ok (.if_icmp .lt 5, 3) := by decide +kernel
theorem dX6_waitsAt_14 : decode cX6_waitsAt 14 = .ok (.iconst (-1), 1) := by decide +kernel
theorem dX6_waitsAt_15 : decode cX6_waitsAt 15 = .ok (.ireturn, 1) := by decide +kernel
theorem dX6_waitsAt_16 : decode cX6_waitsAt 16 = .ok (.aload_n 0, 1) := by decide +kernel
theorem dX6_waitsAt_17 : decode cX6_waitsAt 17 = .ok (.getfield 7, 3) := by decide +kernel
theorem dX6_waitsAt_20 : decode cX6_waitsAt 20 = .ok (.iload_n 1, 1) := by decide +kernel
theorem dX6_waitsAt_21 : decode cX6_waitsAt 21 = .ok (.bipush 6, 2) := by decide +kernel
theorem dX6_waitsAt_23 : decode cX6_waitsAt 23 = .ok (.iload_n 2, 1) := by decide +kernel
theorem dX6_waitsAt_24 : decode cX6_waitsAt 24 = .ok (.iadd, 1) := by decide +kernel
theorem dX6_waitsAt_25 : decode cX6_waitsAt 25 = .ok (.invokestatic 36, 3) := by decide +kernel
theorem dX6_waitsAt_28 : decode cX6_waitsAt 28 = .ok (.iaload, 1) := by decide +kernel
theorem dX6_waitsAt_29 : decode cX6_waitsAt 29 = .ok (.istore 4, 2) := by decide +kernel
theorem dX6_waitsAt_31 : decode cX6_waitsAt 31 = .ok (.iload_n 3, 1) := by decide +kernel
theorem dX6_waitsAt_32 : decode cX6_waitsAt 32 = .ok (.ifCond .ne 8, 3) := by decide +kernel
theorem dX6_waitsAt_35 : decode cX6_waitsAt 35 = .ok (.iload 4, 2) := by decide +kernel
theorem dX6_waitsAt_37 : decode cX6_waitsAt 37 = .ok (.goto 9, 3) := by decide +kernel
theorem dX6_waitsAt_40 : decode cX6_waitsAt 40 = .ok (.aload_n 0, 1) := by decide +kernel
theorem dX6_waitsAt_41 : decode cX6_waitsAt 41 = .ok (.iload 4, 2) := by decide +kernel
theorem dX6_waitsAt_43 : decode cX6_waitsAt 43 = .ok (.invokevirtual 126, 3) := by decide +kernel
theorem dX6_waitsAt_46 : decode cX6_waitsAt 46 = .ok (.ireturn, 1) := by decide +kernel
set_option maxRecDepth 20000 in
theorem ggX6_waiting_X6_isReceiver : GoodIn wsX6_waiting wsX6_isReceiver := goodIn_r _ [4, 5, 6, 3, 7] (by decide +kernel) (by decide +kernel)
set_option maxRecDepth 20000 in
theorem gX6_waiting_X6_isReceiver : GoodIn wsX6_waiting (va_wsS RX6 88 yX6_isReceiver wsX6_isReceiver) := goodIn_app (goodIn_of _ (by decide +kernel)) ggX6_waiting_X6_isReceiver
set_option maxRecDepth 20000 in
theorem ggX6_waiting_X6_in : GoodIn wsX6_waiting wsX6_in := goodIn_r _ [7] (by decide +kernel) (by decide +kernel)
set_option maxRecDepth 20000 in
theorem gX6_waiting_X6_in : GoodIn wsX6_waiting (va_wsS RX6 29 yX6_in wsX6_in) := goodIn_app (goodIn_of _ (by decide +kernel)) ggX6_waiting_X6_in
set_option maxRecDepth 20000 in
theorem ggX6_waiting_X6_holds : GoodIn wsX6_waiting wsX6_holds := goodIn_r _ [11, 12, 25, 26, 27, 28, 29, 30, 31, 32, 33, 34, 35] (by decide +kernel) (by decide +kernel)
set_option maxRecDepth 20000 in
theorem gX6_waiting_X6_holds : GoodIn wsX6_waiting (wsV RX6 74 RX6 yX6_holds wsX6_holds) := goodIn_app (goodIn_of _ (by decide +kernel)) ggX6_waiting_X6_holds
set_option maxRecDepth 20000 in
theorem ggX6_waiting_X6_waitsAt : GoodIn wsX6_waiting wsX6_waitsAt := goodIn_r _ [16, 17, 18, 19, 3, 20, 21, 22, 23, 24, 25, 26, 27, 28, 29, 30, 31, 32, 33, 34, 35] (by decide +kernel) (by decide +kernel)
set_option maxRecDepth 20000 in
theorem gX6_waiting_X6_waitsAt : GoodIn wsX6_waiting (wsV RX6 144 RX6 yX6_waitsAt wsX6_waitsAt) := goodIn_app (goodIn_of _ (by decide +kernel)) ggX6_waiting_X6_waitsAt
theorem dX6_waiting_0 : decode cX6_waiting 0 = .ok (.aload_n 0, 1) := by decide +kernel
theorem dX6_waiting_1 : decode cX6_waiting 1 = .ok (.iload_n 1, 1) := by decide +kernel
theorem dX6_waiting_2 : decode cX6_waiting 2 = .ok (.invokestatic 88, 3) := by decide +kernel
theorem dX6_waiting_5 : decode cX6_waiting 5 = .ok (.ifCond .ne 7, 3) := by decide +kernel
theorem dX6_waiting_8 : decode cX6_waiting 8 = .ok (.iconst 1, 1) := by decide +kernel
theorem dX6_waiting_9 : decode cX6_waiting 9 = .ok (.goto 21, 3) := by decide +kernel
theorem dX6_waiting_12 : decode cX6_waiting 12 = .ok (.iload_n 2, 1) := by decide +kernel
theorem dX6_waiting_13 : decode cX6_waiting 13 = .ok (.ifCond .lt 12, 3) := by decide +kernel
theorem dX6_waiting_16 : decode cX6_waiting 16 = .ok (.iload_n 3, 1) := by decide +kernel
theorem dX6_waiting_17 : decode cX6_waiting 17 = .ok (.iconst 0, 1) := by decide +kernel
theorem dX6_waiting_18 : decode cX6_waiting 18 = .ok (.iconst 1, 1) := by decide +kernel
theorem dX6_waiting_19 : decode cX6_waiting 19 = .ok (.invokestatic 29, 3) := by decide +kernel
theorem dX6_waiting_22 : decode cX6_waiting 22 = .ok (.ifCond .ne 7, 3) := by decide +kernel
theorem dX6_waiting_25 : decode cX6_waiting 25 = .ok (.iconst 2, 1) := by decide +kernel
theorem dX6_waiting_26 : decode cX6_waiting 26 = .ok (.goto 4, 3) := by decide +kernel
theorem dX6_waiting_29 : decode cX6_waiting 29 = .ok (.iconst 0, 1) := by decide +kernel
theorem dX6_waiting_30 : decode cX6_waiting 30 = .ok (.invokevirtual 74, 3) := by decide +kernel
theorem dX6_waiting_33 : decode cX6_waiting 33 = .ok (.ifCond .eq 13, 3) := by decide +kernel
theorem dX6_waiting_36 : decode cX6_waiting 36 = .ok (.aload_n 0, 1) := by decide +kernel
theorem dX6_waiting_37 : decode cX6_waiting 37 = .ok (.iload_n 1, 1) := by decide +kernel
theorem dX6_waiting_38 : decode cX6_waiting 38 = .ok (.iload_n 2, 1) := by decide +kernel
theorem dX6_waiting_39 : decode cX6_waiting 39 = .ok (.iload_n 3, 1) := by decide +kernel
theorem dX6_waiting_40 : decode cX6_waiting 40 = .ok (.invokevirtual 144, 3) := by decide +kernel
theorem dX6_waiting_43 : decode cX6_waiting 43 = .ok (.goto 4, 3) := by decide +kernel
theorem dX6_waiting_46 : decode cX6_waiting 46 = .ok (.iconst 0, 1) := by decide +kernel
theorem dX6_waiting_47 : decode cX6_waiting 47 = .ok (.ireturn, 1) := by decide +kernel
set_option maxRecDepth 20000 in
theorem ggX6_receivers_X6_of : GoodIn wsX6_receivers wsX6_of := goodIn_r _ [5] (by decide +kernel) (by decide +kernel)
set_option maxRecDepth 20000 in
theorem gX6_receivers_X6_of : GoodIn wsX6_receivers (va_wsS RX6 36 yX6_of wsX6_of) := goodIn_app (goodIn_of _ (by decide +kernel)) ggX6_receivers_X6_of
set_option maxRecDepth 20000 in
theorem ggX6_receivers_X6_isDone : GoodIn wsX6_receivers wsX6_isDone := goodIn_r _ [9, 1, 2, 3, 4, 5, 10, 11, 12, 13, 14, 15, 16, 17, 18, 19, 20, 21, 22, 23, 24] (by decide +kernel) (by decide +kernel)
set_option maxRecDepth 20000 in
theorem gX6_receivers_X6_isDone : GoodIn wsX6_receivers (wsV RX6 132 RX6 yX6_isDone wsX6_isDone) := goodIn_app (goodIn_of _ (by decide +kernel)) ggX6_receivers_X6_isDone
theorem dX6_receivers_0 : decode cX6_receivers 0 = .ok (.iconst 0, 1) := by decide +kernel
theorem dX6_receivers_1 : decode cX6_receivers 1 = .ok (.istore_n 2, 1) := by decide +kernel
theorem dX6_receivers_2 : decode cX6_receivers 2 = .ok (.iconst 0, 1) := by decide +kernel
theorem dX6_receivers_3 : decode cX6_receivers 3 = .ok (.istore_n 3, 1) := by decide +kernel
theorem dX6_receivers_4 : decode cX6_receivers 4 = .ok (.iload_n 3, 1) := by decide +kernel
theorem dX6_receivers_5 : decode cX6_receivers 5 = .ok (.iconst 3, 1) := by decide +kernel
theorem dX6_receivers_6 : decode cX6_receivers 6 = .ok (.if_icmp .ge 47, 3) := by decide +kernel
theorem dX6_receivers_9 : decode cX6_receivers 9 = .ok (.iload_n 2, 1) := by decide +kernel
theorem dX6_receivers_10 : decode cX6_receivers 10 = .ok (.iload_n 1, 1) := by decide +kernel
theorem dX6_receivers_11 : decode cX6_receivers 11 = .ok (.iconst 2, 1) := by decide +kernel
theorem dX6_receivers_12 : decode cX6_receivers 12 = .ok (.if_icmp .ne 20, 3) := by decide +kernel
theorem dX6_receivers_15 : decode cX6_receivers 15 = .ok (.aload_n 0, 1) := by decide +kernel
theorem dX6_receivers_16 : decode cX6_receivers 16 = .ok (.getfield 7, 3) := by decide +kernel
theorem dX6_receivers_19 : decode cX6_receivers 19 = .ok (.iload_n 3, 1) := by decide +kernel
theorem dX6_receivers_20 : decode cX6_receivers 20 = .ok (.iconst 0, 1) := by decide +kernel
theorem dX6_receivers_21 : decode cX6_receivers 21 = .ok (.invokestatic 36, 3) := by decide +kernel
theorem dX6_receivers_24 : decode cX6_receivers 24 = .ok (.iaload, 1) := by decide +kernel
theorem dX6_receivers_25 : decode cX6_receivers 25 = .ok (.iconst 1, 1) := by decide +kernel
theorem dX6_receivers_26 : decode cX6_receivers 26 = .ok (.if_icmp .ne 18, 3) := by decide +kernel
theorem dX6_receivers_29 : decode cX6_receivers 29 = .ok (.goto 11, 3) := by decide +kernel
theorem dX6_receivers_32 : decode cX6_receivers 32 = .ok (.aload_n 0, 1) := by decide +kernel
theorem dX6_receivers_33 : decode cX6_receivers 33 = .ok (.iload_n 3, 1) := by decide +kernel
theorem dX6_receivers_34 : decode cX6_receivers 34 = .ok (.invokevirtual 132, 3) := by decide +kernel
theorem dX6_receivers_37 : decode cX6_receivers 37 = .ok (.ifCond .eq 7, 3) := by decide +kernel
theorem dX6_receivers_40 : decode cX6_receivers 40 = .ok (.iconst 1, 1) := by decide +kernel
theorem dX6_receivers_41 : decode cX6_receivers 41 = .ok (.goto 4, 3) := by decide +kernel
theorem dX6_receivers_44 : decode cX6_receivers 44 = .ok (.iconst 0, 1) := by decide +kernel
theorem dX6_receivers_45 : decode cX6_receivers 45 = .ok (.iadd, 1) := by decide +kernel
theorem dX6_receivers_46 : decode cX6_receivers 46 = .ok (.istore_n 2, 1) := by decide +kernel
theorem dX6_receivers_47 : decode cX6_receivers 47 = .ok (.iinc 3 1, 3) := by decide +kernel
theorem dX6_receivers_50 : decode cX6_receivers 50 = .ok (.goto (-46), 3) := by decide +kernel
theorem dX6_receivers_53 : decode cX6_receivers 53 = .ok (.iload_n 2, 1) := by decide +kernel
theorem dX6_receivers_54 : decode cX6_receivers 54 = .ok (.ireturn, 1) := by decide +kernel
set_option maxRecDepth 20000 in
theorem ggX6_counted_X6_receivers : GoodIn wsX6_counted wsX6_receivers := goodIn_r _ [7, 1, 8, 9, 6, 10, 11, 12, 13, 14, 15, 16, 17, 18, 23, 24, 25, 26, 27, 28, 29, 30, 31, 32, 33] (by decide +kernel) (by decide +kernel)
set_option maxRecDepth 20000 in
theorem gX6_counted_X6_receivers : GoodIn wsX6_counted (wsV RX6 148 RX6 yX6_receivers wsX6_receivers) := goodIn_app (goodIn_of _ (by decide +kernel)) ggX6_counted_X6_receivers
set_option maxRecDepth 20000 in
theorem ggX6_counted_X6_all : GoodIn wsX6_counted wsX6_all := goodIn_r _ [18, 1, 23, 24, 25, 26, 27, 28, 29, 30, 31, 32, 33] (by decide +kernel) (by decide +kernel)
set_option maxRecDepth 20000 in
theorem gX6_counted_X6_all : GoodIn wsX6_counted (wsV RX6 44 RX6 yX6_all wsX6_all) := goodIn_app (goodIn_of _ (by decide +kernel)) ggX6_counted_X6_all
set_option maxRecDepth 20000 in
theorem ggX6_counted_X6_valueOf : GoodIn wsX6_counted wsX6_valueOf := goodIn_r _ [22, 1, 23, 24, 25, 26, 27, 28, 29, 30, 31, 32, 33] (by decide +kernel) (by decide +kernel)
set_option maxRecDepth 20000 in
theorem gX6_counted_X6_valueOf : GoodIn wsX6_counted (wsV RX6 126 RX6 yX6_valueOf wsX6_valueOf) := goodIn_app (goodIn_of _ (by decide +kernel)) ggX6_counted_X6_valueOf
theorem dX6_counted_0 : decode cX6_counted 0 = .ok (.iload_n 1, 1) := by decide +kernel
theorem dX6_counted_1 : decode cX6_counted 1 = .ok (.tableswitch 59 0 4 #[35, 35, 44, 44, 50], 35) := by decide +kernel
theorem dX6_counted_36 : decode cX6_counted 36 = .ok (.aload_n 0, 1) := by decide +kernel
theorem dX6_counted_37 : decode cX6_counted 37 = .ok (.getfield 7, 3) := by decide +kernel
theorem dX6_counted_40 : decode cX6_counted 40 = .ok (.iconst 0, 1) := by decide +kernel
theorem dX6_counted_41 : decode cX6_counted 41 = .ok (.iload_n 1, 1) := by decide +kernel
theorem dX6_counted_42 : decode cX6_counted 42 = .ok (.iadd, 1) := by decide +kernel
theorem dX6_counted_43 : decode cX6_counted 43 = .ok (.iaload, 1) := by decide +kernel
theorem dX6_counted_44 : decode cX6_counted 44 = .ok (.ireturn, 1) := by decide +kernel
theorem dX6_counted_45 : decode cX6_counted 45 = .ok (.aload_n 0, 1) := by decide +kernel
theorem dX6_counted_46 : decode cX6_counted 46 = .ok (.iload_n 1, 1) := by decide +kernel
theorem dX6_counted_47 : decode cX6_counted 47 = .ok (.invokevirtual 148, 3) := by decide +kernel
theorem dX6_counted_50 : decode cX6_counted 50 = .ok (.ireturn, 1) := by decide +kernel
theorem dX6_counted_51 : decode cX6_counted 51 = .ok (.aload_n 0, 1) := by decide +kernel
theorem dX6_counted_52 : decode cX6_counted 52 = .ok (.aload_n 0, 1) := by decide +kernel
theorem dX6_counted_53 : decode cX6_counted 53 = .ok (.invokevirtual 44, 3) := by decide +kernel
theorem dX6_counted_56 : decode cX6_counted 56 = .ok (.invokevirtual 126, 3) := by decide +kernel
theorem dX6_counted_59 : decode cX6_counted 59 = .ok (.ireturn, 1) := by decide +kernel
theorem dX6_counted_60 : decode cX6_counted 60 = .ok (.aload_n 0, 1) := by decide +kernel
theorem dX6_counted_61 : decode cX6_counted 61 = .ok (.getfield 33, 3) := by decide +kernel
theorem dX6_counted_64 : decode cX6_counted 64 = .ok (.ireturn, 1) := by decide +kernel
set_option maxRecDepth 20000 in
theorem ggX6_count_X6_in : GoodIn wsX6_count wsX6_in := goodIn_r _ [4] (by decide +kernel) (by decide +kernel)
set_option maxRecDepth 20000 in
theorem gX6_count_X6_in : GoodIn wsX6_count (va_wsS RX6 29 yX6_in wsX6_in) := goodIn_app (goodIn_of _ (by decide +kernel)) ggX6_count_X6_in
set_option maxRecDepth 20000 in
theorem ggX6_count_X6_holds : GoodIn wsX6_count wsX6_holds := goodIn_r _ [8, 9, 35, 36, 37, 38, 39, 40, 41, 42, 43, 44, 45] (by decide +kernel) (by decide +kernel)
set_option maxRecDepth 20000 in
theorem gX6_count_X6_holds : GoodIn wsX6_count (wsV RX6 74 RX6 yX6_holds wsX6_holds) := goodIn_app (goodIn_of _ (by decide +kernel)) ggX6_count_X6_holds
set_option maxRecDepth 20000 in
theorem ggX6_count_X6_counted : GoodIn wsX6_count wsX6_counted := goodIn_r _ [13, 14, 15, 16, 17, 18, 3, 19, 20, 21, 22, 23, 24, 25, 26, 27, 28, 29, 30, 31, 32, 33, 34, 35, 36, 37, 38, 39, 40, 41, 42, 43, 44, 45] (by decide +kernel) (by decide +kernel)
set_option maxRecDepth 20000 in
theorem gX6_count_X6_counted : GoodIn wsX6_count (wsV RX6 151 RX6 yX6_counted wsX6_counted) := goodIn_app (goodIn_of _ (by decide +kernel)) ggX6_count_X6_counted
theorem dX6_count_0 : decode cX6_count 0 = .ok (.aload_n 0, 1) := by decide +kernel
theorem dX6_count_1 : decode cX6_count 1 = .ok (.iload_n 1, 1) := by decide +kernel
theorem dX6_count_2 : decode cX6_count 2 = .ok (.iconst 0, 1) := by decide +kernel
theorem dX6_count_3 : decode cX6_count 3 = .ok (.iconst 5, 1) := by decide +kernel
theorem dX6_count_4 : decode cX6_count 4 = .ok (.invokestatic 29, 3) := by decide +kernel
theorem dX6_count_7 : decode cX6_count 7 = .ok (.ifCond .eq 7, 3) := by decide +kernel
theorem dX6_count_10 : decode cX6_count 10 = .ok (.iconst 0, 1) := by decide +kernel
theorem dX6_count_11 : decode cX6_count 11 = .ok (.goto 4, 3) := by decide +kernel
theorem dX6_count_14 : decode cX6_count 14 = .ok (.iconst 1, 1) := by decide +kernel
theorem dX6_count_15 : decode cX6_count 15 = .ok (.invokevirtual 74, 3) := by decide +kernel
theorem dX6_count_18 : decode cX6_count 18 = .ok (.ifCond .eq 11, 3) := by decide +kernel
theorem dX6_count_21 : decode cX6_count 21 = .ok (.aload_n 0, 1) := by decide +kernel
theorem dX6_count_22 : decode cX6_count 22 = .ok (.iload_n 1, 1) := by decide +kernel
theorem dX6_count_23 : decode cX6_count 23 = .ok (.invokevirtual 151, 3) := by decide +kernel
theorem dX6_count_26 : decode cX6_count 26 = .ok (.goto 4, 3) := by decide +kernel
theorem dX6_count_29 : decode cX6_count 29 = .ok (.iconst 0, 1) := by decide +kernel
theorem dX6_count_30 : decode cX6_count 30 = .ok (.ireturn, 1) := by decide +kernel
set_option maxRecDepth 20000 in
theorem ggX6_block_X6_isBlock : GoodIn wsX6_block wsX6_isBlock := goodIn_r _ [6, 1, 7, 8, 5, 9, 15, 16, 17, 18, 19, 20, 21, 22, 23, 24, 25] (by decide +kernel) (by decide +kernel)
set_option maxRecDepth 20000 in
theorem gX6_block_X6_isBlock : GoodIn wsX6_block (wsV RX6 84 RX6 yX6_isBlock wsX6_isBlock) := goodIn_app (goodIn_of _ (by decide +kernel)) ggX6_block_X6_isBlock
set_option maxRecDepth 20000 in
theorem ggX6_block_X6_holds : GoodIn wsX6_block wsX6_holds := goodIn_r _ [13, 14, 15, 16, 17, 18, 19, 20, 21, 22, 23, 24, 25] (by decide +kernel) (by decide +kernel)
set_option maxRecDepth 20000 in
theorem gX6_block_X6_holds : GoodIn wsX6_block (wsV RX6 74 RX6 yX6_holds wsX6_holds) := goodIn_app (goodIn_of _ (by decide +kernel)) ggX6_block_X6_holds
theorem dX6_block_0 : decode cX6_block 0 = .ok (.aload_n 0, 1) := by decide +kernel
theorem dX6_block_1 : decode cX6_block 1 = .ok (.aload_n 0, 1) := by decide +kernel
theorem dX6_block_2 : decode cX6_block 2 = .ok (.iload_n 1, 1) := by decide +kernel
theorem dX6_block_3 : decode cX6_block 3 = .ok (.invokevirtual 84, 3) := by decide +kernel
theorem dX6_block_6 : decode cX6_block 6 = .ok (.ifCond .eq 7, 3) := by decide +kernel
theorem dX6_block_9 : decode cX6_block 9 = .ok (.iconst 0, 1) := by decide +kernel
theorem dX6_block_10 : decode cX6_block 10 = .ok (.goto 4, 3) := by decide +kernel
theorem dX6_block_13 : decode cX6_block 13 = .ok (.iconst 1, 1) := by decide +kernel
theorem dX6_block_14 : decode cX6_block 14 = .ok (.invokevirtual 74, 3) := by decide +kernel
theorem dX6_block_17 : decode cX6_block 17 = .ok (.ifCond .eq 14, 3) := by decide +kernel
theorem dX6_block_20 : decode cX6_block 20 = .ok (.aload_n 0, 1) := by decide +kernel
theorem dX6_block_21 : decode cX6_block 21 = .ok (.getfield 7, 3) := by decide +kernel
theorem dX6_block_24 : decode cX6_block 24 = .ok (.iconst 2, 1) := by decide +kernel
theorem dX6_block_25 : decode cX6_block 25 = .ok (.iload_n 1, 1) := by decide +kernel
theorem dX6_block_26 : decode cX6_block 26 = .ok (.iadd, 1) := by decide +kernel
theorem dX6_block_27 : decode cX6_block 27 = .ok (.iaload, 1) := by decide +kernel
theorem dX6_block_28 : decode cX6_block 28 = .ok (.goto 4, 3) := by decide +kernel
theorem dX6_block_31 : decode cX6_block 31 = .ok (.iconst 0, 1) := by decide +kernel
theorem dX6_block_32 : decode cX6_block 32 = .ok (.ireturn, 1) := by decide +kernel
set_option maxRecDepth 20000 in
theorem ggX6_got_X6_putAside : GoodIn wsX6_got wsX6_putAside := goodIn_r _ [5, 6, 7, 8, 9, 4, 10, 53, 54, 55, 56, 57, 58, 59, 60, 61, 62, 63] (by decide +kernel) (by decide +kernel)
set_option maxRecDepth 20000 in
theorem gX6_got_X6_putAside : GoodIn wsX6_got (wsV RX6 154 RX6 yX6_putAside wsX6_putAside) := goodIn_app (goodIn_of _ (by decide +kernel)) ggX6_got_X6_putAside
set_option maxRecDepth 20000 in
theorem ggX6_got_X6_maskOf : GoodIn wsX6_got wsX6_maskOf := goodIn_r _ [14, 7, 15, 16, 4, 17, 53, 54, 55, 56, 57, 58, 59, 60, 61, 62, 63] (by decide +kernel) (by decide +kernel)
set_option maxRecDepth 20000 in
theorem gX6_got_X6_maskOf : GoodIn wsX6_got (wsV RX6 91 RX6 yX6_maskOf wsX6_maskOf) := goodIn_app (goodIn_of _ (by decide +kernel)) ggX6_got_X6_maskOf
set_option maxRecDepth 20000 in
theorem ggX6_got_X6_gets : GoodIn wsX6_got wsX6_gets := goodIn_r _ [21, 7, 8, 9, 4, 10, 22, 23, 24, 25, 26, 27, 28, 29, 30, 31, 32, 33, 34, 35, 36, 53, 54, 55, 56, 57, 58, 59, 60, 61, 62, 63] (by decide +kernel) (by decide +kernel)
set_option maxRecDepth 20000 in
theorem gX6_got_X6_gets : GoodIn wsX6_got (wsV RX6 94 RX6 yX6_gets wsX6_gets) := goodIn_app (goodIn_of _ (by decide +kernel)) ggX6_got_X6_gets
set_option maxRecDepth 20000 in
theorem ggX6_got_X6_rank : GoodIn wsX6_got wsX6_rank := goodIn_r _ [40, 7, 8, 9, 4, 10, 22, 23, 24, 41, 42, 43, 44, 45, 46, 47, 48, 53, 54, 55, 56, 57, 58, 59, 60, 61, 62, 63] (by decide +kernel) (by decide +kernel)
set_option maxRecDepth 20000 in
theorem gX6_got_X6_rank : GoodIn wsX6_got (wsV RX6 135 RX6 yX6_rank wsX6_rank) := goodIn_app (goodIn_of _ (by decide +kernel)) ggX6_got_X6_rank
set_option maxRecDepth 20000 in
theorem ggX6_got_X6_putBack : GoodIn wsX6_got wsX6_putBack := goodIn_r _ [52, 7, 6, 8, 9, 4, 10, 53, 54, 55, 56, 57, 58, 59, 60, 61, 62, 63] (by decide +kernel) (by decide +kernel)
set_option maxRecDepth 20000 in
theorem gX6_got_X6_putBack : GoodIn wsX6_got (wsV RX6 157 RX6 yX6_putBack wsX6_putBack) := goodIn_app (goodIn_of _ (by decide +kernel)) ggX6_got_X6_putBack
theorem dX6_got_0 : decode cX6_got 0 = .ok (.aload_n 0, 1) := by decide +kernel
theorem dX6_got_1 : decode cX6_got 1 = .ok (.iload_n 1, 1) := by decide +kernel
theorem dX6_got_2 : decode cX6_got 2 = .ok (.invokevirtual 154, 3) := by decide +kernel
theorem dX6_got_5 : decode cX6_got 5 = .ok (.aload_n 0, 1) := by decide +kernel
theorem dX6_got_6 : decode cX6_got 6 = .ok (.iload_n 1, 1) := by decide +kernel
theorem dX6_got_7 : decode cX6_got 7 = .ok (.aload_n 0, 1) := by decide +kernel
theorem dX6_got_8 : decode cX6_got 8 = .ok (.iload_n 2, 1) := by decide +kernel
theorem dX6_got_9 : decode cX6_got 9 = .ok (.invokevirtual 91, 3) := by decide +kernel
theorem dX6_got_12 : decode cX6_got 12 = .ok (.invokevirtual 94, 3) := by decide +kernel
theorem dX6_got_15 : decode cX6_got 15 = .ok (.istore 4, 2) := by decide +kernel
theorem dX6_got_17 : decode cX6_got 17 = .ok (.aload_n 0, 1) := by decide +kernel
theorem dX6_got_18 : decode cX6_got 18 = .ok (.iload_n 1, 1) := by decide +kernel
theorem dX6_got_19 : decode cX6_got 19 = .ok (.invokevirtual 135, 3) := by decide +kernel
theorem dX6_got_22 : decode cX6_got 22 = .ok (.istore 5, 2) := by decide +kernel
theorem dX6_got_24 : decode cX6_got 24 = .ok (.aload_n 0, 1) := by decide +kernel
theorem dX6_got_25 : decode cX6_got 25 = .ok (.iload_n 1, 1) := by decide +kernel
theorem dX6_got_26 : decode cX6_got 26 = .ok (.invokevirtual 157, 3) := by decide +kernel
theorem dX6_got_29 : decode cX6_got 29 = .ok (.iload_n 3, 1) := by decide +kernel
theorem dX6_got_30 : decode cX6_got 30 = .ok (.ifCond .ne 8, 3) := by decide +kernel
theorem dX6_got_33 : decode cX6_got 33 = .ok (.iload 4, 2) := by decide +kernel
theorem dX6_got_35 : decode cX6_got 35 = .ok (.goto 5, 3) := by decide +kernel
theorem dX6_got_38 : decode cX6_got 38 = .ok (.iload 5, 2) := by decide +kernel
theorem dX6_got_40 : decode cX6_got 40 = .ok (.ireturn, 1) := by decide +kernel
set_option maxRecDepth 20000 in
theorem ggX6_ifGot_X6_isReceiver : GoodIn wsX6_ifGot wsX6_isReceiver := goodIn_r _ [4, 5, 6, 3, 7] (by decide +kernel) (by decide +kernel)
set_option maxRecDepth 20000 in
theorem gX6_ifGot_X6_isReceiver : GoodIn wsX6_ifGot (va_wsS RX6 88 yX6_isReceiver wsX6_isReceiver) := goodIn_app (goodIn_of _ (by decide +kernel)) ggX6_ifGot_X6_isReceiver
set_option maxRecDepth 20000 in
theorem ggX6_ifGot_X6_isMix : GoodIn wsX6_ifGot wsX6_isMix := goodIn_r _ [10, 5, 6, 3, 7] (by decide +kernel) (by decide +kernel)
set_option maxRecDepth 20000 in
theorem gX6_ifGot_X6_isMix : GoodIn wsX6_ifGot (va_wsS RX6 97 yX6_isMix wsX6_isMix) := goodIn_app (goodIn_of _ (by decide +kernel)) ggX6_ifGot_X6_isMix
set_option maxRecDepth 20000 in
theorem ggX6_ifGot_X6_in : GoodIn wsX6_ifGot wsX6_in := goodIn_r _ [7] (by decide +kernel) (by decide +kernel)
set_option maxRecDepth 20000 in
theorem gX6_ifGot_X6_in : GoodIn wsX6_ifGot (va_wsS RX6 29 yX6_in wsX6_in) := goodIn_app (goodIn_of _ (by decide +kernel)) ggX6_ifGot_X6_in
set_option maxRecDepth 20000 in
theorem ggX6_ifGot_X6_holds : GoodIn wsX6_ifGot wsX6_holds := goodIn_r _ [14, 15, 71, 72, 73, 74, 75, 76, 77, 78, 79, 80, 81] (by decide +kernel) (by decide +kernel)
set_option maxRecDepth 20000 in
theorem gX6_ifGot_X6_holds : GoodIn wsX6_ifGot (wsV RX6 74 RX6 yX6_holds wsX6_holds) := goodIn_app (goodIn_of _ (by decide +kernel)) ggX6_ifGot_X6_holds
set_option maxRecDepth 20000 in
theorem ggX6_ifGot_X6_got : GoodIn wsX6_ifGot wsX6_got := goodIn_r _ [19, 20, 21, 22, 3, 23, 24, 25, 26, 27, 28, 29, 30, 31, 32, 33, 34, 35, 36, 37, 38, 39, 40, 41, 42, 43, 44, 45, 46, 47, 48, 49, 50, 51, 52, 53, 54, 55, 56, 57, 58, 59, 60, 61, 62, 63, 64, 65, 66, 67, 68, 69, 70, 71, 72, 73, 74, 75, 76, 77, 78, 79, 80, 81] (by decide +kernel) (by decide +kernel)
set_option maxRecDepth 20000 in
theorem gX6_ifGot_X6_got : GoodIn wsX6_ifGot (wsV RX6 160 RX6 yX6_got wsX6_got) := goodIn_app (goodIn_of _ (by decide +kernel)) ggX6_ifGot_X6_got
theorem dX6_ifGot_0 : decode cX6_ifGot 0 = .ok (.aload_n 0, 1) := by decide +kernel
theorem dX6_ifGot_1 : decode cX6_ifGot 1 = .ok (.iload_n 1, 1) := by decide +kernel
theorem dX6_ifGot_2 : decode cX6_ifGot 2 = .ok (.invokestatic 88, 3) := by decide +kernel
theorem dX6_ifGot_5 : decode cX6_ifGot 5 = .ok (.ifCond .ne 7, 3) := by decide +kernel
theorem dX6_ifGot_8 : decode cX6_ifGot 8 = .ok (.iconst 1, 1) := by decide +kernel
theorem dX6_ifGot_9 : decode cX6_ifGot 9 = .ok (.goto 24, 3) := by decide +kernel
theorem dX6_ifGot_12 : decode cX6_ifGot 12 = .ok (.iload_n 2, 1) := by decide +kernel
theorem dX6_ifGot_13 : decode cX6_ifGot 13 = .ok (.invokestatic 97, 3) := by decide +kernel
theorem dX6_ifGot_16 : decode cX6_ifGot 16 = .ok (.ifCond .eq 12, 3) := by decide +kernel
theorem dX6_ifGot_19 : decode cX6_ifGot 19 = .ok (.iload_n 3, 1) := by decide +kernel
theorem dX6_ifGot_20 : decode cX6_ifGot 20 = .ok (.iconst 0, 1) := by decide +kernel
theorem dX6_ifGot_21 : decode cX6_ifGot 21 = .ok (.iconst 1, 1) := by decide +kernel
theorem dX6_ifGot_22 : decode cX6_ifGot 22 = .ok (.invokestatic 29, 3) := by decide +kernel
theorem dX6_ifGot_25 : decode cX6_ifGot 25 = .ok (.ifCond .ne 7, 3) := by decide +kernel
theorem dX6_ifGot_28 : decode cX6_ifGot 28 = .ok (.iconst 2, 1) := by decide +kernel
theorem dX6_ifGot_29 : decode cX6_ifGot 29 = .ok (.goto 4, 3) := by decide +kernel
theorem dX6_ifGot_32 : decode cX6_ifGot 32 = .ok (.iconst 0, 1) := by decide +kernel
theorem dX6_ifGot_33 : decode cX6_ifGot 33 = .ok (.invokevirtual 74, 3) := by decide +kernel
theorem dX6_ifGot_36 : decode cX6_ifGot 36 = .ok (.ifCond .eq 13, 3) := by decide +kernel
theorem dX6_ifGot_39 : decode cX6_ifGot 39 = .ok (.aload_n 0, 1) := by decide +kernel
theorem dX6_ifGot_40 : decode cX6_ifGot 40 = .ok (.iload_n 1, 1) := by decide +kernel
theorem dX6_ifGot_41 : decode cX6_ifGot 41 = .ok (.iload_n 2, 1) := by decide +kernel
theorem dX6_ifGot_42 : decode cX6_ifGot 42 = .ok (.iload_n 3, 1) := by decide +kernel
theorem dX6_ifGot_43 : decode cX6_ifGot 43 = .ok (.invokevirtual 160, 3) := by decide +kernel
theorem dX6_ifGot_46 : decode cX6_ifGot 46 = .ok (.goto 4, 3) := by decide +kernel
theorem dX6_ifGot_49 : decode cX6_ifGot 49 = .ok (.iconst 0, 1) := by decide +kernel
theorem dX6_ifGot_50 : decode cX6_ifGot 50 = .ok (.ireturn, 1) := by decide +kernel
set_option maxRecDepth 20000 in
theorem ggX6_helping_X6_got : GoodIn wsX6_helping wsX6_got := goodIn_r _ [5, 6, 7, 8, 4, 9, 10, 11, 12, 13, 14, 15, 16, 17, 18, 19, 20, 21, 22, 23, 24, 25, 26, 27, 28, 29, 30, 31, 32, 33, 34, 35, 36, 37, 38, 39, 40, 41, 42, 43, 44, 45, 46, 47, 48, 49, 50, 51, 52, 53, 54, 55, 56, 57, 58, 59, 60, 61, 62, 63, 64, 65, 66, 67] (by decide +kernel) (by decide +kernel)
set_option maxRecDepth 20000 in
theorem gX6_helping_X6_got : GoodIn wsX6_helping (wsV RX6 160 RX6 yX6_got wsX6_got) := goodIn_app (goodIn_of _ (by decide +kernel)) ggX6_helping_X6_got
theorem dX6_helping_0 : decode cX6_helping 0 = .ok (.iload_n 2, 1) := by decide +kernel
theorem dX6_helping_1 : decode cX6_helping 1 = .ok (.istore_n 3, 1) := by decide +kernel
theorem dX6_helping_2 : decode cX6_helping 2 = .ok (.iload_n 3, 1) := by decide +kernel
theorem dX6_helping_3 : decode cX6_helping 3 = .ok (.sipush 9999, 3) := by decide +kernel
theorem dX6_helping_6 : decode cX6_helping 6 = .ok (.if_icmp .gt 29, 3) := by decide +kernel
theorem dX6_helping_9 : decode cX6_helping 9 = .ok (.iload_n 3, 1) := by decide +kernel
theorem dX6_helping_10 : decode cX6_helping 10 = .ok (.iload_n 2, 1) := by decide +kernel
theorem dX6_helping_11 : decode cX6_helping 11 = .ok (.bipush 100, 2) := by decide +kernel
theorem dX6_helping_13 : decode cX6_helping 13 = .ok (.iadd, 1) := by decide +kernel
theorem dX6_helping_14 : decode cX6_helping 14 = .ok (.if_icmp .ge 21, 3) := by decide +kernel
theorem dX6_helping_17 : decode cX6_helping 17 = .ok (.aload_n 0, 1) := by decide +kernel
theorem dX6_helping_18 : decode cX6_helping 18 = .ok (.iload_n 1, 1) := by decide +kernel
theorem dX6_helping_19 : decode cX6_helping 19 = .ok (.iload_n 3, 1) := by decide +kernel
theorem dX6_helping_20 : decode cX6_helping 20 = .ok (.iconst 0, 1) := by decide +kernel
theorem dX6_helping_21 : decode cX6_helping 21 = .ok (.invokevirtual 160, 3) := by decide +kernel
theorem dX6_helping_24 : decode cX6_helping 24 = .ok (.ifCond .le 5, 3) := by decide +kernel
theorem dX6_helping_27 : decode cX6_helping 27 = .ok (.iload_n 3, 1) := by decide +kernel
theorem dX6_helping_28 : decode cX6_helping 28 = .ok (.ireturn, 1) := by decide +kernel
theorem dX6_helping_29 : decode cX6_helping 29 = .ok (.iinc 3 1, 3) := by decide +kernel
theorem dX6_helping_32 : decode cX6_helping 32 = .ok (.goto (-30), 3) := by decide +kernel
theorem dX6_helping_35 : decode cX6_helping 35 = .ok (.iconst (-1), 1) := by decide +kernel
theorem dX6_helping_36 : decode cX6_helping 36 = .ok (.ireturn, 1) := by decide +kernel
set_option maxRecDepth 20000 in
theorem ggX6_helps_X6_isReceiver : GoodIn wsX6_helps wsX6_isReceiver := goodIn_r _ [4, 5, 6, 3, 7] (by decide +kernel) (by decide +kernel)
set_option maxRecDepth 20000 in
theorem gX6_helps_X6_isReceiver : GoodIn wsX6_helps (va_wsS RX6 88 yX6_isReceiver wsX6_isReceiver) := goodIn_app (goodIn_of _ (by decide +kernel)) ggX6_helps_X6_isReceiver
set_option maxRecDepth 20000 in
theorem ggX6_helps_X6_isMix : GoodIn wsX6_helps wsX6_isMix := goodIn_r _ [10, 5, 6, 3, 7] (by decide +kernel) (by decide +kernel)
set_option maxRecDepth 20000 in
theorem gX6_helps_X6_isMix : GoodIn wsX6_helps (va_wsS RX6 97 yX6_isMix wsX6_isMix) := goodIn_app (goodIn_of _ (by decide +kernel)) ggX6_helps_X6_isMix
set_option maxRecDepth 20000 in
theorem ggX6_helps_X6_holds : GoodIn wsX6_helps wsX6_holds := goodIn_r _ [14, 15, 75, 76, 77, 78, 79, 80, 81, 82, 83, 84, 85] (by decide +kernel) (by decide +kernel)
set_option maxRecDepth 20000 in
theorem gX6_helps_X6_holds : GoodIn wsX6_helps (wsV RX6 74 RX6 yX6_holds wsX6_holds) := goodIn_app (goodIn_of _ (by decide +kernel)) ggX6_helps_X6_holds
set_option maxRecDepth 20000 in
theorem ggX6_helps_X6_helping : GoodIn wsX6_helps wsX6_helping := goodIn_r _ [19, 20, 21, 22, 3, 23, 24, 25, 26, 27, 28, 29, 30, 31, 32, 33, 34, 35, 36, 37, 38, 39, 40, 41, 42, 43, 44, 45, 46, 47, 48, 49, 50, 51, 52, 53, 54, 55, 56, 57, 58, 59, 60, 61, 62, 63, 64, 65, 66, 67, 68, 69, 70, 71, 72, 73, 74, 75, 76, 77, 78, 79, 80, 81, 82, 83, 84, 85] (by decide +kernel) (by decide +kernel)
set_option maxRecDepth 20000 in
theorem gX6_helps_X6_helping : GoodIn wsX6_helps (wsV RX6 163 RX6 yX6_helping wsX6_helping) := goodIn_app (goodIn_of _ (by decide +kernel)) ggX6_helps_X6_helping
theorem dX6_helps_0 : decode cX6_helps 0 = .ok (.aload_n 0, 1) := by decide +kernel
theorem dX6_helps_1 : decode cX6_helps 1 = .ok (.iload_n 1, 1) := by decide +kernel
theorem dX6_helps_2 : decode cX6_helps 2 = .ok (.invokestatic 88, 3) := by decide +kernel
theorem dX6_helps_5 : decode cX6_helps 5 = .ok (.ifCond .ne 7, 3) := by decide +kernel
theorem dX6_helps_8 : decode cX6_helps 8 = .ok (.iconst 1, 1) := by decide +kernel
theorem dX6_helps_9 : decode cX6_helps 9 = .ok (.goto 15, 3) := by decide +kernel
theorem dX6_helps_12 : decode cX6_helps 12 = .ok (.iload_n 2, 1) := by decide +kernel
theorem dX6_helps_13 : decode cX6_helps 13 = .ok (.invokestatic 97, 3) := by decide +kernel
theorem dX6_helps_16 : decode cX6_helps 16 = .ok (.ifCond .ne 7, 3) := by decide +kernel
theorem dX6_helps_19 : decode cX6_helps 19 = .ok (.iconst 2, 1) := by decide +kernel
theorem dX6_helps_20 : decode cX6_helps 20 = .ok (.goto 4, 3) := by decide +kernel
theorem dX6_helps_23 : decode cX6_helps 23 = .ok (.iconst 0, 1) := by decide +kernel
theorem dX6_helps_24 : decode cX6_helps 24 = .ok (.invokevirtual 74, 3) := by decide +kernel
theorem dX6_helps_27 : decode cX6_helps 27 = .ok (.ifCond .eq 12, 3) := by decide +kernel
theorem dX6_helps_30 : decode cX6_helps 30 = .ok (.aload_n 0, 1) := by decide +kernel
theorem dX6_helps_31 : decode cX6_helps 31 = .ok (.iload_n 1, 1) := by decide +kernel
theorem dX6_helps_32 : decode cX6_helps 32 = .ok (.iload_n 2, 1) := by decide +kernel
theorem dX6_helps_33 : decode cX6_helps 33 = .ok (.invokevirtual 163, 3) := by decide +kernel
theorem dX6_helps_36 : decode cX6_helps 36 = .ok (.goto 4, 3) := by decide +kernel
theorem dX6_helps_39 : decode cX6_helps 39 = .ok (.iconst 0, 1) := by decide +kernel
theorem dX6_helps_40 : decode cX6_helps 40 = .ok (.ireturn, 1) := by decide +kernel
set_option maxRecDepth 20000 in
theorem ggX6_needed_X6_putAside : GoodIn wsX6_needed wsX6_putAside := goodIn_r _ [5, 6, 7, 8, 9, 4, 10, 65, 66, 67, 68, 69, 70, 71, 72, 73, 74, 75] (by decide +kernel) (by decide +kernel)
set_option maxRecDepth 20000 in
theorem gX6_needed_X6_putAside : GoodIn wsX6_needed (wsV RX6 154 RX6 yX6_putAside wsX6_putAside) := goodIn_app (goodIn_of _ (by decide +kernel)) ggX6_needed_X6_putAside
set_option maxRecDepth 20000 in
theorem ggX6_needed_X6_isDone : GoodIn wsX6_needed wsX6_isDone := goodIn_r _ [14, 7, 8, 9, 4, 10, 15, 16, 17, 18, 65, 66, 67, 68, 69, 70, 71, 72, 73, 74, 75] (by decide +kernel) (by decide +kernel)
set_option maxRecDepth 20000 in
theorem gX6_needed_X6_isDone : GoodIn wsX6_needed (wsV RX6 132 RX6 yX6_isDone wsX6_isDone) := goodIn_app (goodIn_of _ (by decide +kernel)) ggX6_needed_X6_isDone
set_option maxRecDepth 20000 in
theorem ggX6_needed_X6_maskOf : GoodIn wsX6_needed wsX6_maskOf := goodIn_r _ [22, 7, 23, 24, 4, 25, 65, 66, 67, 68, 69, 70, 71, 72, 73, 74, 75] (by decide +kernel) (by decide +kernel)
set_option maxRecDepth 20000 in
theorem gX6_needed_X6_maskOf : GoodIn wsX6_needed (wsV RX6 91 RX6 yX6_maskOf wsX6_maskOf) := goodIn_app (goodIn_of _ (by decide +kernel)) ggX6_needed_X6_maskOf
set_option maxRecDepth 20000 in
theorem ggX6_needed_X6_gets : GoodIn wsX6_needed wsX6_gets := goodIn_r _ [29, 7, 8, 9, 4, 10, 30, 31, 32, 33, 34, 35, 36, 37, 38, 39, 40, 41, 42, 43, 44, 65, 66, 67, 68, 69, 70, 71, 72, 73, 74, 75] (by decide +kernel) (by decide +kernel)
set_option maxRecDepth 20000 in
theorem gX6_needed_X6_gets : GoodIn wsX6_needed (wsV RX6 94 RX6 yX6_gets wsX6_gets) := goodIn_app (goodIn_of _ (by decide +kernel)) ggX6_needed_X6_gets
set_option maxRecDepth 20000 in
theorem ggX6_needed_X6_eliminates : GoodIn wsX6_needed wsX6_eliminates := goodIn_r _ [48, 7, 8, 9, 4, 10, 30, 31, 32, 49, 50, 51, 52, 53, 54, 55, 56, 57, 58, 59, 60, 33, 34, 35, 36, 37, 38, 39, 40, 41, 42, 43, 44, 65, 66, 67, 68, 69, 70, 71, 72, 73, 74, 75] (by decide +kernel) (by decide +kernel)
set_option maxRecDepth 20000 in
theorem gX6_needed_X6_eliminates : GoodIn wsX6_needed (wsV RX6 103 RX6 yX6_eliminates wsX6_eliminates) := goodIn_app (goodIn_of _ (by decide +kernel)) ggX6_needed_X6_eliminates
set_option maxRecDepth 20000 in
theorem ggX6_needed_X6_putBack : GoodIn wsX6_needed wsX6_putBack := goodIn_r _ [64, 7, 6, 8, 9, 4, 10, 65, 66, 67, 68, 69, 70, 71, 72, 73, 74, 75] (by decide +kernel) (by decide +kernel)
set_option maxRecDepth 20000 in
theorem gX6_needed_X6_putBack : GoodIn wsX6_needed (wsV RX6 157 RX6 yX6_putBack wsX6_putBack) := goodIn_app (goodIn_of _ (by decide +kernel)) ggX6_needed_X6_putBack
theorem dX6_needed_0 : decode cX6_needed 0 = .ok (.aload_n 0, 1) := by decide +kernel
theorem dX6_needed_1 : decode cX6_needed 1 = .ok (.iload_n 1, 1) := by decide +kernel
theorem dX6_needed_2 : decode cX6_needed 2 = .ok (.invokevirtual 154, 3) := by decide +kernel
theorem dX6_needed_5 : decode cX6_needed 5 = .ok (.iconst 0, 1) := by decide +kernel
theorem dX6_needed_6 : decode cX6_needed 6 = .ok (.istore 4, 2) := by decide +kernel
theorem dX6_needed_8 : decode cX6_needed 8 = .ok (.iload 4, 2) := by decide +kernel
theorem dX6_needed_10 : decode cX6_needed 10 = .ok (.bipush 100, 2) := by decide +kernel
theorem dX6_needed_12 : decode cX6_needed 12 = .ok (.if_icmp .ge 50, 3) := by decide +kernel
theorem dX6_needed_15 : decode cX6_needed 15 = .ok (.aload_n 0, 1) := by decide +kernel
theorem dX6_needed_16 : decode cX6_needed 16 = .ok (.iload_n 1, 1) := by decide +kernel
theorem dX6_needed_17 : decode cX6_needed 17 = .ok (.invokevirtual 132, 3) := by decide +kernel
theorem dX6_needed_20 : decode cX6_needed 20 = .ok (.ifCond .ne 42, 3) := by decide +kernel
theorem dX6_needed_23 : decode cX6_needed 23 = .ok (.aload_n 0, 1) := by decide +kernel
theorem dX6_needed_24 : decode cX6_needed 24 = .ok (.iload_n 1, 1) := by decide +kernel
theorem dX6_needed_25 : decode cX6_needed 25 = .ok (.aload_n 0, 1) := by decide +kernel
theorem dX6_needed_26 : decode cX6_needed 26 = .ok (.iload_n 2, 1) := by decide +kernel
theorem dX6_needed_27 : decode cX6_needed 27 = .ok (.iload 4, 2) := by decide +kernel
theorem dX6_needed_29 : decode cX6_needed 29 = .ok (.iadd, 1) := by decide +kernel
theorem dX6_needed_30 : decode cX6_needed 30 = .ok (.invokevirtual 91, 3) := by decide +kernel
theorem dX6_needed_33 : decode cX6_needed 33 = .ok (.invokevirtual 94, 3) := by decide +kernel
theorem dX6_needed_36 : decode cX6_needed 36 = .ok (.istore 5, 2) := by decide +kernel
theorem dX6_needed_38 : decode cX6_needed 38 = .ok (.iload 5, 2) := by decide +kernel
theorem dX6_needed_40 : decode cX6_needed 40 = .ok (.iload_n 3, 1) := by decide +kernel
theorem dX6_needed_41 : decode cX6_needed 41 = .ok (.ifCond .eq 11, 3) := by decide +kernel
theorem dX6_needed_44 : decode cX6_needed 44 = .ok (.aload_n 0, 1) := by decide +kernel
theorem dX6_needed_45 : decode cX6_needed 45 = .ok (.iload_n 1, 1) := by decide +kernel
theorem dX6_needed_46 : decode cX6_needed 46 = .ok (.invokevirtual 103, 3) := by decide +kernel
theorem dX6_needed_49 : decode cX6_needed 49 = .ok (.goto 4, 3) := by decide +kernel
theorem dX6_needed_52 : decode cX6_needed 52 = .ok (.iconst 0, 1) := by decide +kernel
theorem dX6_needed_53 : decode cX6_needed 53 = .ok (.iadd, 1) := by decide +kernel
theorem dX6_needed_54 : decode cX6_needed 54 = .ok (.istore 5, 2) := by decide +kernel
theorem dX6_needed_56 : decode cX6_needed 56 = .ok (.iinc 4 1, 3) := by decide +kernel
theorem dX6_needed_59 : decode cX6_needed 59 = .ok (.goto (-51), 3) := by decide +kernel
theorem dX6_needed_62 : decode cX6_needed 62 = .ok (.aload_n 0, 1) := by decide +kernel
theorem dX6_needed_63 : decode cX6_needed 63 = .ok (.iload_n 1, 1) := by decide +kernel
theorem dX6_needed_64 : decode cX6_needed 64 = .ok (.invokevirtual 132, 3) := by decide +kernel
theorem dX6_needed_67 : decode cX6_needed 67 = .ok (.istore 5, 2) := by decide +kernel
theorem dX6_needed_69 : decode cX6_needed 69 = .ok (.aload_n 0, 1) := by decide +kernel
theorem dX6_needed_70 : decode cX6_needed 70 = .ok (.iload_n 1, 1) := by decide +kernel
theorem dX6_needed_71 : decode cX6_needed 71 = .ok (.invokevirtual 157, 3) := by decide +kernel
theorem dX6_needed_74 : decode cX6_needed 74 = .ok (.iload 5, 2) := by decide +kernel
theorem dX6_needed_76 : decode cX6_needed 76 = .ok (.ifCond .eq 8, 3) := by decide +kernel
theorem dX6_needed_79 : decode cX6_needed 79 = .ok (.iload 4, 2) := by decide +kernel
theorem dX6_needed_81 : decode cX6_needed 81 = .ok (.goto 4, 3) := by decide +kernel
theorem dX6_needed_84 : decode cX6_needed 84 = .ok (.iconst (-1), 1) := by decide +kernel
theorem dX6_needed_85 : decode cX6_needed 85 = .ok (.ireturn, 1) := by decide +kernel
set_option maxRecDepth 20000 in
theorem ggX6_needs_X6_isReceiver : GoodIn wsX6_needs wsX6_isReceiver := goodIn_r _ [4, 5, 6, 3, 7] (by decide +kernel) (by decide +kernel)
set_option maxRecDepth 20000 in
theorem gX6_needs_X6_isReceiver : GoodIn wsX6_needs (va_wsS RX6 88 yX6_isReceiver wsX6_isReceiver) := goodIn_app (goodIn_of _ (by decide +kernel)) ggX6_needs_X6_isReceiver
set_option maxRecDepth 20000 in
theorem ggX6_needs_X6_in : GoodIn wsX6_needs wsX6_in := goodIn_r _ [7] (by decide +kernel) (by decide +kernel)
set_option maxRecDepth 20000 in
theorem gX6_needs_X6_in : GoodIn wsX6_needs (va_wsS RX6 29 yX6_in wsX6_in) := goodIn_app (goodIn_of _ (by decide +kernel)) ggX6_needs_X6_in
set_option maxRecDepth 20000 in
theorem ggX6_needs_X6_holds : GoodIn wsX6_needs wsX6_holds := goodIn_r _ [11, 12, 80, 81, 82, 83, 84, 85, 86, 87, 88, 89, 90] (by decide +kernel) (by decide +kernel)
set_option maxRecDepth 20000 in
theorem gX6_needs_X6_holds : GoodIn wsX6_needs (wsV RX6 74 RX6 yX6_holds wsX6_holds) := goodIn_app (goodIn_of _ (by decide +kernel)) ggX6_needs_X6_holds
set_option maxRecDepth 20000 in
theorem ggX6_needs_X6_needed : GoodIn wsX6_needs wsX6_needed := goodIn_r _ [16, 17, 18, 19, 3, 20, 21, 22, 23, 24, 25, 26, 27, 28, 29, 30, 31, 32, 33, 34, 35, 36, 37, 38, 39, 40, 41, 42, 43, 44, 45, 46, 47, 48, 49, 50, 51, 52, 53, 54, 55, 56, 57, 58, 59, 60, 61, 62, 63, 64, 65, 66, 67, 68, 69, 70, 71, 72, 73, 74, 75, 76, 77, 78, 79, 80, 81, 82, 83, 84, 85, 86, 87, 88, 89, 90] (by decide +kernel) (by decide +kernel)
set_option maxRecDepth 20000 in
theorem gX6_needs_X6_needed : GoodIn wsX6_needs (wsV RX6 166 RX6 yX6_needed wsX6_needed) := goodIn_app (goodIn_of _ (by decide +kernel)) ggX6_needs_X6_needed
theorem dX6_needs_0 : decode cX6_needs 0 = .ok (.aload_n 0, 1) := by decide +kernel
theorem dX6_needs_1 : decode cX6_needs 1 = .ok (.iload_n 1, 1) := by decide +kernel
theorem dX6_needs_2 : decode cX6_needs 2 = .ok (.invokestatic 88, 3) := by decide +kernel
theorem dX6_needs_5 : decode cX6_needs 5 = .ok (.ifCond .ne 7, 3) := by decide +kernel
theorem dX6_needs_8 : decode cX6_needs 8 = .ok (.iconst 1, 1) := by decide +kernel
theorem dX6_needs_9 : decode cX6_needs 9 = .ok (.goto 19, 3) := by decide +kernel
theorem dX6_needs_12 : decode cX6_needs 12 = .ok (.iload_n 2, 1) := by decide +kernel
theorem dX6_needs_13 : decode cX6_needs 13 = .ok (.iconst 0, 1) := by decide +kernel
theorem dX6_needs_14 : decode cX6_needs 14 = .ok (.sipush 9899, 3) := by decide +kernel
theorem dX6_needs_17 : decode cX6_needs 17 = .ok (.invokestatic 29, 3) := by decide +kernel
theorem dX6_needs_20 : decode cX6_needs 20 = .ok (.ifCond .ne 7, 3) := by decide +kernel
theorem dX6_needs_23 : decode cX6_needs 23 = .ok (.iconst 2, 1) := by decide +kernel
theorem dX6_needs_24 : decode cX6_needs 24 = .ok (.goto 4, 3) := by decide +kernel
theorem dX6_needs_27 : decode cX6_needs 27 = .ok (.iconst 0, 1) := by decide +kernel
theorem dX6_needs_28 : decode cX6_needs 28 = .ok (.invokevirtual 74, 3) := by decide +kernel
theorem dX6_needs_31 : decode cX6_needs 31 = .ok (.ifCond .eq 13, 3) := by decide +kernel
theorem dX6_needs_34 : decode cX6_needs 34 = .ok (.aload_n 0, 1) := by decide +kernel
theorem dX6_needs_35 : decode cX6_needs 35 = .ok (.iload_n 1, 1) := by decide +kernel
theorem dX6_needs_36 : decode cX6_needs 36 = .ok (.iload_n 2, 1) := by decide +kernel
theorem dX6_needs_37 : decode cX6_needs 37 = .ok (.iload_n 3, 1) := by decide +kernel
theorem dX6_needs_38 : decode cX6_needs 38 = .ok (.invokevirtual 166, 3) := by decide +kernel
theorem dX6_needs_41 : decode cX6_needs 41 = .ok (.goto 4, 3) := by decide +kernel
theorem dX6_needs_44 : decode cX6_needs 44 = .ok (.iconst 0, 1) := by decide +kernel
theorem dX6_needs_45 : decode cX6_needs 45 = .ok (.ireturn, 1) := by decide +kernel
set_option maxRecDepth 20000 in
theorem ggX6_ifEliminated_X6_isReceiver : GoodIn wsX6_ifEliminated wsX6_isReceiver := goodIn_r _ [4, 5, 6, 3, 7] (by decide +kernel) (by decide +kernel)
set_option maxRecDepth 20000 in
theorem gX6_ifEliminated_X6_isReceiver : GoodIn wsX6_ifEliminated (va_wsS RX6 88 yX6_isReceiver wsX6_isReceiver) := goodIn_app (goodIn_of _ (by decide +kernel)) ggX6_ifEliminated_X6_isReceiver
set_option maxRecDepth 20000 in
theorem ggX6_ifEliminated_X6_holds : GoodIn wsX6_ifEliminated wsX6_holds := goodIn_r _ [11, 12, 32, 33, 34, 35, 36, 37, 38, 39, 40, 41, 42] (by decide +kernel) (by decide +kernel)
set_option maxRecDepth 20000 in
theorem gX6_ifEliminated_X6_holds : GoodIn wsX6_ifEliminated (wsV RX6 74 RX6 yX6_holds wsX6_holds) := goodIn_app (goodIn_of _ (by decide +kernel)) ggX6_ifEliminated_X6_holds
set_option maxRecDepth 20000 in
theorem ggX6_ifEliminated_X6_alone : GoodIn wsX6_ifEliminated wsX6_alone := goodIn_r _ [16, 17, 18, 19, 20, 3, 21, 22, 23, 24, 25, 26, 27, 28, 29, 30, 31, 32, 33, 34, 35, 36, 37, 38, 39, 40, 41, 42] (by decide +kernel) (by decide +kernel)
set_option maxRecDepth 20000 in
theorem gX6_ifEliminated_X6_alone : GoodIn wsX6_ifEliminated (wsV RX6 68 RX6 yX6_alone wsX6_alone) := goodIn_app (goodIn_of _ (by decide +kernel)) ggX6_ifEliminated_X6_alone
set_option maxRecDepth 20000 in
theorem ggX6_ifEliminated_X6_bits : GoodIn wsX6_ifEliminated wsX6_bits := goodIn_r _ [31] (by decide +kernel) (by decide +kernel)
set_option maxRecDepth 20000 in
theorem gX6_ifEliminated_X6_bits : GoodIn wsX6_ifEliminated (va_wsS RX6 48 yX6_bits wsX6_bits) := goodIn_app (goodIn_of _ (by decide +kernel)) ggX6_ifEliminated_X6_bits
theorem dX6_ifEliminated_0 : decode cX6_ifEliminated 0 = .ok (.aload_n 0, 1) := by decide +kernel
theorem dX6_ifEliminated_1 : decode cX6_ifEliminated 1 = .ok (.iload_n 1, 1) := by decide +kernel
theorem dX6_ifEliminated_2 : decode cX6_ifEliminated 2 = .ok (.invokestatic 88, 3) := by decide +kernel
theorem dX6_ifEliminated_5 : decode cX6_ifEliminated 5 = .ok (.ifCond .eq 7, 3) := by decide +kernel
theorem dX6_ifEliminated_8 : decode cX6_ifEliminated 8 = .ok (.iconst 0, 1) := by decide +kernel
theorem dX6_ifEliminated_9 : decode cX6_ifEliminated 9 = .ok (.goto 4, 3) := by decide +kernel
theorem dX6_ifEliminated_12 : decode cX6_ifEliminated 12 = .ok (.iconst 1, 1) := by decide +kernel
theorem dX6_ifEliminated_13 : decode cX6_ifEliminated 13 = .ok (.invokevirtual 74, 3) := by decide +kernel
theorem dX6_ifEliminated_16 : decode cX6_ifEliminated 16 = .ok (.ifCond .eq 14, 3) := by decide +kernel
theorem dX6_ifEliminated_19 : decode cX6_ifEliminated 19 = .ok (.aload_n 0, 1) := by decide +kernel
theorem dX6_ifEliminated_20 : decode cX6_ifEliminated 20 = .ok (.iload_n 1, 1) := by decide +kernel
theorem dX6_ifEliminated_21 : decode cX6_ifEliminated 21 = .ok (.invokevirtual 68, 3) := by decide +kernel
theorem dX6_ifEliminated_24 : decode cX6_ifEliminated 24 = .ok (.invokestatic 48, 3) := by decide +kernel
theorem dX6_ifEliminated_27 : decode cX6_ifEliminated 27 = .ok (.goto 4, 3) := by decide +kernel
theorem dX6_ifEliminated_30 : decode cX6_ifEliminated 30 = .ok (.iconst 0, 1) := by decide +kernel
theorem dX6_ifEliminated_31 : decode cX6_ifEliminated 31 = .ok (.ireturn, 1) := by decide +kernel
set_option maxRecDepth 20000 in
theorem ggX6_used_X6_of : GoodIn wsX6_used wsX6_of := goodIn_r _ [5] (by decide +kernel) (by decide +kernel)
set_option maxRecDepth 20000 in
theorem gX6_used_X6_of : GoodIn wsX6_used (va_wsS RX6 36 yX6_of wsX6_of) := goodIn_app (goodIn_of _ (by decide +kernel)) ggX6_used_X6_of
theorem dX6_used_0 : decode cX6_used 0 = .ok (.aload_n 0, 1) := by decide +kernel
theorem dX6_used_1 : decode cX6_used 1 = .ok (.getfield 7, 3) := by decide +kernel
theorem dX6_used_4 : decode cX6_used 4 = .ok (.iload_n 1, 1) := by decide +kernel
theorem dX6_used_5 : decode cX6_used 5 = .ok (.iconst 2, 1) := by decide +kernel
theorem dX6_used_6 : decode cX6_used 6 = .ok (.invokestatic 36, 3) := by decide +kernel
theorem dX6_used_9 : decode cX6_used 9 = .ok (.iaload, 1) := by decide +kernel
theorem dX6_used_10 : decode cX6_used 10 = .ok (.istore_n 2, 1) := by decide +kernel
theorem dX6_used_11 : decode cX6_used 11 = .ok (.iload_n 2, 1) := by decide +kernel
theorem dX6_used_12 : decode cX6_used 12 = .ok (.ifCond .ne 7, 3) := by decide +kernel
theorem dX6_used_15 : decode cX6_used 15 = .ok (.dconst 1, 1) := by decide +kernel
theorem dX6_used_16 : decode cX6_used 16 = .ok (.goto 30, 3) := by decide +kernel
theorem dX6_used_19 : decode cX6_used 19 = .ok (.iload_n 2, 1) := by decide +kernel
theorem dX6_used_20 : decode cX6_used 20 = .ok (.aload_n 0, 1) := by decide +kernel
theorem dX6_used_21 : decode cX6_used 21 = .ok (.getfield 7, 3) := by decide +kernel
theorem dX6_used_24 : decode cX6_used 24 = .ok (.iload_n 1, 1) := by decide +kernel
theorem dX6_used_25 : decode cX6_used 25 = .ok (.iconst 3, 1) := by decide +kernel
theorem dX6_used_26 : decode cX6_used 26 = .ok (.invokestatic 36, 3) := by decide +kernel
theorem dX6_used_29 : decode cX6_used 29 = .ok (.iaload, 1) := by decide +kernel
theorem dX6_used_30 : decode cX6_used 30 = .ok (.isub, 1) := by decide +kernel
theorem dX6_used_31 : decode cX6_used 31 = .ok (.aload_n 0, 1) := by decide +kernel
theorem dX6_used_32 : decode cX6_used 32 = .ok (.getfield 7, 3) := by decide +kernel
theorem dX6_used_35 : decode cX6_used 35 = .ok (.iload_n 1, 1) := by decide +kernel
theorem dX6_used_36 : decode cX6_used 36 = .ok (.iconst 4, 1) := by decide +kernel
theorem dX6_used_37 : decode cX6_used 37 = .ok (.invokestatic 36, 3) := by decide +kernel
theorem dX6_used_40 : decode cX6_used 40 = .ok (.iaload, 1) := by decide +kernel
theorem dX6_used_41 : decode cX6_used 41 = .ok (.isub, 1) := by decide +kernel
theorem dX6_used_42 : decode cX6_used 42 = .ok (.i2d, 1) := by decide +kernel
theorem dX6_used_43 : decode cX6_used 43 = .ok (.iload_n 2, 1) := by decide +kernel
theorem dX6_used_44 : decode cX6_used 44 = .ok (.i2d, 1) := by decide +kernel
theorem dX6_used_45 : decode cX6_used 45 = .ok (.ddiv, 1) := by decide +kernel
theorem dX6_used_46 : decode cX6_used 46 = .ok (.dreturn, 1) := by decide +kernel
set_option maxRecDepth 20000 in
theorem ggX6_use_X6_isReceiver : GoodIn wsX6_use wsX6_isReceiver := goodIn_r _ [4, 5, 6, 3, 7] (by decide +kernel) (by decide +kernel)
set_option maxRecDepth 20000 in
theorem gX6_use_X6_isReceiver : GoodIn wsX6_use (va_wsS RX6 88 yX6_isReceiver wsX6_isReceiver) := goodIn_app (goodIn_of _ (by decide +kernel)) ggX6_use_X6_isReceiver
set_option maxRecDepth 20000 in
theorem ggX6_use_X6_holds : GoodIn wsX6_use wsX6_holds := goodIn_r _ [11, 12, 21, 22, 23, 24, 25, 26, 27, 28, 29, 30, 31] (by decide +kernel) (by decide +kernel)
set_option maxRecDepth 20000 in
theorem gX6_use_X6_holds : GoodIn wsX6_use (wsV RX6 74 RX6 yX6_holds wsX6_holds) := goodIn_app (goodIn_of _ (by decide +kernel)) ggX6_use_X6_holds
set_option maxRecDepth 20000 in
theorem ggX6_use_X6_used : GoodIn wsX6_use wsX6_used := goodIn_r _ [16, 17, 18, 19, 3, 20, 21, 22, 23, 24, 25, 26, 27, 28, 29, 30, 31] (by decide +kernel) (by decide +kernel)
set_option maxRecDepth 20000 in
theorem gX6_use_X6_used : GoodIn wsX6_use (wsV RX6 170 RX6 yX6_used wsX6_used) := goodIn_app (goodIn_of _ (by decide +kernel)) ggX6_use_X6_used
theorem dX6_use_0 : decode cX6_use 0 = .ok (.aload_n 0, 1) := by decide +kernel
theorem dX6_use_1 : decode cX6_use 1 = .ok (.iload_n 1, 1) := by decide +kernel
theorem dX6_use_2 : decode cX6_use 2 = .ok (.invokestatic 88, 3) := by decide +kernel
theorem dX6_use_5 : decode cX6_use 5 = .ok (.ifCond .eq 7, 3) := by decide +kernel
theorem dX6_use_8 : decode cX6_use 8 = .ok (.iconst 0, 1) := by decide +kernel
theorem dX6_use_9 : decode cX6_use 9 = .ok (.goto 4, 3) := by decide +kernel
theorem dX6_use_12 : decode cX6_use 12 = .ok (.iconst 1, 1) := by decide +kernel
theorem dX6_use_13 : decode cX6_use 13 = .ok (.invokevirtual 74, 3) := by decide +kernel
theorem dX6_use_16 : decode cX6_use 16 = .ok (.ifCond .eq 11, 3) := by decide +kernel
theorem dX6_use_19 : decode cX6_use 19 = .ok (.aload_n 0, 1) := by decide +kernel
theorem dX6_use_20 : decode cX6_use 20 = .ok (.iload_n 1, 1) := by decide +kernel
theorem dX6_use_21 : decode cX6_use 21 = .ok (.invokevirtual 170, 3) := by decide +kernel
theorem dX6_use_24 : decode cX6_use 24 = .ok (.goto 4, 3) := by decide +kernel
theorem dX6_use_27 : decode cX6_use 27 = .ok (.dconst 0, 1) := by decide +kernel
theorem dX6_use_28 : decode cX6_use 28 = .ok (.dreturn, 1) := by decide +kernel
theorem dX6_bitsOf_0 : decode cX6_bitsOf 0 = .ok (.dload_n 0, 1) := by decide +kernel
theorem dX6_bitsOf_1 : decode cX6_bitsOf 1 = .ok (.dconst 0, 1) := by decide +kernel
theorem dX6_bitsOf_2 : decode cX6_bitsOf 2 = .ok (.dcmp .l, 1) := by decide +kernel
theorem dX6_bitsOf_3 : decode cX6_bitsOf 3 = .ok (.ifCond .ne 5, 3) := by decide +kernel
theorem dX6_bitsOf_6 : decode cX6_bitsOf 6 = .ok (.lconst 0, 1) := by decide +kernel
theorem dX6_bitsOf_7 : decode cX6_bitsOf 7 = .ok (.lreturn, 1) := by decide +kernel
theorem dX6_bitsOf_8 : decode cX6_bitsOf 8 = .ok (.ldc2_w 174, 3) := by decide +kernel
theorem dX6_bitsOf_11 : decode cX6_bitsOf 11 = .ok (.lstore_n 2, 1) := by decide +kernel
theorem dX6_bitsOf_12 : decode cX6_bitsOf 12 = .ok (.dload_n 0, 1) := by decide +kernel
theorem dX6_bitsOf_13 : decode cX6_bitsOf 13 = .ok (.dstore 4, 2) := by decide +kernel
theorem dX6_bitsOf_15 : decode cX6_bitsOf 15 = .ok (.dload 4, 2) := by decide +kernel
theorem dX6_bitsOf_17 : decode cX6_bitsOf 17 = .ok (.dconst 1, 1) := by decide +kernel
theorem dX6_bitsOf_18 : decode cX6_bitsOf 18 = .ok (.dcmp .g, 1) := by decide +kernel
theorem dX6_bitsOf_19 : decode cX6_bitsOf 19 = .ok (.ifCond .ge 18, 3) := by decide +kernel
theorem dX6_bitsOf_22 : decode cX6_bitsOf 22 = .ok (.dload 4, 2) := by decide +kernel
theorem dX6_bitsOf_24 : decode cX6_bitsOf 24 = .ok (.ldc2_w 176, 3) := by decide +kernel
theorem dX6_bitsOf_27 : decode cX6_bitsOf 27 = .ok (.dmul, 1) := by decide +kernel
theorem dX6_bitsOf_28 : decode cX6_bitsOf 28 = .ok (.dstore 4, 2) := by decide +kernel
theorem dX6_bitsOf_30 : decode cX6_bitsOf 30 = .ok (.lload_n 2, 1) := by decide +kernel
theorem dX6_bitsOf_31 : decode cX6_bitsOf 31 = .ok (.lconst 1, 1) := by decide +kernel
theorem dX6_bitsOf_32 : decode cX6_bitsOf 32 = .ok (.lsub, 1) := by decide +kernel
theorem dX6_bitsOf_33 : decode cX6_bitsOf 33 = .ok (.lstore_n 2, 1) := by decide +kernel
theorem dX6_bitsOf_34 : decode cX6_bitsOf 34 = .ok (.goto (-19), 3) := by decide +kernel
theorem dX6_bitsOf_37 : decode cX6_bitsOf 37 = .ok (.lload_n 2, 1) := by decide +kernel
theorem dX6_bitsOf_38 : decode cX6_bitsOf 38 = .ok (.ldc2_w 178, 3) := by decide +kernel
theorem dX6_bitsOf_41 : decode cX6_bitsOf 41 = .ok (.lmul, 1) := by decide +kernel
theorem dX6_bitsOf_42 : decode cX6_bitsOf 42 = .ok (.dload 4, 2) := by decide +kernel
theorem dX6_bitsOf_44 : decode cX6_bitsOf 44 = .ok (.dconst 1, 1) := by decide +kernel
theorem dX6_bitsOf_45 : decode cX6_bitsOf 45 = .ok (.dsub, 1) := by decide +kernel
theorem dX6_bitsOf_46 : decode cX6_bitsOf 46 = .ok (.ldc2_w 180, 3) := by decide +kernel
theorem dX6_bitsOf_49 : decode cX6_bitsOf 49 = .ok (.dmul, 1) := by decide +kernel
theorem dX6_bitsOf_50 : decode cX6_bitsOf 50 = .ok (.d2l, 1) := by decide +kernel
theorem dX6_bitsOf_51 : decode cX6_bitsOf 51 = .ok (.ladd, 1) := by decide +kernel
theorem dX6_bitsOf_52 : decode cX6_bitsOf 52 = .ok (.lreturn, 1) := by decide +kernel
theorem dX6_digestOne_0 : decode cX6_digestOne 0 = .ok (.aload_n 0, 1) := by decide +kernel
theorem dX6_digestOne_1 : decode cX6_digestOne 1 = .ok (.ldc2_w 182, 3) := by decide +kernel
theorem dX6_digestOne_4 : decode cX6_digestOne 4 = .ok (.aload_n 0, 1) := by decide +kernel
theorem dX6_digestOne_5 : decode cX6_digestOne 5 = .ok (.getfield 184, 3) := by decide +kernel
theorem dX6_digestOne_8 : decode cX6_digestOne 8 = .ok (.lmul, 1) := by decide +kernel
theorem dX6_digestOne_9 : decode cX6_digestOne 9 = .ok (.lload_n 1, 1) := by decide +kernel
theorem dX6_digestOne_10 : decode cX6_digestOne 10 = .ok (.ladd, 1) := by decide +kernel
theorem dX6_digestOne_11 : decode cX6_digestOne 11 = .ok (.putfield 184, 3) := by decide +kernel
theorem dX6_digestOne_14 : decode cX6_digestOne 14 = .ok (.return_, 1) := by decide +kernel
set_option maxRecDepth 20000 in
theorem ggX6_digestReceiver_X6_told : GoodIn wsX6_digestReceiver wsX6_told := goodIn_r _ [6, 1, 7, 8, 5, 9, 10, 11, 12, 13, 14, 15, 16, 17, 18, 19, 20, 21, 22, 23, 24, 25, 26, 27, 28, 29, 30, 31, 32, 114, 115, 116, 117, 118, 119, 120, 121, 122, 123, 124] (by decide +kernel) (by decide +kernel)
set_option maxRecDepth 20000 in
theorem gX6_digestReceiver_X6_told : GoodIn wsX6_digestReceiver (wsV RX6 138 RX6 yX6_told wsX6_told) := goodIn_app (goodIn_of _ (by decide +kernel)) ggX6_digestReceiver_X6_told
set_option maxRecDepth 20000 in
theorem ggX6_digestReceiver_X6_digestOne : GoodIn wsX6_digestReceiver wsX6_digestOne := goodIn_r _ [36, 37, 38, 114, 115, 116, 117, 118, 119, 120, 121, 122, 123, 124] (by decide +kernel) (by decide +kernel)
set_option maxRecDepth 20000 in
theorem gX6_digestReceiver_X6_digestOne : GoodIn wsX6_digestReceiver (wsV RX6 188 RX6 yX6_digestOne wsX6_digestOne) := goodIn_app (goodIn_of _ (by decide +kernel)) ggX6_digestReceiver_X6_digestOne
set_option maxRecDepth 20000 in
theorem ggX6_digestReceiver_X6_knownOf : GoodIn wsX6_digestReceiver wsX6_knownOf := goodIn_r _ [42, 1, 7, 8, 5, 9, 114, 115, 116, 117, 118, 119, 120, 121, 122, 123, 124] (by decide +kernel) (by decide +kernel)
set_option maxRecDepth 20000 in
theorem gX6_digestReceiver_X6_knownOf : GoodIn wsX6_digestReceiver (wsV RX6 141 RX6 yX6_knownOf wsX6_knownOf) := goodIn_app (goodIn_of _ (by decide +kernel)) ggX6_digestReceiver_X6_knownOf
set_option maxRecDepth 20000 in
theorem ggX6_digestReceiver_X6_of : GoodIn wsX6_digestReceiver wsX6_of := goodIn_r _ [9] (by decide +kernel) (by decide +kernel)
set_option maxRecDepth 20000 in
theorem gX6_digestReceiver_X6_of : GoodIn wsX6_digestReceiver (va_wsS RX6 36 yX6_of wsX6_of) := goodIn_app (goodIn_of _ (by decide +kernel)) ggX6_digestReceiver_X6_of
set_option maxRecDepth 20000 in
theorem ggX6_digestReceiver_X6_waitsAt : GoodIn wsX6_digestReceiver wsX6_waitsAt := goodIn_r _ [46, 1, 7, 8, 5, 9, 47, 48, 49, 50, 114, 115, 116, 117, 118, 119, 120, 121, 122, 123, 124] (by decide +kernel) (by decide +kernel)
set_option maxRecDepth 20000 in
theorem gX6_digestReceiver_X6_waitsAt : GoodIn wsX6_digestReceiver (wsV RX6 144 RX6 yX6_waitsAt wsX6_waitsAt) := goodIn_app (goodIn_of _ (by decide +kernel)) ggX6_digestReceiver_X6_waitsAt
set_option maxRecDepth 20000 in
theorem ggX6_digestReceiver_X6_got : GoodIn wsX6_digestReceiver wsX6_got := goodIn_r _ [54, 55, 56, 57, 5, 58, 59, 1, 7, 8, 9, 60, 61, 62, 63, 64, 65, 66, 67, 68, 69, 70, 10, 11, 12, 71, 72, 73, 74, 75, 76, 77, 78, 79, 80, 81, 82, 21, 22, 23, 24, 25, 26, 27, 28, 29, 30, 31, 32, 83, 84, 85, 86, 114, 115, 116, 117, 118, 119, 120, 121, 122, 123, 124] (by decide +kernel) (by decide +kernel)
set_option maxRecDepth 20000 in
theorem gX6_digestReceiver_X6_got : GoodIn wsX6_digestReceiver (wsV RX6 160 RX6 yX6_got wsX6_got) := goodIn_app (goodIn_of _ (by decide +kernel)) ggX6_digestReceiver_X6_got
set_option maxRecDepth 20000 in
theorem ggX6_digestReceiver_X6_helping : GoodIn wsX6_digestReceiver wsX6_helping := goodIn_r _ [90, 51, 52, 53, 5, 54, 55, 56, 57, 58, 59, 1, 7, 8, 9, 60, 61, 62, 63, 64, 65, 66, 67, 68, 69, 70, 10, 11, 12, 71, 72, 73, 74, 75, 76, 77, 78, 79, 80, 81, 82, 21, 22, 23, 24, 25, 26, 27, 28, 29, 30, 31, 32, 83, 84, 85, 86, 114, 115, 116, 117, 118, 119, 120, 121, 122, 123, 124] (by decide +kernel) (by decide +kernel)
set_option maxRecDepth 20000 in
theorem gX6_digestReceiver_X6_helping : GoodIn wsX6_digestReceiver (wsV RX6 163 RX6 yX6_helping wsX6_helping) := goodIn_app (goodIn_of _ (by decide +kernel)) ggX6_digestReceiver_X6_helping
set_option maxRecDepth 20000 in
theorem ggX6_digestReceiver_X6_needed : GoodIn wsX6_digestReceiver wsX6_needed := goodIn_r _ [94, 55, 56, 57, 5, 58, 59, 1, 7, 8, 9, 13, 14, 15, 16, 17, 18, 19, 20, 60, 61, 62, 63, 64, 65, 66, 67, 68, 69, 70, 10, 11, 12, 71, 72, 73, 74, 75, 76, 77, 78, 79, 80, 81, 82, 95, 96, 97, 98, 99, 100, 101, 102, 29, 25, 26, 27, 28, 30, 31, 32, 83, 84, 85, 86, 114, 115, 116, 117, 118, 119, 120, 121, 122, 123, 124] (by decide +kernel) (by decide +kernel)
set_option maxRecDepth 20000 in
theorem gX6_digestReceiver_X6_needed : GoodIn wsX6_digestReceiver (wsV RX6 166 RX6 yX6_needed wsX6_needed) := goodIn_app (goodIn_of _ (by decide +kernel)) ggX6_digestReceiver_X6_needed
set_option maxRecDepth 20000 in
theorem ggX6_digestReceiver_X6_alone : GoodIn wsX6_digestReceiver wsX6_alone := goodIn_r _ [102, 29, 25, 26, 27, 5, 28, 1, 7, 8, 9, 30, 31, 32, 10, 11, 12, 114, 115, 116, 117, 118, 119, 120, 121, 122, 123, 124] (by decide +kernel) (by decide +kernel)
set_option maxRecDepth 20000 in
theorem gX6_digestReceiver_X6_alone : GoodIn wsX6_digestReceiver (wsV RX6 68 RX6 yX6_alone wsX6_alone) := goodIn_app (goodIn_of _ (by decide +kernel)) ggX6_digestReceiver_X6_alone
set_option maxRecDepth 20000 in
theorem ggX6_digestReceiver_X6_bits : GoodIn wsX6_digestReceiver wsX6_bits := goodIn_r _ [12] (by decide +kernel) (by decide +kernel)
set_option maxRecDepth 20000 in
theorem gX6_digestReceiver_X6_bits : GoodIn wsX6_digestReceiver (va_wsS RX6 48 yX6_bits wsX6_bits) := goodIn_app (goodIn_of _ (by decide +kernel)) ggX6_digestReceiver_X6_bits
set_option maxRecDepth 20000 in
theorem ggX6_digestReceiver_X6_used : GoodIn wsX6_digestReceiver wsX6_used := goodIn_r _ [106, 1, 7, 8, 5, 9, 114, 115, 116, 117, 118, 119, 120, 121, 122, 123, 124] (by decide +kernel) (by decide +kernel)
set_option maxRecDepth 20000 in
theorem gX6_digestReceiver_X6_used : GoodIn wsX6_digestReceiver (wsV RX6 170 RX6 yX6_used wsX6_used) := goodIn_app (goodIn_of _ (by decide +kernel)) ggX6_digestReceiver_X6_used
set_option maxRecDepth 20000 in
theorem ggX6_digestReceiver_X6_bitsOf : GoodIn wsX6_digestReceiver wsX6_bitsOf := goodIn_r _ [109, 110, 111, 112, 113] (by decide +kernel) (by decide +kernel)
set_option maxRecDepth 20000 in
theorem gX6_digestReceiver_X6_bitsOf : GoodIn wsX6_digestReceiver (va_wsS RX6 192 yX6_bitsOf wsX6_bitsOf) := goodIn_app (goodIn_of _ (by decide +kernel)) ggX6_digestReceiver_X6_bitsOf
theorem dX6_digestReceiver_0 : decode cX6_digestReceiver 0 = .ok (.iconst 0, 1) := by decide +kernel
theorem dX6_digestReceiver_1 : decode cX6_digestReceiver 1 = .ok (.istore_n 2, 1) := by decide +kernel
theorem dX6_digestReceiver_2 : decode cX6_digestReceiver 2 = .ok (.iload_n 2, 1) := by decide +kernel
theorem dX6_digestReceiver_3 : decode cX6_digestReceiver 3 = .ok (.bipush 9, 2) := by decide +kernel
theorem dX6_digestReceiver_5 : decode cX6_digestReceiver 5 = .ok (.if_icmp .ge 20, 3) := by decide +kernel
theorem dX6_digestReceiver_8 : decode cX6_digestReceiver 8 = .ok (.aload_n 0, 1) := by decide +kernel
theorem dX6_digestReceiver_9 : decode cX6_digestReceiver 9 = .ok (.aload_n 0, 1) := by decide +kernel
theorem dX6_digestReceiver_10 : decode cX6_digestReceiver 10 = .ok (.iload_n 1, 1) := by decide +kernel
theorem dX6_digestReceiver_11 : decode cX6_digestReceiver 11 = .ok (.iload_n 2, 1) := by decide +kernel
theorem dX6_digestReceiver_12 : decode cX6_digestReceiver 12 = .ok (.invokevirtual 138, 3) := by decide +kernel
theorem dX6_digestReceiver_15 : decode cX6_digestReceiver 15 = .ok (.i2l, 1) := by decide +kernel
theorem dX6_digestReceiver_16 : decode cX6_digestReceiver 16 = .ok (.invokevirtual 188, 3) := by decide +kernel
theorem dX6_digestReceiver_19 : decode cX6_digestReceiver 19 = .ok (.iinc 2 1, 3) := by decide +kernel
theorem dX6_digestReceiver_22 : decode cX6_digestReceiver 22 = .ok (.goto (-20), 3) := by decide +kernel
theorem dX6_digestReceiver_25 : decode cX6_digestReceiver 25 = .ok (.iconst 0, 1) := by decide +kernel
theorem dX6_digestReceiver_26 : decode cX6_digestReceiver 26 = .ok (.istore_n 2, 1) := by decide +kernel
theorem dX6_digestReceiver_27 : decode cX6_digestReceiver 27 = .ok (.iload_n 2, 1) := by decide +kernel
theorem dX6_digestReceiver_28 : decode cX6_digestReceiver 28 = .ok (.aload_n 0, 1) := by decide +kernel
theorem dX6_digestReceiver_29 : decode cX6_digestReceiver 29 = .ok (.getfield 7, 3) := by decide +kernel
theorem dX6_digestReceiver_32 : decode cX6_digestReceiver 32 = .ok (.iconst 0, 1) := by decide +kernel
theorem dX6_digestReceiver_33 : decode cX6_digestReceiver 33 = .ok (.iaload, 1) := by decide +kernel
theorem dX6_digestReceiver_34 : decode cX6_digestReceiver 34 = .ok (.if_icmp .ge 20, 3) := by decide +kernel
theorem dX6_digestReceiver_37 : decode cX6_digestReceiver 37 = .ok (.aload_n 0, 1) := by decide +kernel
theorem dX6_digestReceiver_38 : decode cX6_digestReceiver 38 = .ok (.aload_n 0, 1) := by decide +kernel
theorem dX6_digestReceiver_39 : decode cX6_digestReceiver 39 = .ok (.iload_n 1, 1) := by decide +kernel
theorem dX6_digestReceiver_40 : decode cX6_digestReceiver 40 = .ok (.iload_n 2, 1) := by decide +kernel
theorem dX6_digestReceiver_41 : decode cX6_digestReceiver 41 = .ok (.invokevirtual 141, 3) := by decide +kernel
theorem dX6_digestReceiver_44 : decode cX6_digestReceiver 44 = .ok (.i2l, 1) := by decide +kernel
theorem dX6_digestReceiver_45 : decode cX6_digestReceiver 45 = .ok (.invokevirtual 188, 3) := by decide +kernel
theorem dX6_digestReceiver_48 : decode cX6_digestReceiver 48 = .ok (.iinc 2 1, 3) := by decide +kernel
theorem dX6_digestReceiver_51 : decode cX6_digestReceiver 51 = .ok (.goto (-24), 3) := by decide +kernel
theorem dX6_digestReceiver_54 : decode cX6_digestReceiver 54 = .ok (.iconst 0, 1) := by decide +kernel
theorem dX6_digestReceiver_55 : decode cX6_digestReceiver 55 = .ok (.istore_n 2, 1) := by decide +kernel
theorem dX6_digestReceiver_56 : decode cX6_digestReceiver 56 = .ok (.iload_n 2, 1) := by decide +kernel
theorem dX6_digestReceiver_57 : decode cX6_digestReceiver 57 = .ok (.aload_n 0, 1) := by decide +kernel
theorem dX6_digestReceiver_58 : decode cX6_digestReceiver 58 = .ok (.getfield 7, 3) := by decide +kernel
theorem dX6_digestReceiver_61 : decode cX6_digestReceiver 61 = .ok (.iload_n 1, 1) := by decide +kernel
theorem dX6_digestReceiver_62 : decode cX6_digestReceiver 62 = .ok (.iconst 5, 1) := by decide +kernel
theorem dX6_digestReceiver_63 : decode cX6_digestReceiver 63 = .ok (.invokestatic 36, 3) := by decide +kernel
theorem dX6_digestReceiver_66 : decode cX6_digestReceiver 66 = .ok (.iaload, 1) := by decide +kernel
theorem dX6_digestReceiver_67 : decode cX6_digestReceiver 67 = .ok (.if_icmp .ge 33, 3) := by decide +kernel
theorem dX6_digestReceiver_70 : decode cX6_digestReceiver 70 = .ok (.aload_n 0, 1) := by decide +kernel
theorem dX6_digestReceiver_71 : decode cX6_digestReceiver 71 = .ok (.aload_n 0, 1) := by decide +kernel
theorem dX6_digestReceiver_72 : decode cX6_digestReceiver 72 = .ok (.iload_n 1, 1) := by decide +kernel
theorem dX6_digestReceiver_73 : decode cX6_digestReceiver 73 = .ok (.iload_n 2, 1) := by decide +kernel
theorem dX6_digestReceiver_74 : decode cX6_digestReceiver 74 = .ok (.iconst 0, 1) := by decide +kernel
theorem dX6_digestReceiver_75 : decode cX6_digestReceiver 75 = .ok (.invokevirtual 144, 3) := by decide +kernel
theorem dX6_digestReceiver_78 : decode cX6_digestReceiver 78 = .ok (.i2l, 1) := by decide +kernel
theorem dX6_digestReceiver_79 : decode cX6_digestReceiver 79 = .ok (.invokevirtual 188, 3) := by decide +kernel
theorem dX6_digestReceiver_82 : decode cX6_digestReceiver 82 = .ok (.aload_n 0, 1) := by decide +kernel
theorem dX6_digestReceiver_83 : decode cX6_digestReceiver 83 = .ok (.aload_n 0, 1) := by decide +kernel
theorem dX6_digestReceiver_84 : decode cX6_digestReceiver 84 = .ok (.iload_n 1, 1) := by decide +kernel
theorem dX6_digestReceiver_85 : decode cX6_digestReceiver 85 = .ok (.iload_n 2, 1) := by decide +kernel
theorem dX6_digestReceiver_86 : decode cX6_digestReceiver 86 = .ok (.iconst 1, 1) := by decide +kernel
theorem dX6_digestReceiver_87 : decode cX6_digestReceiver 87 = .ok (.invokevirtual 144, 3) := by decide +kernel
theorem dX6_digestReceiver_90 : decode cX6_digestReceiver 90 = .ok (.i2l, 1) := by decide +kernel
theorem dX6_digestReceiver_91 : decode cX6_digestReceiver 91 = .ok (.invokevirtual 188, 3) := by decide +kernel
theorem dX6_digestReceiver_94 : decode cX6_digestReceiver 94 = .ok (.iinc 2 1, 3) := by decide +kernel
theorem dX6_digestReceiver_97 : decode cX6_digestReceiver 97 = .ok (.goto (-41), 3) := by decide +kernel
theorem dX6_digestReceiver_100 : decode cX6_digestReceiver 100 = .ok (.aload_n 0, 1) := by decide +kernel
theorem dX6_digestReceiver_101 : decode cX6_digestReceiver 101 = .ok (.aload_n 0, 1) := by decide +kernel
theorem dX6_digestReceiver_102 : decode cX6_digestReceiver 102 = .ok (.iload_n 1, 1) := by decide +kernel
theorem dX6_digestReceiver_103 : decode cX6_digestReceiver 103 = .ok (.bipush 100, 2) := by decide +kernel
theorem dX6_digestReceiver_105 : decode cX6_digestReceiver 105 = .ok (.iconst 0, 1) := by decide +kernel
theorem dX6_digestReceiver_106 : decode cX6_digestReceiver 106 = .ok (.invokevirtual 160, 3) := by decide +kernel
theorem dX6_digestReceiver_109 : decode cX6_digestReceiver 109 = .ok (.i2l, 1) := by decide +kernel
theorem dX6_digestReceiver_110 : decode cX6_digestReceiver 110 = .ok (.invokevirtual 188, 3) := by decide +kernel
theorem dX6_digestReceiver_113 : decode cX6_digestReceiver 113 = .ok (.aload_n 0, 1) := by decide +kernel
theorem dX6_digestReceiver_114 : decode cX6_digestReceiver 114 = .ok (.aload_n 0, 1) := by decide +kernel
theorem dX6_digestReceiver_115 : decode cX6_digestReceiver 115 = .ok (.iload_n 1, 1) := by decide +kernel
theorem dX6_digestReceiver_116 : decode cX6_digestReceiver 116 = .ok (.bipush 100, 2) := by decide +kernel
theorem dX6_digestReceiver_118 : decode cX6_digestReceiver 118 = .ok (.iconst 1, 1) := by decide +kernel
theorem dX6_digestReceiver_119 : decode cX6_digestReceiver 119 = .ok (.invokevirtual 160, 3) := by decide +kernel
theorem dX6_digestReceiver_122 : decode cX6_digestReceiver 122 = .ok (.i2l, 1) := by decide +kernel
theorem dX6_digestReceiver_123 : decode cX6_digestReceiver 123 = .ok (.invokevirtual 188, 3) := by decide +kernel
theorem dX6_digestReceiver_126 : decode cX6_digestReceiver 126 = .ok (.aload_n 0, 1) := by decide +kernel
theorem dX6_digestReceiver_127 : decode cX6_digestReceiver 127 = .ok (.aload_n 0, 1) := by decide +kernel
theorem dX6_digestReceiver_128 : decode cX6_digestReceiver 128 = .ok (.iload_n 1, 1) := by decide +kernel
theorem dX6_digestReceiver_129 : decode cX6_digestReceiver 129 = .ok (.iconst 0, 1) := by decide +kernel
theorem dX6_digestReceiver_130 : decode cX6_digestReceiver 130 = .ok (.invokevirtual 163, 3) := by decide +kernel
theorem dX6_digestReceiver_133 : decode cX6_digestReceiver 133 = .ok (.i2l, 1) := by decide +kernel
theorem dX6_digestReceiver_134 : decode cX6_digestReceiver 134 = .ok (.invokevirtual 188, 3) := by decide +kernel
theorem dX6_digestReceiver_137 : decode cX6_digestReceiver 137 = .ok (.aload_n 0, 1) := by decide +kernel
theorem dX6_digestReceiver_138 : decode cX6_digestReceiver 138 = .ok (.aload_n 0, 1) := by decide +kernel
theorem dX6_digestReceiver_139 : decode cX6_digestReceiver 139 = .ok (.iload_n 1, 1) := by decide +kernel
theorem dX6_digestReceiver_140 : decode cX6_digestReceiver 140 = .ok (.iconst 5, 1) := by decide +kernel
theorem dX6_digestReceiver_141 : decode cX6_digestReceiver 141 = .ok (.iconst 0, 1) := by decide +kernel
theorem dX6_digestReceiver_142 : decode cX6_digestReceiver 142 = .ok (.invokevirtual 166, 3) := by decide +kernel
theorem dX6_digestReceiver_145 : decode cX6_digestReceiver 145 = .ok (.i2l, 1) := by decide +kernel
theorem dX6_digestReceiver_146 : decode cX6_digestReceiver 146 = .ok (.invokevirtual 188, 3) := by decide +kernel
theorem dX6_digestReceiver_149 : decode cX6_digestReceiver 149 = .ok (.aload_n 0, 1) := by decide +kernel
theorem dX6_digestReceiver_150 : decode cX6_digestReceiver 150 = .ok (.aload_n 0, 1) := by decide +kernel
theorem dX6_digestReceiver_151 : decode cX6_digestReceiver 151 = .ok (.iload_n 1, 1) := by decide +kernel
theorem dX6_digestReceiver_152 : decode cX6_digestReceiver 152 = .ok (.iconst 5, 1) := by decide +kernel
theorem dX6_digestReceiver_153 : decode cX6_digestReceiver 153 = .ok (.iconst 1, 1) := by decide +kernel
theorem dX6_digestReceiver_154 : decode cX6_digestReceiver 154 = .ok (.invokevirtual 166, 3) := by decide +kernel
theorem dX6_digestReceiver_157 : decode cX6_digestReceiver 157 = .ok (.i2l, 1) := by decide +kernel
theorem dX6_digestReceiver_158 : decode cX6_digestReceiver 158 = .ok (.invokevirtual 188, 3) := by decide +kernel
theorem dX6_digestReceiver_161 : decode cX6_digestReceiver 161 = .ok (.aload_n 0, 1) := by decide +kernel
theorem dX6_digestReceiver_162 : decode cX6_digestReceiver 162 = .ok (.aload_n 0, 1) := by decide +kernel
theorem dX6_digestReceiver_163 : decode cX6_digestReceiver 163 = .ok (.iload_n 1, 1) := by decide +kernel
theorem dX6_digestReceiver_164 : decode cX6_digestReceiver 164 = .ok (.invokevirtual 68, 3) := by decide +kernel
theorem dX6_digestReceiver_167 : decode cX6_digestReceiver 167 = .ok (.invokestatic 48, 3) := by decide +kernel
theorem dX6_digestReceiver_170 : decode cX6_digestReceiver 170 = .ok (.i2l, 1) := by decide +kernel
theorem dX6_digestReceiver_171 : decode cX6_digestReceiver 171 = .ok (.invokevirtual 188, 3) := by decide +kernel
theorem dX6_digestReceiver_174 : decode cX6_digestReceiver 174 = .ok (.aload_n 0, 1) := by decide +kernel
theorem dX6_digestReceiver_175 : decode cX6_digestReceiver 175 = .ok (.aload_n 0, 1) := by decide +kernel
theorem dX6_digestReceiver_176 : decode cX6_digestReceiver 176 = .ok (.iload_n 1, 1) := by decide +kernel
theorem dX6_digestReceiver_177 : decode cX6_digestReceiver 177 = .ok (.invokevirtual 170, 3) := by decide +kernel
theorem dX6_digestReceiver_180 : decode cX6_digestReceiver 180 = .ok (.invokestatic 192, 3) := by decide +kernel
theorem dX6_digestReceiver_183 : decode cX6_digestReceiver 183 = .ok (.invokevirtual 188, 3) := by decide +kernel
theorem dX6_digestReceiver_186 : decode cX6_digestReceiver 186 = .ok (.return_, 1) := by decide +kernel
set_option maxRecDepth 20000 in
theorem ggX6_digest_X6_counted : GoodIn wsX6_digest wsX6_counted := goodIn_r _ [11, 4, 12, 13, 14, 15, 10, 16, 17, 18, 19, 20, 21, 22, 23, 24, 25, 26, 27, 28, 29, 30, 31, 131, 132, 133, 134, 135, 136, 137, 138, 139, 140, 141] (by decide +kernel) (by decide +kernel)
set_option maxRecDepth 20000 in
theorem gX6_digest_X6_counted : GoodIn wsX6_digest (wsV RX6 151 RX6 yX6_counted wsX6_counted) := goodIn_app (goodIn_of _ (by decide +kernel)) ggX6_digest_X6_counted
set_option maxRecDepth 20000 in
theorem ggX6_digest_X6_digestOne : GoodIn wsX6_digest wsX6_digestOne := goodIn_r _ [35, 36, 3, 131, 132, 133, 134, 135, 136, 137, 138, 139, 140, 141] (by decide +kernel) (by decide +kernel)
set_option maxRecDepth 20000 in
theorem gX6_digest_X6_digestOne : GoodIn wsX6_digest (wsV RX6 188 RX6 yX6_digestOne wsX6_digestOne) := goodIn_app (goodIn_of _ (by decide +kernel)) ggX6_digest_X6_digestOne
set_option maxRecDepth 20000 in
theorem ggX6_digest_X6_digestReceiver : GoodIn wsX6_digest wsX6_digestReceiver := goodIn_r _ [40, 4, 41, 42, 43, 10, 44, 17, 18, 19, 45, 46, 47, 20, 21, 22, 23, 24, 25, 26, 27, 48, 49, 50, 51, 52, 53, 54, 55, 56, 57, 58, 59, 32, 33, 34, 35, 36, 3, 60, 61, 62, 63, 64, 65, 66, 67, 28, 29, 30, 31, 68, 69, 70, 71, 72, 73, 74, 75, 76, 77, 78, 79, 80, 81, 82, 83, 84, 85, 86, 87, 88, 89, 90, 91, 92, 93, 94, 95, 96, 97, 98, 99, 100, 101, 102, 103, 104, 105, 106, 107, 108, 109, 110, 111, 112, 113, 114, 115, 116, 117, 118, 119, 120, 121, 122, 123, 124, 125, 126, 127, 128, 129, 130, 131, 132, 133, 134, 135, 136, 137, 138, 139, 140, 141] (by decide +kernel) (by decide +kernel)
set_option maxRecDepth 20000 in
theorem gX6_digest_X6_digestReceiver : GoodIn wsX6_digest (wsV RX6 198 RX6 yX6_digestReceiver wsX6_digestReceiver) := goodIn_app (goodIn_of _ (by decide +kernel)) ggX6_digest_X6_digestReceiver
theorem dX6_digest_0 : decode cX6_digest 0 = .ok (.aload_n 0, 1) := by decide +kernel
theorem dX6_digest_1 : decode cX6_digest 1 = .ok (.iconst 0, 1) := by decide +kernel
theorem dX6_digest_2 : decode cX6_digest 2 = .ok (.putfield 25, 3) := by decide +kernel
theorem dX6_digest_5 : decode cX6_digest 5 = .ok (.aload_n 0, 1) := by decide +kernel
theorem dX6_digest_6 : decode cX6_digest 6 = .ok (.ldc2_w 196, 3) := by decide +kernel
theorem dX6_digest_9 : decode cX6_digest 9 = .ok (.putfield 184, 3) := by decide +kernel
theorem dX6_digest_12 : decode cX6_digest 12 = .ok (.iconst 0, 1) := by decide +kernel
theorem dX6_digest_13 : decode cX6_digest 13 = .ok (.istore_n 1, 1) := by decide +kernel
theorem dX6_digest_14 : decode cX6_digest 14 = .ok (.iload_n 1, 1) := by decide +kernel
theorem dX6_digest_15 : decode cX6_digest 15 = .ok (.bipush 6, 2) := by decide +kernel
theorem dX6_digest_17 : decode cX6_digest 17 = .ok (.if_icmp .ge 19, 3) := by decide +kernel
theorem dX6_digest_20 : decode cX6_digest 20 = .ok (.aload_n 0, 1) := by decide +kernel
theorem dX6_digest_21 : decode cX6_digest 21 = .ok (.aload_n 0, 1) := by decide +kernel
theorem dX6_digest_22 : decode cX6_digest 22 = .ok (.iload_n 1, 1) := by decide +kernel
theorem dX6_digest_23 : decode cX6_digest 23 = .ok (.invokevirtual 151, 3) := by decide +kernel
theorem dX6_digest_26 : decode cX6_digest 26 = .ok (.i2l, 1) := by decide +kernel
theorem dX6_digest_27 : decode cX6_digest 27 = .ok (.invokevirtual 188, 3) := by decide +kernel
theorem dX6_digest_30 : decode cX6_digest 30 = .ok (.iinc 1 1, 3) := by decide +kernel
theorem dX6_digest_33 : decode cX6_digest 33 = .ok (.goto (-19), 3) := by decide +kernel
theorem dX6_digest_36 : decode cX6_digest 36 = .ok (.iconst 0, 1) := by decide +kernel
theorem dX6_digest_37 : decode cX6_digest 37 = .ok (.istore_n 1, 1) := by decide +kernel
theorem dX6_digest_38 : decode cX6_digest 38 = .ok (.iload_n 1, 1) := by decide +kernel
theorem dX6_digest_39 : decode cX6_digest 39 = .ok (.aload_n 0, 1) := by decide +kernel
theorem dX6_digest_40 : decode cX6_digest 40 = .ok (.getfield 7, 3) := by decide +kernel
theorem dX6_digest_43 : decode cX6_digest 43 = .ok (.iconst 0, 1) := by decide +kernel
theorem dX6_digest_44 : decode cX6_digest 44 = .ok (.iaload, 1) := by decide +kernel
theorem dX6_digest_45 : decode cX6_digest 45 = .ok (.if_icmp .ge 22, 3) := by decide +kernel
theorem dX6_digest_48 : decode cX6_digest 48 = .ok (.aload_n 0, 1) := by decide +kernel
theorem dX6_digest_49 : decode cX6_digest 49 = .ok (.aload_n 0, 1) := by decide +kernel
theorem dX6_digest_50 : decode cX6_digest 50 = .ok (.getfield 7, 3) := by decide +kernel
theorem dX6_digest_53 : decode cX6_digest 53 = .ok (.iconst 2, 1) := by decide +kernel
theorem dX6_digest_54 : decode cX6_digest 54 = .ok (.iload_n 1, 1) := by decide +kernel
theorem dX6_digest_55 : decode cX6_digest 55 = .ok (.iadd, 1) := by decide +kernel
theorem dX6_digest_56 : decode cX6_digest 56 = .ok (.iaload, 1) := by decide +kernel
theorem dX6_digest_57 : decode cX6_digest 57 = .ok (.i2l, 1) := by decide +kernel
theorem dX6_digest_58 : decode cX6_digest 58 = .ok (.invokevirtual 188, 3) := by decide +kernel
theorem dX6_digest_61 : decode cX6_digest 61 = .ok (.iinc 1 1, 3) := by decide +kernel
theorem dX6_digest_64 : decode cX6_digest 64 = .ok (.goto (-26), 3) := by decide +kernel
theorem dX6_digest_67 : decode cX6_digest 67 = .ok (.iconst 0, 1) := by decide +kernel
theorem dX6_digest_68 : decode cX6_digest 68 = .ok (.istore_n 1, 1) := by decide +kernel
theorem dX6_digest_69 : decode cX6_digest 69 = .ok (.iload_n 1, 1) := by decide +kernel
theorem dX6_digest_70 : decode cX6_digest 70 = .ok (.iconst 3, 1) := by decide +kernel
theorem dX6_digest_71 : decode cX6_digest 71 = .ok (.if_icmp .ge 14, 3) := by decide +kernel
theorem dX6_digest_74 : decode cX6_digest 74 = .ok (.aload_n 0, 1) := by decide +kernel
theorem dX6_digest_75 : decode cX6_digest 75 = .ok (.iload_n 1, 1) := by decide +kernel
theorem dX6_digest_76 : decode cX6_digest 76 = .ok (.invokevirtual 198, 3) := by decide +kernel
theorem dX6_digest_79 : decode cX6_digest 79 = .ok (.iinc 1 1, 3) := by decide +kernel
theorem dX6_digest_82 : decode cX6_digest 82 = .ok (.goto (-13), 3) := by decide +kernel
theorem dX6_digest_85 : decode cX6_digest 85 = .ok (.aload_n 0, 1) := by decide +kernel
theorem dX6_digest_86 : decode cX6_digest 86 = .ok (.aload_n 0, 1) := by decide +kernel
theorem dX6_digest_87 : decode cX6_digest 87 = .ok (.getfield 106, 3) := by decide +kernel
theorem dX6_digest_90 : decode cX6_digest 90 = .ok (.i2l, 1) := by decide +kernel
theorem dX6_digest_91 : decode cX6_digest 91 = .ok (.invokevirtual 188, 3) := by decide +kernel
theorem dX6_digest_94 : decode cX6_digest 94 = .ok (.iconst 0, 1) := by decide +kernel
theorem dX6_digest_95 : decode cX6_digest 95 = .ok (.istore_n 1, 1) := by decide +kernel
theorem dX6_digest_96 : decode cX6_digest 96 = .ok (.iload_n 1, 1) := by decide +kernel
theorem dX6_digest_97 : decode cX6_digest 97 = .ok (.aload_n 0, 1) := by decide +kernel
theorem dX6_digest_98 : decode cX6_digest 98 = .ok (.getfield 106, 3) := by decide +kernel
theorem dX6_digest_101 : decode cX6_digest 101 = .ok (.if_icmp .ge 20, 3) := by decide +kernel
theorem dX6_digest_104 : decode cX6_digest 104 = .ok (.aload_n 0, 1) := by decide +kernel
theorem dX6_digest_105 : decode cX6_digest 105 = .ok (.aload_n 0, 1) := by decide +kernel
theorem dX6_digest_106 : decode cX6_digest 106 = .ok (.getfield 19, 3) := by decide +kernel
theorem dX6_digest_109 : decode cX6_digest 109 = .ok (.iload_n 1, 1) := by decide +kernel
theorem dX6_digest_110 : decode cX6_digest 110 = .ok (.iaload, 1) := by decide +kernel
theorem dX6_digest_111 : decode cX6_digest 111 = .ok (.i2l, 1) := by decide +kernel
theorem dX6_digest_112 : decode cX6_digest 112 = .ok (.invokevirtual 188, 3) := by decide +kernel
theorem dX6_digest_115 : decode cX6_digest 115 = .ok (.iinc 1 1, 3) := by decide +kernel
theorem dX6_digest_118 : decode cX6_digest 118 = .ok (.goto (-22), 3) := by decide +kernel
theorem dX6_digest_121 : decode cX6_digest 121 = .ok (.aload_n 0, 1) := by decide +kernel
theorem dX6_digest_122 : decode cX6_digest 122 = .ok (.getfield 184, 3) := by decide +kernel
theorem dX6_digest_125 : decode cX6_digest 125 = .ok (.lreturn, 1) := by decide +kernel
