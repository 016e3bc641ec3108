theorem dX0_init_0 : decode cX0_init 0 = .ok (.aload_n 0, 1) := by decide +kernel
theorem dX0_init_1 : decode cX0_init 1 = .ok (.invokespecial 3, 3) := by decide +kernel
theorem dX0_init_4 : decode cX0_init 4 = .ok (.aload_n 0, 1) := by decide +kernel
theorem dX0_init_5 : decode cX0_init 5 = .ok (.sipush 1000, 3) := by decide +kernel
theorem dX0_init_8 : decode cX0_init 8 = .ok (.putfield 9, 3) := by decide +kernel
theorem dX0_init_11 : decode cX0_init 11 = .ok (.return_, 1) := by decide +kernel
set_option maxRecDepth 20000 in
theorem ggX1_init_X2_init : GoodIn wsX1_init wsX2_init := goodIn_r _ [6, 7, 8, 9, 10, 11, 12, 13, 14, 15, 16, 17, 18, 19, 20, 21, 22, 23] (by decide +kernel) (by decide +kernel)
set_option maxRecDepth 20000 in
theorem gX1_init_X2_init : GoodIn wsX1_init (wsX2_init) := ggX1_init_X2_init
theorem dX1_init_0 : decode cX1_init 0 = .ok (.aload_n 0, 1) := by decide +kernel
theorem dX1_init_1 : decode cX1_init 1 = .ok (.aload_n 1, 1) := by decide +kernel
theorem dX1_init_2 : decode cX1_init 2 = .ok (.invokespecial 3, 3) := by decide +kernel
theorem dX1_init_5 : decode cX1_init 5 = .ok (.aload_n 0, 1) := by decide +kernel
theorem dX1_init_6 : decode cX1_init 6 = .ok (.aload_n 2, 1) := by decide +kernel
theorem dX1_init_7 : decode cX1_init 7 = .ok (.putfield 9, 3) := by decide +kernel
theorem dX1_init_10 : decode cX1_init 10 = .ok (.aload_n 0, 1) := by decide +kernel
theorem dX1_init_11 : decode cX1_init 11 = .ok (.iload_n 3, 1) := by decide +kernel
theorem dX1_init_12 : decode cX1_init 12 = .ok (.putfield 15, 3) := by decide +kernel
theorem dX1_init_15 : decode cX1_init 15 = .ok (.return_, 1) := by decide +kernel
set_option maxRecDepth 20000 in
theorem ggX1_rawLight_X10_quotient : GoodIn wsX1_rawLight wsX10_quotient := goodIn_r _ [7, 8, 9, 10, 11] (by decide +kernel) (by decide +kernel)
set_option maxRecDepth 20000 in
theorem gX1_rawLight_X10_quotient_n27 : GoodIn wsX1_rawLight (wsX10_quotient) := ggX1_rawLight_X10_quotient
theorem dX1_rawLight_0 : decode cX1_rawLight 0 = .ok (.aload_n 0, 1) := by decide +kernel
theorem dX1_rawLight_1 : decode cX1_rawLight 1 = .ok (.getfield 9, 3) := by decide +kernel
theorem dX1_rawLight_4 : decode cX1_rawLight 4 = .ok (.getfield 19, 3) := by decide +kernel
theorem dX1_rawLight_7 : decode cX1_rawLight 7 = .ok (.aload_n 0, 1) := by decide +kernel
theorem dX1_rawLight_8 : decode cX1_rawLight 8 = .ok (.getfield 15, 3) := by decide +kernel
theorem dX1_rawLight_11 : decode cX1_rawLight 11 = .ok (.aload_n 0, 1) := by decide +kernel
theorem dX1_rawLight_12 : decode cX1_rawLight 12 = .ok (.getfield 9, 3) := by decide +kernel
theorem dX1_rawLight_15 : decode cX1_rawLight 15 = .ok (.getfield 24, 3) := by decide +kernel
theorem dX1_rawLight_18 : decode cX1_rawLight 18 = .ok (.imul, 1) := by decide +kernel
theorem dX1_rawLight_19 : decode cX1_rawLight 19 = .ok (.bipush 10, 2) := by decide +kernel
theorem dX1_rawLight_21 : decode cX1_rawLight 21 = .ok (.invokestatic 27, 3) := by decide +kernel
theorem dX1_rawLight_24 : decode cX1_rawLight 24 = .ok (.isub, 1) := by decide +kernel
theorem dX1_rawLight_25 : decode cX1_rawLight 25 = .ok (.ireturn, 1) := by decide +kernel
set_option maxRecDepth 20000 in
theorem ggX1_trueLight_X1_rawLight : GoodIn wsX1_trueLight wsX1_rawLight := goodIn_r _ [5, 6, 7, 8, 9, 10, 11, 12, 13, 14, 15, 16, 17, 18, 19, 20, 21, 22, 23] (by decide +kernel) (by decide +kernel)
set_option maxRecDepth 20000 in
theorem gX1_trueLight_X1_rawLight : GoodIn wsX1_trueLight (wsV RX1 31 RX1 yX1_rawLight wsX1_rawLight) := goodIn_app (goodIn_of _ (by decide +kernel)) ggX1_trueLight_X1_rawLight
theorem dX1_trueLight_0 : decode cX1_trueLight 0 = .ok (.aload_n 0, 1) := by decide +kernel
theorem dX1_trueLight_1 : decode cX1_trueLight 1 = .ok (.invokevirtual 31, 3) := by decide +kernel
theorem dX1_trueLight_4 : decode cX1_trueLight 4 = .ok (.ireturn, 1) := by decide +kernel
set_option maxRecDepth 20000 in
theorem ggX1_trueTime_X7_arrival : GoodIn wsX1_trueTime wsX7_arrival := goodIn_r _ [9, 10, 11, 12, 13, 14, 15, 16, 17, 18, 19, 20, 21, 22, 23, 24, 25, 26, 42, 43, 44, 45, 46] (by decide +kernel) (by decide +kernel)
set_option maxRecDepth 20000 in
theorem gX1_trueTime_X7_arrival : GoodIn wsX1_trueTime (wsV RX1 42 RX7 yX7_arrival wsX7_arrival) := goodIn_app (goodIn_of _ (by decide +kernel)) ggX1_trueTime_X7_arrival
theorem dX1_trueTime_0 : decode cX1_trueTime 0 = .ok (.aload_n 0, 1) := by decide +kernel
theorem dX1_trueTime_1 : decode cX1_trueTime 1 = .ok (.getfield 35, 3) := by decide +kernel
theorem dX1_trueTime_4 : decode cX1_trueTime 4 = .ok (.aload_n 0, 1) := by decide +kernel
theorem dX1_trueTime_5 : decode cX1_trueTime 5 = .ok (.getfield 9, 3) := by decide +kernel
theorem dX1_trueTime_8 : decode cX1_trueTime 8 = .ok (.getfield 39, 3) := by decide +kernel
theorem dX1_trueTime_11 : decode cX1_trueTime 11 = .ok (.invokevirtual 42, 3) := by decide +kernel
theorem dX1_trueTime_14 : decode cX1_trueTime 14 = .ok (.ireturn, 1) := by decide +kernel
theorem dX1_sort_0 : decode cX1_sort 0 = .ok (.iconst 1, 1) := by decide +kernel
theorem dX1_sort_1 : decode cX1_sort 1 = .ok (.ireturn, 1) := by decide +kernel
theorem dX2_init_0 : decode cX2_init 0 = .ok (.aload_n 0, 1) := by decide +kernel
theorem dX2_init_1 : decode cX2_init 1 = .ok (.invokespecial 1, 3) := by decide +kernel
theorem dX2_init_4 : decode cX2_init 4 = .ok (.aload_n 0, 1) := by decide +kernel
theorem dX2_init_5 : decode cX2_init 5 = .ok (.iconst 0, 1) := by decide +kernel
theorem dX2_init_6 : decode cX2_init 6 = .ok (.putfield 7, 3) := by decide +kernel
theorem dX2_init_9 : decode cX2_init 9 = .ok (.aload_n 0, 1) := by decide +kernel
theorem dX2_init_10 : decode cX2_init 10 = .ok (.aload_n 1, 1) := by decide +kernel
theorem dX2_init_11 : decode cX2_init 11 = .ok (.putfield 13, 3) := by decide +kernel
theorem dX2_init_14 : decode cX2_init 14 = .ok (.return_, 1) := by decide +kernel
theorem dX3_init_0 : decode cX3_init 0 = .ok (.aload_n 0, 1) := by decide +kernel
theorem dX3_init_1 : decode cX3_init 1 = .ok (.invokespecial 1, 3) := by decide +kernel
theorem dX3_init_4 : decode cX3_init 4 = .ok (.aload_n 0, 1) := by decide +kernel
theorem dX3_init_5 : decode cX3_init 5 = .ok (.aload_n 1, 1) := by decide +kernel
theorem dX3_init_6 : decode cX3_init 6 = .ok (.putfield 7, 3) := by decide +kernel
theorem dX3_init_9 : decode cX3_init 9 = .ok (.aload_n 0, 1) := by decide +kernel
theorem dX3_init_10 : decode cX3_init 10 = .ok (.iload_n 2, 1) := by decide +kernel
theorem dX3_init_11 : decode cX3_init 11 = .ok (.putfield 13, 3) := by decide +kernel
theorem dX3_init_14 : decode cX3_init 14 = .ok (.return_, 1) := by decide +kernel
theorem dX4_init_0 : decode cX4_init 0 = .ok (.aload_n 0, 1) := by decide +kernel
theorem dX4_init_1 : decode cX4_init 1 = .ok (.invokespecial 1, 3) := by decide +kernel
theorem dX4_init_4 : decode cX4_init 4 = .ok (.aload_n 0, 1) := by decide +kernel
theorem dX4_init_5 : decode cX4_init 5 = .ok (.iload_n 1, 1) := by decide +kernel
theorem dX4_init_6 : decode cX4_init 6 = .ok (.putfield 7, 3) := by decide +kernel
theorem dX4_init_9 : decode cX4_init 9 = .ok (.aload_n 0, 1) := by decide +kernel
theorem dX4_init_10 : decode cX4_init 10 = .ok (.iload_n 2, 1) := by decide +kernel
theorem dX4_init_11 : decode cX4_init 11 = .ok (.putfield 13, 3) := by decide +kernel
theorem dX4_init_14 : decode cX4_init 14 = .ok (.aload_n 0, 1) := by decide +kernel
theorem dX4_init_15 : decode cX4_init 15 = .ok (.iload_n 3, 1) := by decide +kernel
theorem dX4_init_16 : decode cX4_init 16 = .ok (.putfield 16, 3) := by decide +kernel
theorem dX4_init_19 : decode cX4_init 19 = .ok (.return_, 1) := by decide +kernel
theorem dX5_init_0 : decode cX5_init 0 = .ok (.aload_n 0, 1) := by decide +kernel
theorem dX5_init_1 : decode cX5_init 1 = .ok (.invokespecial 1, 3) := by decide +kernel
theorem dX5_init_4 : decode cX5_init 4 = .ok (.aload_n 0, 1) := by decide +kernel
theorem dX5_init_5 : decode cX5_init 5 = .ok (.iconst 0, 1) := by decide +kernel
theorem dX5_init_6 : decode cX5_init 6 = .ok (.putfield 7, 3) := by decide +kernel
theorem dX5_init_9 : decode cX5_init 9 = .ok (.iload_n 1, 1) := by decide +kernel
theorem dX5_init_10 : decode cX5_init 10 = .ok (.iconst 0, 1) := by decide +kernel
theorem dX5_init_11 : decode cX5_init 11 = .ok (.invokestatic 13, 3) := by decide +kernel
theorem dX5_init_14 : decode cX5_init 14 = .ok (.istore_n 2, 1) := by decide +kernel
theorem dX5_init_15 : decode cX5_init 15 = .ok (.aload_n 0, 1) := by decide +kernel
theorem dX5_init_16 : decode cX5_init 16 = .ok (.iload_n 2, 1) := by decide +kernel
theorem dX5_init_17 : decode cX5_init 17 = .ok (.newarray .int, 2) := by decide +kernel
theorem dX5_init_19 : decode cX5_init 19 = .ok (.putfield 19, 3) := by decide +kernel
theorem dX5_init_22 : decode cX5_init 22 = .ok (.aload_n 0, 1) := by decide +kernel
theorem dX5_init_23 : decode cX5_init 23 = .ok (.iload_n 2, 1) := by decide +kernel
theorem dX5_init_24 : decode cX5_init 24 = .ok (.newarray .int, 2) := by decide +kernel
theorem dX5_init_26 : decode cX5_init 26 = .ok (.putfield 23, 3) := by decide +kernel
theorem dX5_init_29 : decode cX5_init 29 = .ok (.return_, 1) := by decide +kernel
theorem dX5_clear_0 : decode cX5_clear 0 = .ok (.aload_n 0, 1) := by decide +kernel
theorem dX5_clear_1 : decode cX5_clear 1 = .ok (.iconst 0, 1) := by decide +kernel
theorem dX5_clear_2 : decode cX5_clear 2 = .ok (.putfield 7, 3) := by decide +kernel
theorem dX5_clear_5 : decode cX5_clear 5 = .ok (.return_, 1) := by decide +kernel
theorem dX5_size_0 : decode cX5_size 0 = .ok (.aload_n 0, 1) := by decide +kernel
theorem dX5_size_1 : decode cX5_size 1 = .ok (.getfield 7, 3) := by decide +kernel
theorem dX5_size_4 : decode cX5_size 4 = .ok (.ireturn, 1) := by decide +kernel
theorem dX5_key_0 : decode cX5_key 0 = .ok (.iload_n 1, 1) := by decide +kernel
theorem dX5_key_1 : decode cX5_key 1 = .ok (.ifCond .lt 20, 3) := by decide +kernel
theorem dX5_key_4 : decode cX5_key 4 = .ok (.iload_n 1, 1) := by decide +kernel
theorem dX5_key_5 : decode cX5_key 5 = .ok (.aload_n 0, 1) := by decide +kernel
theorem dX5_key_6 : decode cX5_key 6 = .ok (.getfield 7, 3) := by decide +kernel
theorem dX5_key_9 : decode cX5_key 9 = .ok (.if_icmp .ge 12, 3) := by decide +kernel
theorem dX5_key_12 : decode cX5_key 12 = .ok (.aload_n 0, 1) := by decide +kernel
theorem dX5_key_13 : decode cX5_key 13 = .ok (.getfield 19, 3) := by decide +kernel
theorem dX5_key_16 : decode cX5_key 16 = .ok (.iload_n 1, 1) := by decide +kernel
theorem dX5_key_17 : decode cX5_key 17 = .ok (.iaload, 1) := by decide +kernel
theorem dX5_key_18 : decode cX5_key 18 = .ok (.goto 4, 3) := by decide +kernel
theorem dX5_key_21 : decode cX5_key 21 = .ok (.iconst 0, 1) := by decide +kernel
theorem dX5_key_22 : decode cX5_key 22 = .ok (.ireturn, 1) := by decide +kernel
theorem dX5_value_0 : decode cX5_value 0 = .ok (.iload_n 1, 1) := by decide +kernel
theorem dX5_value_1 : decode cX5_value 1 = .ok (.ifCond .lt 20, 3) := by decide +kernel
theorem dX5_value_4 : decode cX5_value 4 = .ok (.iload_n 1, 1) := by decide +kernel
theorem dX5_value_5 : decode cX5_value 5 = .ok (.aload_n 0, 1) := by decide +kernel
theorem dX5_value_6 : decode cX5_value 6 = .ok (.getfield 7, 3) := by decide +kernel
theorem dX5_value_9 : decode cX5_value 9 = .ok (.if_icmp .ge 12, 3) := by decide +kernel
theorem dX5_value_12 : decode cX5_value 12 = .ok (.aload_n 0, 1) := by decide +kernel
theorem dX5_value_13 : decode cX5_value 13 = .ok (.getfield 23, 3) := by decide +kernel
theorem dX5_value_16 : decode cX5_value 16 = .ok (.iload_n 1, 1) := by decide +kernel
theorem dX5_value_17 : decode cX5_value 17 = .ok (.iaload, 1) := by decide +kernel
theorem dX5_value_18 : decode cX5_value 18 = .ok (.goto 4, 3) := by decide +kernel
theorem dX5_value_21 : decode cX5_value 21 = .ok (.iconst 0, 1) := by decide +kernel
theorem dX5_value_22 : decode cX5_value 22 = .ok (.ireturn, 1) := by decide +kernel
set_option maxRecDepth 20000 in
theorem ggX5_add_X5_placeBehind : GoodIn wsX5_add wsX5_placeBehind := goodIn_r _ [12, 1, 2, 13, 14, 15] (by decide +kernel) (by decide +kernel)
set_option maxRecDepth 20000 in
theorem gX5_add_X5_placeBehind : GoodIn wsX5_add (wsV RX5 26 RX5 yX5_placeBehind wsX5_placeBehind) := goodIn_app (goodIn_of _ (by decide +kernel)) ggX5_add_X5_placeBehind
theorem dX5_add_0 : decode cX5_add 0 = .ok (.aload_n 0, 1) := by decide +kernel
theorem dX5_add_1 : decode cX5_add 1 = .ok (.getfield 7, 3) := by decide +kernel
theorem dX5_add_4 : decode cX5_add 4 = .ok (.aload_n 0, 1) := by decide +kernel
theorem dX5_add_5 : decode cX5_add 5 = .ok (.getfield 19, 3) := by decide +kernel
theorem dX5_add_8 : decode cX5_add 8 = .ok (.arraylength, 1) := by decide +kernel
theorem dX5_add_9 : decode cX5_add 9 = .ok (.if_icmp .lt 4, 3) := by decide +kernel
theorem dX5_add_12 : decode cX5_add 12 = .ok (.return_, 1) := by decide +kernel
theorem dX5_add_13 : decode cX5_add 13 = .ok (.aload_n 0, 1) := by decide +kernel
theorem dX5_add_14 : decode cX5_add 14 = .ok (.iload_n 1, 1) := by decide +kernel
theorem dX5_add_15 : decode cX5_add 15 = .ok (.invokevirtual 26, 3) := by decide +kernel
theorem dX5_add_18 : decode cX5_add 18 = .ok (.istore_n 3, 1) := by decide +kernel
theorem dX5_add_19 : decode cX5_add 19 = .ok (.aload_n 0, 1) := by decide +kernel
theorem dX5_add_20 : decode cX5_add 20 = .ok (.getfield 19, 3) := by decide +kernel
theorem dX5_add_23 : decode cX5_add 23 = .ok (.iload_n 3, 1) := by decide +kernel
theorem dX5_add_24 : decode cX5_add 24 = .ok (.aload_n 0, 1) := by decide +kernel
theorem dX5_add_25 : decode cX5_add 25 = .ok (.getfield 19, 3) := by decide +kernel
theorem dX5_add_28 : decode cX5_add 28 = .ok (.iload_n 3, 1) := by decide +kernel
theorem dX5_add_29 : decode cX5_add 29 = .ok (.iconst 1, 1) := by decide +kernel
theorem dX5_add_30 : decode cX5_add 30 = .ok (.iadd, 1) := by decide +kernel
theorem dX5_add_31 : decode cX5_add 31 = .ok (.aload_n 0, 1) := by decide +kernel
theorem dX5_add_32 : decode cX5_add 32 = .ok (.getfield 7, 3) := by decide +kernel
theorem dX5_add_35 : decode cX5_add 35 = .ok (.iload_n 3, 1) := by decide +kernel
theorem dX5_add_36 : decode cX5_add 36 = .ok (.isub, 1) := by decide +kernel
theorem dX5_add_37 : decode cX5_add 37 = .ok (.invokestatic 30, 3) := by decide +kernel
theorem dX5_add_40 : decode cX5_add 40 = .ok (.aload_n 0, 1) := by decide +kernel
theorem dX5_add_41 : decode cX5_add 41 = .ok (.getfield 23, 3) := by decide +kernel
theorem dX5_add_44 : decode cX5_add 44 = .ok (.iload_n 3, 1) := by decide +kernel
theorem dX5_add_45 : decode cX5_add 45 = .ok (.aload_n 0, 1) := by decide +kernel
theorem dX5_add_46 : decode cX5_add 46 = .ok (.getfield 23, 3) := by decide +kernel
theorem dX5_add_49 : decode cX5_add 49 = .ok (.iload_n 3, 1) := by decide +kernel
theorem dX5_add_50 : decode cX5_add 50 = .ok (.iconst 1, 1) := by decide +kernel
theorem dX5_add_51 : decode cX5_add 51 = .ok (.iadd, 1) := by decide +kernel
theorem dX5_add_52 : decode cX5_add 52 = .ok (.aload_n 0, 1) := by decide +kernel
theorem dX5_add_53 : decode cX5_add 53 = .ok (.getfield 7, 3) := by decide +kernel
theorem dX5_add_56 : decode cX5_add 56 = .ok (.iload_n 3, 1) := by decide +kernel
theorem dX5_add_57 : decode cX5_add 57 = .ok (.isub, 1) := by decide +kernel
theorem dX5_add_58 : decode cX5_add 58 = .ok (.invokestatic 30, 3) := by decide +kernel
theorem dX5_add_61 : decode cX5_add 61 = .ok (.aload_n 0, 1) := by decide +kernel
theorem dX5_add_62 : decode cX5_add 62 = .ok (.getfield 19, 3) := by decide +kernel
theorem dX5_add_65 : decode cX5_add 65 = .ok (.iload_n 3, 1) := by decide +kernel
theorem dX5_add_66 : decode cX5_add 66 = .ok (.iload_n 1, 1) := by decide +kernel
theorem dX5_add_67 : decode cX5_add 67 = .ok (.iastore, 1) := by decide +kernel
theorem dX5_add_68 : decode cX5_add 68 = .ok (.aload_n 0, 1) := by decide +kernel
theorem dX5_add_69 : decode cX5_add 69 = .ok (.getfield 23, 3) := by decide +kernel
theorem dX5_add_72 : decode cX5_add 72 = .ok (.iload_n 3, 1) := by decide +kernel
theorem dX5_add_73 : decode cX5_add 73 = .ok (.iload_n 2, 1) := by decide +kernel
theorem dX5_add_74 : decode cX5_add 74 = .ok (.iastore, 1) := by decide +kernel
theorem dX5_add_75 : decode cX5_add 75 = .ok (.aload_n 0, 1) := by decide +kernel
theorem dX5_add_76 : decode cX5_add 76 = .ok (.dup, 1) := by decide +kernel
theorem dX5_add_77 : decode cX5_add 77 = .ok (.getfield 7, 3) := by decide +kernel
theorem dX5_add_80 : decode cX5_add 80 = .ok (.iconst 1, 1) := by decide +kernel
theorem dX5_add_81 : decode cX5_add 81 = .ok (.iadd, 1) := by decide +kernel
theorem dX5_add_82 : decode cX5_add 82 = .ok (.putfield 7, 3) := by decide +kernel
theorem dX5_add_85 : decode cX5_add 85 = .ok (.return_, 1) := by decide +kernel
theorem dX5_placeBehind_0 : decode cX5_placeBehind 0 = .ok (.iconst 0, 1) := by decide +kernel
theorem dX5_placeBehind_1 : decode cX5_placeBehind 1 = .ok (.istore_n 2, 1) := by decide +kernel
theorem dX5_placeBehind_2 : decode cX5_placeBehind 2 = .ok (.aload_n 0, 1) := by decide +kernel
theorem dX5_placeBehind_3 : decode cX5_placeBehind 3 = .ok (.getfield 7, 3) := by decide +kernel
theorem dX5_placeBehind_6 : decode cX5_placeBehind 6 = .ok (.istore_n 3, 1) := by decide +kernel
theorem dX5_placeBehind_7 : decode cX5_placeBehind 7 = .ok (.iconst 0, 1) := by decide +kernel
theorem dX5_placeBehind_8 : decode cX5_placeBehind 8 = .ok (.istore 4, 2) := by decide +kernel
theorem dX5_placeBehind_10 : decode cX5_placeBehind 10 = .ok (.iload 4, 2) := by decide +kernel
theorem dX5_placeBehind_12 : decode cX5_placeBehind 12 = .ok (.aload_n 0, 1) := by decide +kernel
theorem dX5_placeBehind_13 : decode cX5_placeBehind 13 = .ok (.getfield 7, 3) := by decide +kernel
theorem dX5_placeBehind_16 : decode cX5_placeBehind 16 = .ok (.if_icmp .ge 43, 3) := by decide +kernel
theorem dX5_placeBehind_19 : decode cX5_placeBehind 19 = .ok (.iload_n 2, 1) := by decide +kernel
theorem dX5_placeBehind_20 : decode cX5_placeBehind 20 = .ok (.iload_n 3, 1) := by decide +kernel
theorem dX5_placeBehind_21 : decode cX5_placeBehind 21 = .ok (.if_icmp .ge 38, 3) := by decide +kernel
theorem dX5_placeBehind_24 : decode cX5_placeBehind 24 = .ok (.iload_n 2, 1) := by decide +kernel
theorem dX5_placeBehind_25 : decode cX5_placeBehind 25 = .ok (.iload_n 3, 1) := by decide +kernel
theorem dX5_placeBehind_26 : decode cX5_placeBehind 26 = .ok (.iadd, 1) := by decide +kernel
theorem dX5_placeBehind_27 : decode cX5_placeBehind 27 = .ok (.iconst 2, 1) := by decide +kernel
theorem dX5_placeBehind_28 : decode cX5_placeBehind 28 = .ok (.idiv, 1) := by decide +kernel
theorem dX5_placeBehind_29 : decode cX5_placeBehind 29 = .ok (.istore 5, 2) := by decide +kernel
theorem dX5_placeBehind_31 : decode cX5_placeBehind 31 = .ok (.aload_n 0, 1) := by decide +kernel
theorem dX5_placeBehind_32 : decode cX5_placeBehind 32 = .ok (.getfield 19, 3) := by decide +kernel
theorem dX5_placeBehind_35 : decode cX5_placeBehind 35 = .ok (.iload 5, 2) := by decide +kernel
theorem dX5_placeBehind_37 : decode cX5_placeBehind 37 = .ok (.iaload, 1) := by decide +kernel
theorem dX5_placeBehind_38 : decode cX5_placeBehind 38 = .ok (.iload_n 1, 1) := by decide +kernel
theorem dX5_placeBehind_39 : decode cX5_placeBehind 39 = .ok (.if_icmp .gt 11, 3) := by decide +kernel
theorem dX5_placeBehind_42 : decode cX5_placeBehind 42 = .ok (.iload 5, 2) := by decide +kernel
theorem dX5_placeBehind_44 : decode cX5_placeBehind 44 = .ok (.iconst 1, 1) := by decide +kernel
theorem dX5_placeBehind_45 : decode cX5_placeBehind 45 = .ok (.iadd, 1) := by decide +kernel
theorem dX5_placeBehind_46 : decode cX5_placeBehind 46 = .ok (.istore_n 2, 1) := by decide +kernel
theorem dX5_placeBehind_47 : decode cX5_placeBehind 47 = .ok (.goto 6, 3) := by decide +kernel
theorem dX5_placeBehind_50 : decode cX5_placeBehind 50 = .ok (.iload 5, 2) := by decide +kernel
theorem dX5_placeBehind_52 : decode cX5_placeBehind 52 = .ok (.istore_n 3, 1) := by decide +kernel
theorem dX5_placeBehind_53 : decode cX5_placeBehind 53 = .ok (.iinc 4 1, 3) := by decide +kernel
theorem dX5_placeBehind_56 : decode cX5_placeBehind 56 = .ok (.goto (-46), 3) := by decide +kernel
theorem dX5_placeBehind_59 : decode cX5_placeBehind 59 = .ok (.iload_n 2, 1) := by decide +kernel
theorem dX5_placeBehind_60 : decode cX5_placeBehind 60 = .ok (.ireturn, 1) := by decide +kernel
theorem dX6_init_0 : decode cX6_init 0 = .ok (.aload_n 0, 1) := by decide +kernel
theorem dX6_init_1 : decode cX6_init 1 = .ok (.invokespecial 1, 3) := by decide +kernel
theorem dX6_init_4 : decode cX6_init 4 = .ok (.aload_n 0, 1) := by decide +kernel
theorem dX6_init_5 : decode cX6_init 5 = .ok (.iconst 0, 1) := by decide +kernel
theorem dX6_init_6 : decode cX6_init 6 = .ok (.putfield 7, 3) := by decide +kernel
theorem dX6_init_9 : decode cX6_init 9 = .ok (.aload_n 0, 1) := by decide +kernel
theorem dX6_init_10 : decode cX6_init 10 = .ok (.iload_n 1, 1) := by decide +kernel
theorem dX6_init_11 : decode cX6_init 11 = .ok (.putfield 13, 3) := by decide +kernel
theorem dX6_init_14 : decode cX6_init 14 = .ok (.aload_n 0, 1) := by decide +kernel
theorem dX6_init_15 : decode cX6_init 15 = .ok (.iload_n 2, 1) := by decide +kernel
theorem dX6_init_16 : decode cX6_init 16 = .ok (.putfield 17, 3) := by decide +kernel
theorem dX6_init_19 : decode cX6_init 19 = .ok (.aload_n 0, 1) := by decide +kernel
theorem dX6_init_20 : decode cX6_init 20 = .ok (.iload_n 3, 1) := by decide +kernel
theorem dX6_init_21 : decode cX6_init 21 = .ok (.putfield 20, 3) := by decide +kernel
theorem dX6_init_24 : decode cX6_init 24 = .ok (.aload_n 0, 1) := by decide +kernel
theorem dX6_init_25 : decode cX6_init 25 = .ok (.iload 4, 2) := by decide +kernel
theorem dX6_init_27 : decode cX6_init 27 = .ok (.putfield 23, 3) := by decide +kernel
theorem dX6_init_30 : decode cX6_init 30 = .ok (.aload_n 0, 1) := by decide +kernel
theorem dX6_init_31 : decode cX6_init 31 = .ok (.iload 5, 2) := by decide +kernel
theorem dX6_init_33 : decode cX6_init 33 = .ok (.putfield 26, 3) := by decide +kernel
theorem dX6_init_36 : decode cX6_init 36 = .ok (.return_, 1) := by decide +kernel
theorem dX6_holds_0 : decode cX6_holds 0 = .ok (.iload_n 1, 1) := by decide +kernel
theorem dX6_holds_1 : decode cX6_holds 1 = .ok (.aload_n 0, 1) := by decide +kernel
theorem dX6_holds_2 : decode cX6_holds 2 = .ok (.getfield 20, 3) := by decide +kernel
theorem dX6_holds_5 : decode cX6_holds 5 = .ok (.if_icmp .lt 15, 3) := by decide +kernel
theorem dX6_holds_8 : decode cX6_holds 8 = .ok (.iload_n 1, 1) := by decide +kernel
theorem dX6_holds_9 : decode cX6_holds 9 = .ok (.aload_n 0, 1) := by decide +kernel
theorem dX6_holds_10 : decode cX6_holds 10 = .ok (.getfield 23, 3) := by decide +kernel
theorem dX6_holds_13 : decode cX6_holds 13 = .ok (.if_icmp .gt 7, 3) := by decide +kernel
theorem dX6_holds_16 : decode cX6_holds 16 = .ok (.iconst 1, 1) := by decide +kernel
theorem dX6_holds_17 : decode cX6_holds 17 = .ok (.goto 4, 3) := by decide +kernel
theorem dX6_holds_20 : decode cX6_holds 20 = .ok (.iconst 0, 1) := by decide +kernel
theorem dX6_holds_21 : decode cX6_holds 21 = .ok (.ireturn, 1) := by decide +kernel
theorem dX7_init_0 : decode cX7_init 0 = .ok (.aload_n 0, 1) := by decide +kernel
theorem dX7_init_1 : decode cX7_init 1 = .ok (.invokespecial 3, 3) := by decide +kernel
theorem dX7_init_4 : decode cX7_init 4 = .ok (.aload_n 0, 1) := by decide +kernel
theorem dX7_init_5 : decode cX7_init 5 = .ok (.iconst 0, 1) := by decide +kernel
theorem dX7_init_6 : decode cX7_init 6 = .ok (.putfield 9, 3) := by decide +kernel
theorem dX7_init_9 : decode cX7_init 9 = .ok (.aload_n 0, 1) := by decide +kernel
theorem dX7_init_10 : decode cX7_init 10 = .ok (.iconst 0, 1) := by decide +kernel
theorem dX7_init_11 : decode cX7_init 11 = .ok (.putfield 15, 3) := by decide +kernel
theorem dX7_init_14 : decode cX7_init 14 = .ok (.aload_n 0, 1) := by decide +kernel
theorem dX7_init_15 : decode cX7_init 15 = .ok (.iload_n 1, 1) := by decide +kernel
theorem dX7_init_16 : decode cX7_init 16 = .ok (.putfield 18, 3) := by decide +kernel
theorem dX7_init_19 : decode cX7_init 19 = .ok (.aload_n 0, 1) := by decide +kernel
theorem dX7_init_20 : decode cX7_init 20 = .ok (.iload_n 2, 1) := by decide +kernel
theorem dX7_init_21 : decode cX7_init 21 = .ok (.putfield 21, 3) := by decide +kernel
theorem dX7_init_24 : decode cX7_init 24 = .ok (.aload_n 0, 1) := by decide +kernel
theorem dX7_init_25 : decode cX7_init 25 = .ok (.iload_n 1, 1) := by decide +kernel
theorem dX7_init_26 : decode cX7_init 26 = .ok (.putfield 24, 3) := by decide +kernel
theorem dX7_init_29 : decode cX7_init 29 = .ok (.return_, 1) := by decide +kernel
theorem dX7_isEntry_0 : decode cX7_isEntry 0 = .ok (.aload_n 0, 1) := by decide +kernel
theorem dX7_isEntry_1 : decode cX7_isEntry 1 = .ok (.getfield 24, 3) := by decide +kernel
theorem dX7_isEntry_4 : decode cX7_isEntry 4 = .ok (.aload_n 0, 1) := by decide +kernel
theorem dX7_isEntry_5 : decode cX7_isEntry 5 = .ok (.getfield 18, 3) := by decide +kernel
theorem dX7_isEntry_8 : decode cX7_isEntry 8 = .ok (.if_icmp .ne 7, 3) := by decide +kernel
theorem dX7_isEntry_11 : decode cX7_isEntry 11 = .ok (.iconst 1, 1) := by decide +kernel
theorem dX7_isEntry_12 : decode cX7_isEntry 12 = .ok (.goto 4, 3) := by decide +kernel
theorem dX7_isEntry_15 : decode cX7_isEntry 15 = .ok (.iconst 0, 1) := by decide +kernel
theorem dX7_isEntry_16 : decode cX7_isEntry 16 = .ok (.ireturn, 1) := by decide +kernel
set_option maxRecDepth 20000 in
theorem ggX7_arrival_X10_quotient : GoodIn wsX7_arrival wsX10_quotient := goodIn_r _ [8, 9, 10, 11, 12] (by decide +kernel) (by decide +kernel)
set_option maxRecDepth 20000 in
theorem gX7_arrival_X10_quotient_n27 : GoodIn wsX7_arrival (wsX10_quotient) := ggX7_arrival_X10_quotient
set_option maxRecDepth 20000 in
theorem ggX7_arrival_X10_remainder : GoodIn wsX7_arrival wsX10_remainder := goodIn_r _ [14, 15, 16, 11, 17] (by decide +kernel) (by decide +kernel)
set_option maxRecDepth 20000 in
theorem gX7_arrival_X10_remainder_n31 : GoodIn wsX7_arrival (wsX10_remainder) := ggX7_arrival_X10_remainder
theorem dX7_arrival_0 : decode cX7_arrival 0 = .ok (.iload_n 1, 1) := by decide +kernel
theorem dX7_arrival_1 : decode cX7_arrival 1 = .ok (.sipush 1440, 3) := by decide +kernel
theorem dX7_arrival_4 : decode cX7_arrival 4 = .ok (.invokestatic 27, 3) := by decide +kernel
theorem dX7_arrival_7 : decode cX7_arrival 7 = .ok (.istore_n 2, 1) := by decide +kernel
theorem dX7_arrival_8 : decode cX7_arrival 8 = .ok (.iload_n 2, 1) := by decide +kernel
theorem dX7_arrival_9 : decode cX7_arrival 9 = .ok (.aload_n 0, 1) := by decide +kernel
theorem dX7_arrival_10 : decode cX7_arrival 10 = .ok (.getfield 21, 3) := by decide +kernel
theorem dX7_arrival_13 : decode cX7_arrival 13 = .ok (.iadd, 1) := by decide +kernel
theorem dX7_arrival_14 : decode cX7_arrival 14 = .ok (.sipush 364, 3) := by decide +kernel
theorem dX7_arrival_17 : decode cX7_arrival 17 = .ok (.invokestatic 31, 3) := by decide +kernel
theorem dX7_arrival_20 : decode cX7_arrival 20 = .ok (.istore_n 3, 1) := by decide +kernel
theorem dX7_arrival_21 : decode cX7_arrival 21 = .ok (.iload_n 3, 1) := by decide +kernel
theorem dX7_arrival_22 : decode cX7_arrival 22 = .ok (.sipush 364, 3) := by decide +kernel
theorem dX7_arrival_25 : decode cX7_arrival 25 = .ok (.iload_n 3, 1) := by decide +kernel
theorem dX7_arrival_26 : decode cX7_arrival 26 = .ok (.isub, 1) := by decide +kernel
theorem dX7_arrival_27 : decode cX7_arrival 27 = .ok (.invokestatic 34, 3) := by decide +kernel
theorem dX7_arrival_30 : decode cX7_arrival 30 = .ok (.istore 4, 2) := by decide +kernel
theorem dX7_arrival_32 : decode cX7_arrival 32 = .ok (.iload_n 1, 1) := by decide +kernel
theorem dX7_arrival_33 : decode cX7_arrival 33 = .ok (.bipush 8, 2) := by decide +kernel
theorem dX7_arrival_35 : decode cX7_arrival 35 = .ok (.iadd, 1) := by decide +kernel
theorem dX7_arrival_36 : decode cX7_arrival 36 = .ok (.bipush 16, 2) := by decide +kernel
theorem dX7_arrival_38 : decode cX7_arrival 38 = .ok (.iload 4, 2) := by decide +kernel
theorem dX7_arrival_40 : decode cX7_arrival 40 = .ok (.imul, 1) := by decide +kernel
theorem dX7_arrival_41 : decode cX7_arrival 41 = .ok (.sipush 182, 3) := by decide +kernel
theorem dX7_arrival_44 : decode cX7_arrival 44 = .ok (.invokestatic 27, 3) := by decide +kernel
theorem dX7_arrival_47 : decode cX7_arrival 47 = .ok (.isub, 1) := by decide +kernel
theorem dX7_arrival_48 : decode cX7_arrival 48 = .ok (.ireturn, 1) := by decide +kernel
set_option maxRecDepth 20000 in
theorem ggX8_init_X2_init : GoodIn wsX8_init wsX2_init := goodIn_r _ [10, 11, 12, 13, 14, 15, 24, 25, 26, 27, 16, 17, 18, 19, 20, 21, 22, 23] (by decide +kernel) (by decide +kernel)
set_option maxRecDepth 20000 in
theorem gX8_init_X2_init : GoodIn wsX8_init (wsX2_init) := ggX8_init_X2_init
theorem dX8_init_0 : decode cX8_init 0 = .ok (.aload_n 0, 1) := by decide +kernel
theorem dX8_init_1 : decode cX8_init 1 = .ok (.aload_n 1, 1) := by decide +kernel
theorem dX8_init_2 : decode cX8_init 2 = .ok (.invokespecial 3, 3) := by decide +kernel
theorem dX8_init_5 : decode cX8_init 5 = .ok (.aload_n 0, 1) := by decide +kernel
theorem dX8_init_6 : decode cX8_init 6 = .ok (.aload_n 2, 1) := by decide +kernel
theorem dX8_init_7 : decode cX8_init 7 = .ok (.putfield 9, 3) := by decide +kernel
theorem dX8_init_10 : decode cX8_init 10 = .ok (.aload_n 0, 1) := by decide +kernel
theorem dX8_init_11 : decode cX8_init 11 = .ok (.iload_n 3, 1) := by decide +kernel
theorem dX8_init_12 : decode cX8_init 12 = .ok (.putfield 15, 3) := by decide +kernel
theorem dX8_init_15 : decode cX8_init 15 = .ok (.aload_n 0, 1) := by decide +kernel
theorem dX8_init_16 : decode cX8_init 16 = .ok (.aload 4, 2) := by decide +kernel
theorem dX8_init_18 : decode cX8_init 18 = .ok (.putfield 19, 3) := by decide +kernel
theorem dX8_init_21 : decode cX8_init 21 = .ok (.aload_n 0, 1) := by decide +kernel
theorem dX8_init_22 : decode cX8_init 22 = .ok (.iload 5, 2) := by decide +kernel
theorem dX8_init_24 : decode cX8_init 24 = .ok (.putfield 23, 3) := by decide +kernel
theorem dX8_init_27 : decode cX8_init 27 = .ok (.aload_n 0, 1) := by decide +kernel
theorem dX8_init_28 : decode cX8_init 28 = .ok (.iload 6, 2) := by decide +kernel
theorem dX8_init_30 : decode cX8_init 30 = .ok (.putfield 26, 3) := by decide +kernel
theorem dX8_init_33 : decode cX8_init 33 = .ok (.aload_n 0, 1) := by decide +kernel
theorem dX8_init_34 : decode cX8_init 34 = .ok (.aload 7, 2) := by decide +kernel
theorem dX8_init_36 : decode cX8_init 36 = .ok (.putfield 29, 3) := by decide +kernel
theorem dX8_init_39 : decode cX8_init 39 = .ok (.return_, 1) := by decide +kernel
set_option maxRecDepth 20000 in
theorem ggX8_rawLight_X10_quotient : GoodIn wsX8_rawLight wsX10_quotient := goodIn_r _ [8, 9, 10, 11, 12] (by decide +kernel) (by decide +kernel)
set_option maxRecDepth 20000 in
theorem gX8_rawLight_X10_quotient_n37 : GoodIn wsX8_rawLight (wsX10_quotient) := ggX8_rawLight_X10_quotient
theorem dX8_rawLight_0 : decode cX8_rawLight 0 = .ok (.aload_n 0, 1) := by decide +kernel
theorem dX8_rawLight_1 : decode cX8_rawLight 1 = .ok (.getfield 19, 3) := by decide +kernel
theorem dX8_rawLight_4 : decode cX8_rawLight 4 = .ok (.getfield 32, 3) := by decide +kernel
theorem dX8_rawLight_7 : decode cX8_rawLight 7 = .ok (.aload_n 0, 1) := by decide +kernel
theorem dX8_rawLight_8 : decode cX8_rawLight 8 = .ok (.getfield 29, 3) := by decide +kernel
theorem dX8_rawLight_11 : decode cX8_rawLight 11 = .ok (.getfield 32, 3) := by decide +kernel
theorem dX8_rawLight_14 : decode cX8_rawLight 14 = .ok (.aload_n 0, 1) := by decide +kernel
theorem dX8_rawLight_15 : decode cX8_rawLight 15 = .ok (.getfield 19, 3) := by decide +kernel
theorem dX8_rawLight_18 : decode cX8_rawLight 18 = .ok (.getfield 32, 3) := by decide +kernel
theorem dX8_rawLight_21 : decode cX8_rawLight 21 = .ok (.isub, 1) := by decide +kernel
theorem dX8_rawLight_22 : decode cX8_rawLight 22 = .ok (.aload_n 0, 1) := by decide +kernel
theorem dX8_rawLight_23 : decode cX8_rawLight 23 = .ok (.getfield 23, 3) := by decide +kernel
theorem dX8_rawLight_26 : decode cX8_rawLight 26 = .ok (.imul, 1) := by decide +kernel
theorem dX8_rawLight_27 : decode cX8_rawLight 27 = .ok (.aload_n 0, 1) := by decide +kernel
theorem dX8_rawLight_28 : decode cX8_rawLight 28 = .ok (.getfield 23, 3) := by decide +kernel
theorem dX8_rawLight_31 : decode cX8_rawLight 31 = .ok (.aload_n 0, 1) := by decide +kernel
theorem dX8_rawLight_32 : decode cX8_rawLight 32 = .ok (.getfield 26, 3) := by decide +kernel
theorem dX8_rawLight_35 : decode cX8_rawLight 35 = .ok (.iadd, 1) := by decide +kernel
theorem dX8_rawLight_36 : decode cX8_rawLight 36 = .ok (.invokestatic 37, 3) := by decide +kernel
theorem dX8_rawLight_39 : decode cX8_rawLight 39 = .ok (.iadd, 1) := by decide +kernel
theorem dX8_rawLight_40 : decode cX8_rawLight 40 = .ok (.ireturn, 1) := by decide +kernel
set_option maxRecDepth 20000 in
theorem ggX8_trueLight_X8_rawLight : GoodIn wsX8_trueLight wsX8_rawLight := goodIn_r _ [7, 8, 9, 10, 11, 12, 13, 14, 15, 16, 17, 18, 19, 20, 21, 22, 23, 24, 25, 26, 27, 30] (by decide +kernel) (by decide +kernel)
set_option maxRecDepth 20000 in
theorem gX8_trueLight_X8_rawLight : GoodIn wsX8_trueLight (wsV RX8 41 RX8 yX8_rawLight wsX8_rawLight) := goodIn_app (goodIn_of _ (by decide +kernel)) ggX8_trueLight_X8_rawLight
theorem dX8_trueLight_0 : decode cX8_trueLight 0 = .ok (.aload_n 0, 1) := by decide +kernel
theorem dX8_trueLight_1 : decode cX8_trueLight 1 = .ok (.invokevirtual 41, 3) := by decide +kernel
theorem dX8_trueLight_4 : decode cX8_trueLight 4 = .ok (.aload_n 0, 1) := by decide +kernel
theorem dX8_trueLight_5 : decode cX8_trueLight 5 = .ok (.getfield 9, 3) := by decide +kernel
theorem dX8_trueLight_8 : decode cX8_trueLight 8 = .ok (.getfield 45, 3) := by decide +kernel
theorem dX8_trueLight_11 : decode cX8_trueLight 11 = .ok (.isub, 1) := by decide +kernel
theorem dX8_trueLight_12 : decode cX8_trueLight 12 = .ok (.ireturn, 1) := by decide +kernel
set_option maxRecDepth 20000 in
theorem ggX8_trueTime_X7_arrival : GoodIn wsX8_trueTime wsX7_arrival := goodIn_r _ [10, 11, 12, 13, 14, 15, 16, 17, 18, 19, 20, 21, 22, 23, 24, 25, 26, 27, 42, 43, 44, 45, 46] (by decide +kernel) (by decide +kernel)
set_option maxRecDepth 20000 in
theorem gX8_trueTime_X7_arrival : GoodIn wsX8_trueTime (wsV RX8 54 RX7 yX7_arrival wsX7_arrival) := goodIn_app (goodIn_of _ (by decide +kernel)) ggX8_trueTime_X7_arrival
theorem dX8_trueTime_0 : decode cX8_trueTime 0 = .ok (.aload_n 0, 1) := by decide +kernel
theorem dX8_trueTime_1 : decode cX8_trueTime 1 = .ok (.getfield 50, 3) := by decide +kernel
theorem dX8_trueTime_4 : decode cX8_trueTime 4 = .ok (.aload_n 0, 1) := by decide +kernel
theorem dX8_trueTime_5 : decode cX8_trueTime 5 = .ok (.getfield 15, 3) := by decide +kernel
theorem dX8_trueTime_8 : decode cX8_trueTime 8 = .ok (.invokevirtual 54, 3) := by decide +kernel
theorem dX8_trueTime_11 : decode cX8_trueTime 11 = .ok (.aload_n 0, 1) := by decide +kernel
theorem dX8_trueTime_12 : decode cX8_trueTime 12 = .ok (.getfield 9, 3) := by decide +kernel
theorem dX8_trueTime_15 : decode cX8_trueTime 15 = .ok (.getfield 60, 3) := by decide +kernel
theorem dX8_trueTime_18 : decode cX8_trueTime 18 = .ok (.isub, 1) := by decide +kernel
theorem dX8_trueTime_19 : decode cX8_trueTime 19 = .ok (.ireturn, 1) := by decide +kernel
theorem dX8_sort_0 : decode cX8_sort 0 = .ok (.iconst 0, 1) := by decide +kernel
theorem dX8_sort_1 : decode cX8_sort 1 = .ok (.ireturn, 1) := by decide +kernel
theorem dX9_init_0 : decode cX9_init 0 = .ok (.aload_n 0, 1) := by decide +kernel
theorem dX9_init_1 : decode cX9_init 1 = .ok (.invokespecial 1, 3) := by decide +kernel
theorem dX9_init_4 : decode cX9_init 4 = .ok (.aload_n 0, 1) := by decide +kernel
theorem dX9_init_5 : decode cX9_init 5 = .ok (.iconst 0, 1) := by decide +kernel
theorem dX9_init_6 : decode cX9_init 6 = .ok (.putfield 7, 3) := by decide +kernel
theorem dX9_init_9 : decode cX9_init 9 = .ok (.aload_n 0, 1) := by decide +kernel
theorem dX9_init_10 : decode cX9_init 10 = .ok (.iconst 0, 1) := by decide +kernel
theorem dX9_init_11 : decode cX9_init 11 = .ok (.putfield 13, 3) := by decide +kernel
theorem dX9_init_14 : decode cX9_init 14 = .ok (.return_, 1) := by decide +kernel
set_option maxRecDepth 20000 in
theorem ggX10_init_Jx4a65c_init_da8c8 : GoodIn wsX10_init wsJx4a65c_init_da8c8 := goodIn_r _ [32, 33, 34, 35, 36, 37, 38, 39, 40, 41, 42, 43, 44, 2, 3, 115, 116, 117] (by decide +kernel) (by decide +kernel)
set_option maxRecDepth 20000 in
theorem gX10_init_Jx4a65c_init_da8c8 : GoodIn wsX10_init (wsJx4a65c_init_da8c8) := ggX10_init_Jx4a65c_init_da8c8
set_option maxRecDepth 20000 in
theorem ggX10_init_X5_init : GoodIn wsX10_init wsX5_init := goodIn_r _ [47, 48, 2, 3, 49, 50, 51, 52, 53, 22, 54, 55, 131, 132, 133] (by decide +kernel) (by decide +kernel)
set_option maxRecDepth 20000 in
theorem gX10_init_X5_init : GoodIn wsX10_init (wsX5_init) := ggX10_init_X5_init
set_option maxRecDepth 20000 in
theorem ggX10_init_X0_init : GoodIn wsX10_init wsX0_init := goodIn_r _ [57, 58, 2, 3, 59, 134] (by decide +kernel) (by decide +kernel)
set_option maxRecDepth 20000 in
theorem gX10_init_X0_init_n62 : GoodIn wsX10_init (wsX0_init) := ggX10_init_X0_init
set_option maxRecDepth 20000 in
theorem ggX10_init_Jx4a65c_add_9ea2d : GoodIn wsX10_init wsJx4a65c_add_9ea2d := goodIn_r _ [63, 64, 65, 34, 66, 67, 68, 69, 6, 70, 71, 72, 73, 74, 75, 76, 77, 78, 33, 79, 51, 52, 53, 80, 81, 82, 83, 84, 85, 86, 87, 88, 89, 90, 91, 92, 93, 94, 95, 96, 97, 98, 99, 100, 101, 102, 103, 104, 105, 106, 107, 108, 109, 115, 116, 117] (by decide +kernel) (by decide +kernel)
set_option maxRecDepth 20000 in
theorem gX10_init_Jx4a65c_add_9ea2d : GoodIn wsX10_init (wsV RX10 63 RJx4a65c yJx4a65c_add_9ea2d wsJx4a65c_add_9ea2d) := goodIn_app (goodIn_of _ (by decide +kernel)) ggX10_init_Jx4a65c_add_9ea2d
set_option maxRecDepth 20000 in
theorem ggX10_init_X9_init : GoodIn wsX10_init wsX9_init := goodIn_r _ [111, 112, 2, 3, 113, 114, 135, 136] (by decide +kernel) (by decide +kernel)
set_option maxRecDepth 20000 in
theorem gX10_init_X9_init_n69 : GoodIn wsX10_init (wsX9_init) := ggX10_init_X9_init
theorem dX10_init_0 : decode cX10_init 0 = .ok (.aload_n 0, 1) := by decide +kernel
theorem dX10_init_1 : decode cX10_init 1 = .ok (.invokespecial 1, 3) := by decide +kernel
theorem dX10_init_4 : decode cX10_init 4 = .ok (.aload_n 0, 1) := by decide +kernel
theorem dX10_init_5 : decode cX10_init 5 = .ok (.new 7, 3) := by decide +kernel
theorem dX10_init_8 : decode cX10_init 8 = .ok (.dup, 1) := by decide +kernel
theorem dX10_init_9 : decode cX10_init 9 = .ok (.invokespecial 9, 3) := by decide +kernel
theorem dX10_init_12 : decode cX10_init 12 = .ok (.putfield 10, 3) := by decide +kernel
theorem dX10_init_15 : decode cX10_init 15 = .ok (.aload_n 0, 1) := by decide +kernel
theorem dX10_init_16 : decode cX10_init 16 = .ok (.new 7, 3) := by decide +kernel
theorem dX10_init_19 : decode cX10_init 19 = .ok (.dup, 1) := by decide +kernel
theorem dX10_init_20 : decode cX10_init 20 = .ok (.invokespecial 9, 3) := by decide +kernel
theorem dX10_init_23 : decode cX10_init 23 = .ok (.putfield 16, 3) := by decide +kernel
theorem dX10_init_26 : decode cX10_init 26 = .ok (.aload_n 0, 1) := by decide +kernel
theorem dX10_init_27 : decode cX10_init 27 = .ok (.new 7, 3) := by decide +kernel
theorem dX10_init_30 : decode cX10_init 30 = .ok (.dup, 1) := by decide +kernel
theorem dX10_init_31 : decode cX10_init 31 = .ok (.invokespecial 9, 3) := by decide +kernel
theorem dX10_init_34 : decode cX10_init 34 = .ok (.putfield 19, 3) := by decide +kernel
theorem dX10_init_37 : decode cX10_init 37 = .ok (.aload_n 0, 1) := by decide +kernel
theorem dX10_init_38 : decode cX10_init 38 = .ok (.new 7, 3) := by decide +kernel
theorem dX10_init_41 : decode cX10_init 41 = .ok (.dup, 1) := by decide +kernel
theorem dX10_init_42 : decode cX10_init 42 = .ok (.invokespecial 9, 3) := by decide +kernel
theorem dX10_init_45 : decode cX10_init 45 = .ok (.putfield 22, 3) := by decide +kernel
theorem dX10_init_48 : decode cX10_init 48 = .ok (.aload_n 0, 1) := by decide +kernel
theorem dX10_init_49 : decode cX10_init 49 = .ok (.new 7, 3) := by decide +kernel
theorem dX10_init_52 : decode cX10_init 52 = .ok (.dup, 1) := by decide +kernel
theorem dX10_init_53 : decode cX10_init 53 = .ok (.invokespecial 9, 3) := by decide +kernel
theorem dX10_init_56 : decode cX10_init 56 = .ok (.putfield 25, 3) := by decide +kernel
theorem dX10_init_59 : decode cX10_init 59 = .ok (.aload_n 0, 1) := by decide +kernel
theorem dX10_init_60 : decode cX10_init 60 = .ok (.new 7, 3) := by decide +kernel
theorem dX10_init_63 : decode cX10_init 63 = .ok (.dup, 1) := by decide +kernel
theorem dX10_init_64 : decode cX10_init 64 = .ok (.invokespecial 9, 3) := by decide +kernel
theorem dX10_init_67 : decode cX10_init 67 = .ok (.putfield 28, 3) := by decide +kernel
theorem dX10_init_70 : decode cX10_init 70 = .ok (.aload_n 0, 1) := by decide +kernel
theorem dX10_init_71 : decode cX10_init 71 = .ok (.new 7, 3) := by decide +kernel
theorem dX10_init_74 : decode cX10_init 74 = .ok (.dup, 1) := by decide +kernel
theorem dX10_init_75 : decode cX10_init 75 = .ok (.invokespecial 9, 3) := by decide +kernel
theorem dX10_init_78 : decode cX10_init 78 = .ok (.putfield 31, 3) := by decide +kernel
theorem dX10_init_81 : decode cX10_init 81 = .ok (.aload_n 0, 1) := by decide +kernel
theorem dX10_init_82 : decode cX10_init 82 = .ok (.iconst 0, 1) := by decide +kernel
theorem dX10_init_83 : decode cX10_init 83 = .ok (.putfield 34, 3) := by decide +kernel
theorem dX10_init_86 : decode cX10_init 86 = .ok (.aload_n 0, 1) := by decide +kernel
theorem dX10_init_87 : decode cX10_init 87 = .ok (.new 38, 3) := by decide +kernel
theorem dX10_init_90 : decode cX10_init 90 = .ok (.dup, 1) := by decide +kernel
theorem dX10_init_91 : decode cX10_init 91 = .ok (.bipush 80, 2) := by decide +kernel
theorem dX10_init_93 : decode cX10_init 93 = .ok (.invokespecial 40, 3) := by decide +kernel
theorem dX10_init_96 : decode cX10_init 96 = .ok (.putfield 43, 3) := by decide +kernel
theorem dX10_init_99 : decode cX10_init 99 = .ok (.aload_n 0, 1) := by decide +kernel
theorem dX10_init_100 : decode cX10_init 100 = .ok (.new 38, 3) := by decide +kernel
theorem dX10_init_103 : decode cX10_init 103 = .ok (.dup, 1) := by decide +kernel
theorem dX10_init_104 : decode cX10_init 104 = .ok (.bipush 80, 2) := by decide +kernel
theorem dX10_init_106 : decode cX10_init 106 = .ok (.invokespecial 40, 3) := by decide +kernel
theorem dX10_init_109 : decode cX10_init 109 = .ok (.putfield 47, 3) := by decide +kernel
theorem dX10_init_112 : decode cX10_init 112 = .ok (.aload_n 0, 1) := by decide +kernel
theorem dX10_init_113 : decode cX10_init 113 = .ok (.new 38, 3) := by decide +kernel
theorem dX10_init_116 : decode cX10_init 116 = .ok (.dup, 1) := by decide +kernel
theorem dX10_init_117 : decode cX10_init 117 = .ok (.bipush 30, 2) := by decide +kernel
theorem dX10_init_119 : decode cX10_init 119 = .ok (.invokespecial 40, 3) := by decide +kernel
theorem dX10_init_122 : decode cX10_init 122 = .ok (.putfield 50, 3) := by decide +kernel
theorem dX10_init_125 : decode cX10_init 125 = .ok (.aload_n 0, 1) := by decide +kernel
theorem dX10_init_126 : decode cX10_init 126 = .ok (.new 38, 3) := by decide +kernel
theorem dX10_init_129 : decode cX10_init 129 = .ok (.dup, 1) := by decide +kernel
theorem dX10_init_130 : decode cX10_init 130 = .ok (.bipush 12, 2) := by decide +kernel
theorem dX10_init_132 : decode cX10_init 132 = .ok (.invokespecial 40, 3) := by decide +kernel
theorem dX10_init_135 : decode cX10_init 135 = .ok (.putfield 53, 3) := by decide +kernel
theorem dX10_init_138 : decode cX10_init 138 = .ok (.aload_n 0, 1) := by decide +kernel
theorem dX10_init_139 : decode cX10_init 139 = .ok (.sipush 200, 3) := by decide +kernel
theorem dX10_init_142 : decode cX10_init 142 = .ok (.newarray .int, 2) := by decide +kernel
theorem dX10_init_144 : decode cX10_init 144 = .ok (.putfield 56, 3) := by decide +kernel
theorem dX10_init_147 : decode cX10_init 147 = .ok (.iconst 0, 1) := by decide +kernel
theorem dX10_init_148 : decode cX10_init 148 = .ok (.istore_n 1, 1) := by decide +kernel
theorem dX10_init_149 : decode cX10_init 149 = .ok (.iload_n 1, 1) := by decide +kernel
theorem dX10_init_150 : decode cX10_init 150 = .ok (.bipush 10, 2) := by decide +kernel
theorem dX10_init_152 : decode cX10_init 152 = .ok (.if_icmp .ge 24, 3) := by decide +kernel
theorem dX10_init_155 : decode cX10_init 155 = .ok (.aload_n 0, 1) := by decide +kernel
theorem dX10_init_156 : decode cX10_init 156 = .ok (.getfield 10, 3) := by decide +kernel
theorem dX10_init_159 : decode cX10_init 159 = .ok (.new 60, 3) := by decide +kernel
theorem dX10_init_162 : decode cX10_init 162 = .ok (.dup, 1) := by decide +kernel
theorem dX10_init_163 : decode cX10_init 163 = .ok (.invokespecial 62, 3) := by decide +kernel
theorem dX10_init_166 : decode cX10_init 166 = .ok (.invokevirtual 63, 3) := by decide +kernel
theorem dX10_init_169 : decode cX10_init 169 = .ok (.pop, 1) := by decide +kernel
theorem dX10_init_170 : decode cX10_init 170 = .ok (.iinc 1 1, 3) := by decide +kernel
theorem dX10_init_173 : decode cX10_init 173 = .ok (.goto (-24), 3) := by decide +kernel
theorem dX10_init_176 : decode cX10_init 176 = .ok (.iconst 0, 1) := by decide +kernel
theorem dX10_init_177 : decode cX10_init 177 = .ok (.istore_n 1, 1) := by decide +kernel
theorem dX10_init_178 : decode cX10_init 178 = .ok (.iload_n 1, 1) := by decide +kernel
theorem dX10_init_179 : decode cX10_init 179 = .ok (.bipush 8, 2) := by decide +kernel
theorem dX10_init_181 : decode cX10_init 181 = .ok (.if_icmp .ge 24, 3) := by decide +kernel
theorem dX10_init_184 : decode cX10_init 184 = .ok (.aload_n 0, 1) := by decide +kernel
theorem dX10_init_185 : decode cX10_init 185 = .ok (.getfield 16, 3) := by decide +kernel
theorem dX10_init_188 : decode cX10_init 188 = .ok (.new 67, 3) := by decide +kernel
theorem dX10_init_191 : decode cX10_init 191 = .ok (.dup, 1) := by decide +kernel
theorem dX10_init_192 : decode cX10_init 192 = .ok (.invokespecial 69, 3) := by decide +kernel
theorem dX10_init_195 : decode cX10_init 195 = .ok (.invokevirtual 63, 3) := by decide +kernel
theorem dX10_init_198 : decode cX10_init 198 = .ok (.pop, 1) := by decide +kernel
theorem dX10_init_199 : decode cX10_init 199 = .ok (.iinc 1 1, 3) := by decide +kernel
theorem dX10_init_202 : decode cX10_init 202 = .ok (.goto (-24), 3) := by decide +kernel
theorem dX10_init_205 : decode cX10_init 205 = .ok (.return_, 1) := by decide +kernel
set_option maxRecDepth 20000 in
theorem ggX10_comparison_X10_comparisonAt : GoodIn wsX10_comparison wsX10_comparisonAt := goodIn_ca (goodIn_r _ [6, 7, 8, 9, 10, 11, 12, 13, 14, 15, 16, 17, 18, 19, 20, 21, 22, 23, 24, 25, 26, 27, 28, 29, 30, 31, 32, 33, 40, 41, 42, 43, 44, 45, 46, 47, 48, 49, 50, 51, 52, 53, 54, 55] (by decide +kernel) (by decide +kernel)) (goodIn_sub (fun _ h => List.mem_cons_of_mem _ (List.mem_append_left _ (List.mem_append_right _ h))) (by decide +kernel))
set_option maxRecDepth 20000 in
theorem gX10_comparison_X10_comparisonAt : GoodIn wsX10_comparison (wsV RX10 70 RX10 yX10_comparisonAt wsX10_comparisonAt) := goodIn_app (goodIn_of _ (by decide +kernel)) ggX10_comparison_X10_comparisonAt
set_option maxRecDepth 20000 in
theorem ggX10_comparison_X10_needRange : GoodIn wsX10_comparison wsX10_needRange := goodIn_ca (goodIn_r _ [36, 37, 38] (by decide +kernel) (by decide +kernel)) (goodIn_sub (fun _ h => List.mem_cons_of_mem _ (List.mem_append_right _ h)) (by decide +kernel))
set_option maxRecDepth 20000 in
theorem gX10_comparison_X10_needRange : GoodIn wsX10_comparison (va_wsS RX10 74 yX10_needRange wsX10_needRange) := goodIn_app (goodIn_of _ (by decide +kernel)) ggX10_comparison_X10_needRange
theorem dX10_comparison_0 : decode cX10_comparison 0 = .ok (.aload_n 0, 1) := by decide +kernel
theorem dX10_comparison_1 : decode cX10_comparison 1 = .ok (.iload_n 1, 1) := by decide +kernel
theorem dX10_comparison_2 : decode cX10_comparison 2 = .ok (.invokevirtual 70, 3) := by decide +kernel
theorem dX10_comparison_5 : decode cX10_comparison 5 = .ok (.astore_n 3, 1) := by decide +kernel
theorem dX10_comparison_6 : decode cX10_comparison 6 = .ok (.iload_n 2, 1) := by decide +kernel
theorem dX10_comparison_7 : decode cX10_comparison 7 = .ok (.sipush (-200), 3) := by decide +kernel
theorem dX10_comparison_10 : decode cX10_comparison 10 = .ok (.sipush 2000, 3) := by decide +kernel
theorem dX10_comparison_13 : decode cX10_comparison 13 = .ok (.invokestatic 74, 3) := by decide +kernel
theorem dX10_comparison_16 : decode cX10_comparison 16 = .ok (.aload_n 3, 1) := by decide +kernel
theorem dX10_comparison_17 : decode cX10_comparison 17 = .ok (.getfield 78, 3) := by decide +kernel
theorem dX10_comparison_20 : decode cX10_comparison 20 = .ok (.istore 4, 2) := by decide +kernel
theorem dX10_comparison_22 : decode cX10_comparison 22 = .ok (.aload_n 3, 1) := by decide +kernel
theorem dX10_comparison_23 : decode cX10_comparison 23 = .ok (.iload_n 2, 1) := by decide +kernel
theorem dX10_comparison_24 : decode cX10_comparison 24 = .ok (.putfield 78, 3) := by decide +kernel
theorem dX10_comparison_27 : decode cX10_comparison 27 = .ok (.iload 4, 2) := by decide +kernel
theorem dX10_comparison_29 : decode cX10_comparison 29 = .ok (.ireturn, 1) := by decide +kernel
set_option maxRecDepth 20000 in
theorem ggX10_star_X10_needRange : GoodIn wsX10_star wsX10_needRange := goodIn_ca (goodIn_r _ [8, 9, 10] (by decide +kernel) (by decide +kernel)) (goodIn_sub (fun _ h => List.mem_cons_of_mem _ (List.mem_append_left _ (List.mem_append_right _ h))) (by decide +kernel))
set_option maxRecDepth 20000 in
theorem gX10_star_X10_needRange : GoodIn wsX10_star (va_wsS RX10 74 yX10_needRange wsX10_needRange) := goodIn_app (goodIn_of _ (by decide +kernel)) ggX10_star_X10_needRange
set_option maxRecDepth 20000 in
theorem ggX10_star_Jx4a65c_size_8abf5 : GoodIn wsX10_star wsJx4a65c_size_8abf5 := goodIn_r _ [15, 16, 105, 106, 107] (by decide +kernel) (by decide +kernel)
set_option maxRecDepth 20000 in
theorem gX10_star_Jx4a65c_size_8abf5 : GoodIn wsX10_star (wsV RX10 81 RJx4a65c yJx4a65c_size_8abf5 wsJx4a65c_size_8abf5) := goodIn_app (goodIn_of _ (by decide +kernel)) ggX10_star_Jx4a65c_size_8abf5
set_option maxRecDepth 20000 in
theorem ggX10_star_X10_needRoom : GoodIn wsX10_star wsX10_needRoom := goodIn_ca (goodIn_r _ [19, 20, 21] (by decide +kernel) (by decide +kernel)) (goodIn_sub (fun _ h => List.mem_cons_of_mem _ (List.mem_append_right _ h)) (by decide +kernel))
set_option maxRecDepth 20000 in
theorem gX10_star_X10_needRoom : GoodIn wsX10_star (va_wsS RX10 85 yX10_needRoom wsX10_needRoom) := goodIn_app (goodIn_of _ (by decide +kernel)) ggX10_star_X10_needRoom
set_option maxRecDepth 20000 in
theorem ggX10_star_X7_init : GoodIn wsX10_star wsX7_init := goodIn_r _ [24, 25, 26, 27, 28, 29, 30, 31, 32, 100, 101, 102, 103, 104] (by decide +kernel) (by decide +kernel)
set_option maxRecDepth 20000 in
theorem gX10_star_X7_init : GoodIn wsX10_star (wsX7_init) := ggX10_star_X7_init
set_option maxRecDepth 20000 in
theorem ggX10_star_Jx4a65c_add_9ea2d : GoodIn wsX10_star wsJx4a65c_add_9ea2d := goodIn_r _ [36, 37, 38, 39, 16, 40, 41, 42, 14, 43, 44, 45, 46, 47, 48, 49, 50, 51, 52, 53, 54, 55, 56, 57, 58, 59, 60, 61, 62, 63, 64, 65, 66, 67, 68, 69, 70, 71, 72, 73, 74, 75, 76, 77, 78, 79, 80, 81, 82, 83, 84, 85, 86, 105, 106, 107] (by decide +kernel) (by decide +kernel)
set_option maxRecDepth 20000 in
theorem gX10_star_Jx4a65c_add_9ea2d : GoodIn wsX10_star (wsV RX10 63 RJx4a65c yJx4a65c_add_9ea2d wsJx4a65c_add_9ea2d) := goodIn_app (goodIn_of _ (by decide +kernel)) ggX10_star_Jx4a65c_add_9ea2d
theorem dX10_star_0 : decode cX10_star 0 = .ok (.iload_n 1, 1) := by decide +kernel
theorem dX10_star_1 : decode cX10_star 1 = .ok (.iconst 0, 1) := by decide +kernel
theorem dX10_star_2 : decode cX10_star 2 = .ok (.sipush 363, 3) := by decide +kernel
theorem dX10_star_5 : decode cX10_star 5 = .ok (.invokestatic 74, 3) := by decide +kernel
theorem dX10_star_8 : decode cX10_star 8 = .ok (.aload_n 0, 1) := by decide +kernel
theorem dX10_star_9 : decode cX10_star 9 = .ok (.getfield 19, 3) := by decide +kernel
theorem dX10_star_12 : decode cX10_star 12 = .ok (.invokevirtual 81, 3) := by decide +kernel
theorem dX10_star_15 : decode cX10_star 15 = .ok (.istore_n 2, 1) := by decide +kernel
theorem dX10_star_16 : decode cX10_star 16 = .ok (.iload_n 2, 1) := by decide +kernel
theorem dX10_star_17 : decode cX10_star 17 = .ok (.bipush 12, 2) := by decide +kernel
theorem dX10_star_19 : decode cX10_star 19 = .ok (.invokestatic 85, 3) := by decide +kernel
theorem dX10_star_22 : decode cX10_star 22 = .ok (.aload_n 0, 1) := by decide +kernel
theorem dX10_star_23 : decode cX10_star 23 = .ok (.getfield 19, 3) := by decide +kernel
theorem dX10_star_26 : decode cX10_star 26 = .ok (.new 89, 3) := by decide +kernel
theorem dX10_star_29 : decode cX10_star 29 = .ok (.dup, 1) := by decide +kernel
theorem dX10_star_30 : decode cX10_star 30 = .ok (.iload_n 2, 1) := by decide +kernel
theorem dX10_star_31 : decode cX10_star 31 = .ok (.iload_n 1, 1) := by decide +kernel
theorem dX10_star_32 : decode cX10_star 32 = .ok (.invokespecial 91, 3) := by decide +kernel
theorem dX10_star_35 : decode cX10_star 35 = .ok (.invokevirtual 63, 3) := by decide +kernel
theorem dX10_star_38 : decode cX10_star 38 = .ok (.pop, 1) := by decide +kernel
theorem dX10_star_39 : decode cX10_star 39 = .ok (.iload_n 2, 1) := by decide +kernel
theorem dX10_star_40 : decode cX10_star 40 = .ok (.ireturn, 1) := by decide +kernel
set_option maxRecDepth 20000 in
theorem ggX10_bias_X10_watcherAt : GoodIn wsX10_bias wsX10_watcherAt := goodIn_ca (goodIn_r _ [6, 7, 8, 9, 10, 11, 12, 13, 14, 15, 16, 17, 18, 19, 20, 21, 22, 23, 24, 25, 26, 27, 28, 29, 30, 31, 32, 33, 41, 42, 43, 44, 45, 46, 47, 48, 49, 50, 51, 52, 53, 54, 55, 56] (by decide +kernel) (by decide +kernel)) (goodIn_sub (fun _ h => List.mem_cons_of_mem _ (List.mem_append_left _ (List.mem_append_right _ h))) (by decide +kernel))
set_option maxRecDepth 20000 in
theorem gX10_bias_X10_watcherAt : GoodIn wsX10_bias (wsV RX10 93 RX10 yX10_watcherAt wsX10_watcherAt) := goodIn_app (goodIn_of _ (by decide +kernel)) ggX10_bias_X10_watcherAt
set_option maxRecDepth 20000 in
theorem ggX10_bias_X10_needRange : GoodIn wsX10_bias wsX10_needRange := goodIn_ca (goodIn_r _ [36, 37, 38] (by decide +kernel) (by decide +kernel)) (goodIn_sub (fun _ h => List.mem_cons_of_mem _ (List.mem_append_right _ h)) (by decide +kernel))
set_option maxRecDepth 20000 in
theorem gX10_bias_X10_needRange : GoodIn wsX10_bias (va_wsS RX10 74 yX10_needRange wsX10_needRange) := goodIn_app (goodIn_of _ (by decide +kernel)) ggX10_bias_X10_needRange
theorem dX10_bias_0 : decode cX10_bias 0 = .ok (.aload_n 0, 1) := by decide +kernel
theorem dX10_bias_1 : decode cX10_bias 1 = .ok (.iload_n 1, 1) := by decide +kernel
theorem dX10_bias_2 : decode cX10_bias 2 = .ok (.invokevirtual 93, 3) := by decide +kernel
theorem dX10_bias_5 : decode cX10_bias 5 = .ok (.astore_n 3, 1) := by decide +kernel
theorem dX10_bias_6 : decode cX10_bias 6 = .ok (.iload_n 2, 1) := by decide +kernel
theorem dX10_bias_7 : decode cX10_bias 7 = .ok (.bipush (-99), 2) := by decide +kernel
theorem dX10_bias_9 : decode cX10_bias 9 = .ok (.bipush 99, 2) := by decide +kernel
theorem dX10_bias_11 : decode cX10_bias 11 = .ok (.invokestatic 74, 3) := by decide +kernel
theorem dX10_bias_14 : decode cX10_bias 14 = .ok (.aload_n 3, 1) := by decide +kernel
theorem dX10_bias_15 : decode cX10_bias 15 = .ok (.getfield 97, 3) := by decide +kernel
theorem dX10_bias_18 : decode cX10_bias 18 = .ok (.istore 4, 2) := by decide +kernel
theorem dX10_bias_20 : decode cX10_bias 20 = .ok (.aload_n 3, 1) := by decide +kernel
theorem dX10_bias_21 : decode cX10_bias 21 = .ok (.iload_n 2, 1) := by decide +kernel
theorem dX10_bias_22 : decode cX10_bias 22 = .ok (.putfield 97, 3) := by decide +kernel
theorem dX10_bias_25 : decode cX10_bias 25 = .ok (.iload 4, 2) := by decide +kernel
theorem dX10_bias_27 : decode cX10_bias 27 = .ok (.ireturn, 1) := by decide +kernel
set_option maxRecDepth 20000 in
theorem ggX10_clock_X10_watcherAt : GoodIn wsX10_clock wsX10_watcherAt := goodIn_ca (goodIn_r _ [6, 7, 8, 9, 10, 11, 12, 13, 14, 15, 16, 17, 18, 19, 20, 21, 22, 23, 24, 25, 26, 27, 28, 29, 30, 31, 32, 33, 41, 42, 43, 44, 45, 46, 47, 48, 49, 50, 51, 52, 53, 54, 55, 56] (by decide +kernel) (by decide +kernel)) (goodIn_sub (fun _ h => List.mem_cons_of_mem _ (List.mem_append_left _ (List.mem_append_right _ h))) (by decide +kernel))
set_option maxRecDepth 20000 in
theorem gX10_clock_X10_watcherAt : GoodIn wsX10_clock (wsV RX10 93 RX10 yX10_watcherAt wsX10_watcherAt) := goodIn_app (goodIn_of _ (by decide +kernel)) ggX10_clock_X10_watcherAt
set_option maxRecDepth 20000 in
theorem ggX10_clock_X10_needRange : GoodIn wsX10_clock wsX10_needRange := goodIn_ca (goodIn_r _ [36, 37, 38] (by decide +kernel) (by decide +kernel)) (goodIn_sub (fun _ h => List.mem_cons_of_mem _ (List.mem_append_right _ h)) (by decide +kernel))
set_option maxRecDepth 20000 in
theorem gX10_clock_X10_needRange : GoodIn wsX10_clock (va_wsS RX10 74 yX10_needRange wsX10_needRange) := goodIn_app (goodIn_of _ (by decide +kernel)) ggX10_clock_X10_needRange
theorem dX10_clock_0 : decode cX10_clock 0 = .ok (.aload_n 0, 1) := by decide +kernel
theorem dX10_clock_1 : decode cX10_clock 1 = .ok (.iload_n 1, 1) := by decide +kernel
theorem dX10_clock_2 : decode cX10_clock 2 = .ok (.invokevirtual 93, 3) := by decide +kernel
theorem dX10_clock_5 : decode cX10_clock 5 = .ok (.astore_n 3, 1) := by decide +kernel
theorem dX10_clock_6 : decode cX10_clock 6 = .ok (.iload_n 2, 1) := by decide +kernel
theorem dX10_clock_7 : decode cX10_clock 7 = .ok (.sipush (-1440), 3) := by decide +kernel
theorem dX10_clock_10 : decode cX10_clock 10 = .ok (.sipush 1440, 3) := by decide +kernel
theorem dX10_clock_13 : decode cX10_clock 13 = .ok (.invokestatic 74, 3) := by decide +kernel
theorem dX10_clock_16 : decode cX10_clock 16 = .ok (.aload_n 3, 1) := by decide +kernel
theorem dX10_clock_17 : decode cX10_clock 17 = .ok (.getfield 100, 3) := by decide +kernel
theorem dX10_clock_20 : decode cX10_clock 20 = .ok (.istore 4, 2) := by decide +kernel
theorem dX10_clock_22 : decode cX10_clock 22 = .ok (.aload_n 3, 1) := by decide +kernel
theorem dX10_clock_23 : decode cX10_clock 23 = .ok (.iload_n 2, 1) := by decide +kernel
theorem dX10_clock_24 : decode cX10_clock 24 = .ok (.putfield 100, 3) := by decide +kernel
theorem dX10_clock_27 : decode cX10_clock 27 = .ok (.iload 4, 2) := by decide +kernel
theorem dX10_clock_29 : decode cX10_clock 29 = .ok (.ireturn, 1) := by decide +kernel
set_option maxRecDepth 20000 in
theorem ggX10_plate_X10_needRange : GoodIn wsX10_plate wsX10_needRange := goodIn_ca (goodIn_r _ [9, 10, 11] (by decide +kernel) (by decide +kernel)) (goodIn_sub (fun _ h => List.mem_cons_of_mem _ (List.mem_append_left _ (List.mem_append_right _ h))) (by decide +kernel))
set_option maxRecDepth 20000 in
theorem gX10_plate_X10_needRange : GoodIn wsX10_plate (va_wsS RX10 74 yX10_needRange wsX10_needRange) := goodIn_app (goodIn_of _ (by decide +kernel)) ggX10_plate_X10_needRange
set_option maxRecDepth 20000 in
theorem ggX10_plate_X10_needPlateZero : GoodIn wsX10_plate wsX10_needPlateZero := goodIn_ca (goodIn_r _ [14, 6, 7, 8, 9, 10, 11] (by decide +kernel) (by decide +kernel)) (goodIn_sub (fun _ h => List.mem_cons_of_mem _ (List.mem_append_left _ (List.mem_append_right _ h))) (by decide +kernel))
set_option maxRecDepth 20000 in
theorem gX10_plate_X10_needPlateZero : GoodIn wsX10_plate (va_wsS RX10 104 yX10_needPlateZero wsX10_needPlateZero) := goodIn_app (goodIn_of _ (by decide +kernel)) ggX10_plate_X10_needPlateZero
set_option maxRecDepth 20000 in
theorem ggX10_plate_Jx4a65c_size_8abf5 : GoodIn wsX10_plate wsJx4a65c_size_8abf5 := goodIn_r _ [19, 20, 105, 106, 107] (by decide +kernel) (by decide +kernel)
set_option maxRecDepth 20000 in
theorem gX10_plate_Jx4a65c_size_8abf5 : GoodIn wsX10_plate (wsV RX10 81 RJx4a65c yJx4a65c_size_8abf5 wsJx4a65c_size_8abf5) := goodIn_app (goodIn_of _ (by decide +kernel)) ggX10_plate_Jx4a65c_size_8abf5
set_option maxRecDepth 20000 in
theorem ggX10_plate_X10_needRoom : GoodIn wsX10_plate wsX10_needRoom := goodIn_ca (goodIn_r _ [23, 24, 25] (by decide +kernel) (by decide +kernel)) (goodIn_sub (fun _ h => List.mem_cons_of_mem _ (List.mem_append_right _ h)) (by decide +kernel))
set_option maxRecDepth 20000 in
theorem gX10_plate_X10_needRoom : GoodIn wsX10_plate (va_wsS RX10 85 yX10_needRoom wsX10_needRoom) := goodIn_app (goodIn_of _ (by decide +kernel)) ggX10_plate_X10_needRoom
set_option maxRecDepth 20000 in
theorem ggX10_plate_X4_init : GoodIn wsX10_plate wsX4_init := goodIn_r _ [28, 29, 30, 31, 32, 33, 34, 102, 103, 104] (by decide +kernel) (by decide +kernel)
set_option maxRecDepth 20000 in
theorem gX10_plate_X4_init : GoodIn wsX10_plate (wsX4_init) := ggX10_plate_X4_init
set_option maxRecDepth 20000 in
theorem ggX10_plate_Jx4a65c_add_9ea2d : GoodIn wsX10_plate wsJx4a65c_add_9ea2d := goodIn_r _ [38, 39, 40, 41, 20, 42, 43, 44, 18, 45, 46, 47, 48, 49, 50, 51, 52, 53, 54, 55, 56, 57, 58, 59, 60, 61, 62, 63, 64, 65, 66, 67, 68, 69, 70, 71, 72, 73, 74, 75, 76, 77, 78, 79, 80, 81, 82, 83, 84, 85, 86, 87, 88, 105, 106, 107] (by decide +kernel) (by decide +kernel)
set_option maxRecDepth 20000 in
theorem gX10_plate_Jx4a65c_add_9ea2d : GoodIn wsX10_plate (wsV RX10 63 RJx4a65c yJx4a65c_add_9ea2d wsJx4a65c_add_9ea2d) := goodIn_app (goodIn_of _ (by decide +kernel)) ggX10_plate_Jx4a65c_add_9ea2d
theorem dX10_plate_0 : decode cX10_plate 0 = .ok (.iload_n 1, 1) := by decide +kernel
theorem dX10_plate_1 : decode cX10_plate 1 = .ok (.iconst 0, 1) := by decide +kernel
theorem dX10_plate_2 : decode cX10_plate 2 = .ok (.ldc 103, 2) := by decide +kernel
theorem dX10_plate_4 : decode cX10_plate 4 = .ok (.invokestatic 74, 3) := by decide +kernel
theorem dX10_plate_7 : decode cX10_plate 7 = .ok (.iload_n 2, 1) := by decide +kernel
theorem dX10_plate_8 : decode cX10_plate 8 = .ok (.invokestatic 104, 3) := by decide +kernel
theorem dX10_plate_11 : decode cX10_plate 11 = .ok (.iload_n 3, 1) := by decide +kernel
theorem dX10_plate_12 : decode cX10_plate 12 = .ok (.iconst 1, 1) := by decide +kernel
theorem dX10_plate_13 : decode cX10_plate 13 = .ok (.bipush 20, 2) := by decide +kernel
theorem dX10_plate_15 : decode cX10_plate 15 = .ok (.invokestatic 74, 3) := by decide +kernel
theorem dX10_plate_18 : decode cX10_plate 18 = .ok (.aload_n 0, 1) := by decide +kernel
theorem dX10_plate_19 : decode cX10_plate 19 = .ok (.getfield 22, 3) := by decide +kernel
theorem dX10_plate_22 : decode cX10_plate 22 = .ok (.invokevirtual 81, 3) := by decide +kernel
theorem dX10_plate_25 : decode cX10_plate 25 = .ok (.istore 4, 2) := by decide +kernel
theorem dX10_plate_27 : decode cX10_plate 27 = .ok (.iload 4, 2) := by decide +kernel
theorem dX10_plate_29 : decode cX10_plate 29 = .ok (.bipush 8, 2) := by decide +kernel
theorem dX10_plate_31 : decode cX10_plate 31 = .ok (.invokestatic 85, 3) := by decide +kernel
theorem dX10_plate_34 : decode cX10_plate 34 = .ok (.aload_n 0, 1) := by decide +kernel
theorem dX10_plate_35 : decode cX10_plate 35 = .ok (.getfield 22, 3) := by decide +kernel
theorem dX10_plate_38 : decode cX10_plate 38 = .ok (.new 107, 3) := by decide +kernel
theorem dX10_plate_41 : decode cX10_plate 41 = .ok (.dup, 1) := by decide +kernel
theorem dX10_plate_42 : decode cX10_plate 42 = .ok (.iload_n 1, 1) := by decide +kernel
theorem dX10_plate_43 : decode cX10_plate 43 = .ok (.iload_n 2, 1) := by decide +kernel
theorem dX10_plate_44 : decode cX10_plate 44 = .ok (.iload_n 3, 1) := by decide +kernel
theorem dX10_plate_45 : decode cX10_plate 45 = .ok (.invokespecial 109, 3) := by decide +kernel
theorem dX10_plate_48 : decode cX10_plate 48 = .ok (.invokevirtual 63, 3) := by decide +kernel
theorem dX10_plate_51 : decode cX10_plate 51 = .ok (.pop, 1) := by decide +kernel
theorem dX10_plate_52 : decode cX10_plate 52 = .ok (.iload 4, 2) := by decide +kernel
theorem dX10_plate_54 : decode cX10_plate 54 = .ok (.ireturn, 1) := by decide +kernel
set_option maxRecDepth 20000 in
theorem ggX10_join_X10_plateAt : GoodIn wsX10_join wsX10_plateAt := goodIn_ca (goodIn_r _ [6, 7, 8, 9, 10, 11, 12, 13, 14, 15, 16, 17, 18, 19, 20, 21, 22, 23, 24, 25, 26, 27, 28, 29, 30, 31, 32, 33, 45, 46, 47, 48, 49, 50, 51, 52, 53, 54, 55, 56, 57, 58, 59, 60] (by decide +kernel) (by decide +kernel)) (goodIn_sub (fun _ h => List.mem_cons_of_mem _ (List.mem_append_left _ (List.mem_append_right _ h))) (by decide +kernel))
set_option maxRecDepth 20000 in
theorem gX10_join_X10_plateAt : GoodIn wsX10_join (wsV RX10 111 RX10 yX10_plateAt wsX10_plateAt) := goodIn_app (goodIn_of _ (by decide +kernel)) ggX10_join_X10_plateAt
set_option maxRecDepth 20000 in
theorem ggX10_join_X10_needPlateZero : GoodIn wsX10_join wsX10_needPlateZero := goodIn_ca (goodIn_r _ [36, 37, 38, 5, 39, 40, 41] (by decide +kernel) (by decide +kernel)) (goodIn_sub (fun _ h => List.mem_cons_of_mem _ (List.mem_append_right _ h)) (by decide +kernel))
set_option maxRecDepth 20000 in
theorem gX10_join_X10_needPlateZero : GoodIn wsX10_join (va_wsS RX10 104 yX10_needPlateZero wsX10_needPlateZero) := goodIn_app (goodIn_of _ (by decide +kernel)) ggX10_join_X10_needPlateZero
theorem dX10_join_0 : decode cX10_join 0 = .ok (.aload_n 0, 1) := by decide +kernel
theorem dX10_join_1 : decode cX10_join 1 = .ok (.iload_n 1, 1) := by decide +kernel
theorem dX10_join_2 : decode cX10_join 2 = .ok (.invokevirtual 111, 3) := by decide +kernel
theorem dX10_join_5 : decode cX10_join 5 = .ok (.astore_n 3, 1) := by decide +kernel
theorem dX10_join_6 : decode cX10_join 6 = .ok (.iload_n 2, 1) := by decide +kernel
theorem dX10_join_7 : decode cX10_join 7 = .ok (.invokestatic 104, 3) := by decide +kernel
theorem dX10_join_10 : decode cX10_join 10 = .ok (.aload_n 3, 1) := by decide +kernel
theorem dX10_join_11 : decode cX10_join 11 = .ok (.getfield 115, 3) := by decide +kernel
theorem dX10_join_14 : decode cX10_join 14 = .ok (.istore 4, 2) := by decide +kernel
theorem dX10_join_16 : decode cX10_join 16 = .ok (.aload_n 3, 1) := by decide +kernel
theorem dX10_join_17 : decode cX10_join 17 = .ok (.iload_n 2, 1) := by decide +kernel
theorem dX10_join_18 : decode cX10_join 18 = .ok (.putfield 115, 3) := by decide +kernel
theorem dX10_join_21 : decode cX10_join 21 = .ok (.iload 4, 2) := by decide +kernel
theorem dX10_join_23 : decode cX10_join 23 = .ok (.ireturn, 1) := by decide +kernel
set_option maxRecDepth 20000 in
theorem ggX10_step_X10_starAt : GoodIn wsX10_step wsX10_starAt := goodIn_ca (goodIn_r _ [12, 13, 14, 15, 16, 17, 18, 19, 20, 21, 22, 23, 24, 25, 26, 27, 28, 29, 30, 31, 32, 33, 34, 35, 36, 37, 38, 39, 131, 132, 133, 134, 135, 136, 137, 138, 139, 140, 141, 142, 143, 152, 153, 154] (by decide +kernel) (by decide +kernel)) (goodIn_sub (fun _ h => List.mem_cons_of_mem _ (List.mem_append_left _ (List.mem_append_right _ h))) (by decide +kernel))
set_option maxRecDepth 20000 in
theorem gX10_step_X10_starAt : GoodIn wsX10_step (wsV RX10 118 RX10 yX10_starAt wsX10_starAt) := goodIn_app (goodIn_of _ (by decide +kernel)) ggX10_step_X10_starAt
set_option maxRecDepth 20000 in
theorem ggX10_step_X10_watcherAt : GoodIn wsX10_step wsX10_watcherAt := goodIn_ca (goodIn_r _ [43, 13, 14, 44, 45, 17, 18, 19, 20, 21, 22, 23, 24, 25, 26, 27, 28, 29, 30, 31, 32, 33, 34, 35, 36, 37, 38, 39, 131, 132, 133, 134, 135, 136, 137, 138, 139, 140, 141, 142, 143, 152, 153, 154] (by decide +kernel) (by decide +kernel)) (goodIn_sub (fun _ h => List.mem_cons_of_mem _ (List.mem_append_left _ (List.mem_append_right _ h))) (by decide +kernel))
set_option maxRecDepth 20000 in
theorem gX10_step_X10_watcherAt : GoodIn wsX10_step (wsV RX10 93 RX10 yX10_watcherAt wsX10_watcherAt) := goodIn_app (goodIn_of _ (by decide +kernel)) ggX10_step_X10_watcherAt
set_option maxRecDepth 20000 in
theorem ggX10_step_X10_comparisonAt : GoodIn wsX10_step wsX10_comparisonAt := goodIn_ca (goodIn_r _ [49, 13, 14, 50, 51, 17, 18, 19, 20, 21, 22, 23, 24, 25, 26, 27, 28, 29, 30, 31, 32, 33, 34, 35, 36, 37, 38, 39, 131, 132, 133, 134, 135, 136, 137, 138, 139, 140, 141, 142, 143, 152, 153, 154] (by decide +kernel) (by decide +kernel)) (goodIn_sub (fun _ h => List.mem_cons_of_mem _ (List.mem_append_left _ (List.mem_append_right _ h))) (by decide +kernel))
set_option maxRecDepth 20000 in
theorem gX10_step_X10_comparisonAt : GoodIn wsX10_step (wsV RX10 70 RX10 yX10_comparisonAt wsX10_comparisonAt) := goodIn_app (goodIn_of _ (by decide +kernel)) ggX10_step_X10_comparisonAt
set_option maxRecDepth 20000 in
theorem ggX10_step_X10_needRange : GoodIn wsX10_step wsX10_needRange := goodIn_ca (goodIn_r _ [54, 1, 2] (by decide +kernel) (by decide +kernel)) (goodIn_sub (fun _ h => List.mem_cons_of_mem _ (List.mem_append_left _ (List.mem_append_left _ (List.mem_append_right _ h)))) (by decide +kernel))
set_option maxRecDepth 20000 in
theorem gX10_step_X10_needRange : GoodIn wsX10_step (va_wsS RX10 74 yX10_needRange wsX10_needRange) := goodIn_app (goodIn_of _ (by decide +kernel)) ggX10_step_X10_needRange
set_option maxRecDepth 20000 in
theorem ggX10_step_Jx4a65c_size_8abf5 : GoodIn wsX10_step wsJx4a65c_size_8abf5 := goodIn_r _ [21, 22, 152, 153, 154] (by decide +kernel) (by decide +kernel)
set_option maxRecDepth 20000 in
theorem gX10_step_Jx4a65c_size_8abf5 : GoodIn wsX10_step (wsV RX10 81 RJx4a65c yJx4a65c_size_8abf5 wsJx4a65c_size_8abf5) := goodIn_app (goodIn_of _ (by decide +kernel)) ggX10_step_Jx4a65c_size_8abf5
set_option maxRecDepth 20000 in
theorem ggX10_step_X10_needRoom : GoodIn wsX10_step wsX10_needRoom := goodIn_ca (goodIn_r _ [57, 58, 59] (by decide +kernel) (by decide +kernel)) (goodIn_sub (fun _ h => List.mem_cons_of_mem _ (List.mem_append_right _ h)) (by decide +kernel))
set_option maxRecDepth 20000 in
theorem gX10_step_X10_needRoom : GoodIn wsX10_step (va_wsS RX10 85 yX10_needRoom wsX10_needRoom) := goodIn_app (goodIn_of _ (by decide +kernel)) ggX10_step_X10_needRoom
set_option maxRecDepth 20000 in
theorem ggX10_step_X8_init : GoodIn wsX10_step wsX8_init := goodIn_r _ [62, 63, 64, 65, 66, 67, 68, 69, 70, 71, 72, 73, 74, 75, 76, 77, 144, 145, 146, 147, 148, 149, 150, 151, 155, 156, 157, 158] (by decide +kernel) (by decide +kernel)
set_option maxRecDepth 20000 in
theorem gX10_step_X8_init : GoodIn wsX10_step (wsX8_init) := ggX10_step_X8_init
set_option maxRecDepth 20000 in
theorem ggX10_step_Jx4a65c_add_9ea2d : GoodIn wsX10_step wsJx4a65c_add_9ea2d := goodIn_r _ [81, 82, 83, 39, 22, 84, 85, 86, 20, 87, 88, 89, 90, 91, 92, 93, 94, 95, 96, 97, 98, 99, 100, 101, 102, 103, 104, 105, 106, 107, 108, 109, 110, 111, 112, 113, 114, 115, 116, 117, 118, 119, 120, 121, 122, 123, 124, 125, 126, 127, 128, 129, 130, 152, 153, 154] (by decide +kernel) (by decide +kernel)
set_option maxRecDepth 20000 in
theorem gX10_step_Jx4a65c_add_9ea2d : GoodIn wsX10_step (wsV RX10 63 RJx4a65c yJx4a65c_add_9ea2d wsJx4a65c_add_9ea2d) := goodIn_app (goodIn_of _ (by decide +kernel)) ggX10_step_Jx4a65c_add_9ea2d
theorem dX10_step_0 : decode cX10_step 0 = .ok (.aload_n 0, 1) := by decide +kernel
theorem dX10_step_1 : decode cX10_step 1 = .ok (.iload_n 1, 1) := by decide +kernel
theorem dX10_step_2 : decode cX10_step 2 = .ok (.invokevirtual 118, 3) := by decide +kernel
theorem dX10_step_5 : decode cX10_step 5 = .ok (.astore 8, 2) := by decide +kernel
theorem dX10_step_7 : decode cX10_step 7 = .ok (.aload_n 0, 1) := by decide +kernel
theorem dX10_step_8 : decode cX10_step 8 = .ok (.iload_n 2, 1) := by decide +kernel
theorem dX10_step_9 : decode cX10_step 9 = .ok (.invokevirtual 93, 3) := by decide +kernel
theorem dX10_step_12 : decode cX10_step 12 = .ok (.astore 9, 2) := by decide +kernel
theorem dX10_step_14 : decode cX10_step 14 = .ok (.aload_n 0, 1) := by decide +kernel
theorem dX10_step_15 : decode cX10_step 15 = .ok (.iload 4, 2) := by decide +kernel
theorem dX10_step_17 : decode cX10_step 17 = .ok (.invokevirtual 70, 3) := by decide +kernel
theorem dX10_step_20 : decode cX10_step 20 = .ok (.astore 10, 2) := by decide +kernel
theorem dX10_step_22 : decode cX10_step 22 = .ok (.aload_n 0, 1) := by decide +kernel
theorem dX10_step_23 : decode cX10_step 23 = .ok (.iload 7, 2) := by decide +kernel
theorem dX10_step_25 : decode cX10_step 25 = .ok (.invokevirtual 70, 3) := by decide +kernel
theorem dX10_step_28 : decode cX10_step 28 = .ok (.astore 11, 2) := by decide +kernel
theorem dX10_step_30 : decode cX10_step 30 = .ok (.iload_n 3, 1) := by decide +kernel
theorem dX10_step_31 : decode cX10_step 31 = .ok (.iconst 0, 1) := by decide +kernel
theorem dX10_step_32 : decode cX10_step 32 = .ok (.ldc 103, 2) := by decide +kernel
theorem dX10_step_34 : decode cX10_step 34 = .ok (.invokestatic 74, 3) := by decide +kernel
theorem dX10_step_37 : decode cX10_step 37 = .ok (.iload 5, 2) := by decide +kernel
theorem dX10_step_39 : decode cX10_step 39 = .ok (.iconst 0, 1) := by decide +kernel
theorem dX10_step_40 : decode cX10_step 40 = .ok (.bipush 9, 2) := by decide +kernel
theorem dX10_step_42 : decode cX10_step 42 = .ok (.invokestatic 74, 3) := by decide +kernel
theorem dX10_step_45 : decode cX10_step 45 = .ok (.iload 6, 2) := by decide +kernel
theorem dX10_step_47 : decode cX10_step 47 = .ok (.iconst 0, 1) := by decide +kernel
theorem dX10_step_48 : decode cX10_step 48 = .ok (.bipush 9, 2) := by decide +kernel
theorem dX10_step_50 : decode cX10_step 50 = .ok (.invokestatic 74, 3) := by decide +kernel
theorem dX10_step_53 : decode cX10_step 53 = .ok (.iload 5, 2) := by decide +kernel
theorem dX10_step_55 : decode cX10_step 55 = .ok (.iload 6, 2) := by decide +kernel
theorem dX10_step_57 : decode cX10_step 57 = .ok (.iadd, 1) := by decide +kernel
theorem dX10_step_58 : decode cX10_step 58 = .ok (.ifCond .eq 10, 3) := by decide +kernel
theorem dX10_step_61 : decode cX10_step 61 = .ok (.iload 4, 2) := by decide +kernel
theorem dX10_step_63 : decode cX10_step 63 = .ok (.iload 7, 2) := by decide +kernel
theorem dX10_step_65 : decode cX10_step 65 = .ok (.if_icmp .ne 13, 3) := by decide +kernel
theorem dX10_step_68 : decode cX10_step 68 = .ok (.new 122, 3) := by decide +kernel
theorem dX10_step_71 : decode cX10_step 71 = .ok (.dup, 1) := by decide +kernel
theorem dX10_step_72 : decode cX10_step 72 = .ok (.ldc 124, 2) := by decide +kernel
theorem dX10_step_74 : decode cX10_step 74 = .ok (.invokespecial 126, 3) := by decide +kernel
theorem dX10_step_77 : decode cX10_step 77 = .ok (.athrow, 1) := by decide +kernel
theorem dX10_step_78 : decode cX10_step 78 = .ok (.aload_n 0, 1) := by decide +kernel
theorem dX10_step_79 : decode cX10_step 79 = .ok (.getfield 25, 3) := by decide +kernel
theorem dX10_step_82 : decode cX10_step 82 = .ok (.invokevirtual 81, 3) := by decide +kernel
theorem dX10_step_85 : decode cX10_step 85 = .ok (.istore 12, 2) := by decide +kernel
theorem dX10_step_87 : decode cX10_step 87 = .ok (.iload 12, 2) := by decide +kernel
theorem dX10_step_89 : decode cX10_step 89 = .ok (.bipush 80, 2) := by decide +kernel
theorem dX10_step_91 : decode cX10_step 91 = .ok (.invokestatic 85, 3) := by decide +kernel
theorem dX10_step_94 : decode cX10_step 94 = .ok (.aload_n 0, 1) := by decide +kernel
theorem dX10_step_95 : decode cX10_step 95 = .ok (.getfield 25, 3) := by decide +kernel
theorem dX10_step_98 : decode cX10_step 98 = .ok (.new 129, 3) := by decide +kernel
theorem dX10_step_101 : decode cX10_step 101 = .ok (.dup, 1) := by decide +kernel
theorem dX10_step_102 : decode cX10_step 102 = .ok (.aload 8, 2) := by decide +kernel
theorem dX10_step_104 : decode cX10_step 104 = .ok (.aload 9, 2) := by decide +kernel
theorem dX10_step_106 : decode cX10_step 106 = .ok (.iload_n 3, 1) := by decide +kernel
theorem dX10_step_107 : decode cX10_step 107 = .ok (.aload 10, 2) := by decide +kernel
theorem dX10_step_109 : decode cX10_step 109 = .ok (.iload 5, 2) := by decide +kernel
theorem dX10_step_111 : decode cX10_step 111 = .ok (.iload 6, 2) := by decide +kernel
theorem dX10_step_113 : decode cX10_step 113 = .ok (.aload 11, 2) := by decide +kernel
theorem dX10_step_115 : decode cX10_step 115 = .ok (.invokespecial 131, 3) := by decide +kernel
theorem dX10_step_118 : decode cX10_step 118 = .ok (.invokevirtual 63, 3) := by decide +kernel
theorem dX10_step_121 : decode cX10_step 121 = .ok (.pop, 1) := by decide +kernel
theorem dX10_step_122 : decode cX10_step 122 = .ok (.iload 12, 2) := by decide +kernel
theorem dX10_step_124 : decode cX10_step 124 = .ok (.ireturn, 1) := by decide +kernel
set_option maxRecDepth 20000 in
theorem ggX10_density_X10_starAt : GoodIn wsX10_density wsX10_starAt := goodIn_ca (goodIn_r _ [9, 10, 11, 12, 13, 14, 15, 16, 17, 18, 19, 20, 21, 22, 23, 24, 25, 26, 27, 28, 29, 30, 31, 32, 33, 34, 35, 36, 120, 121, 122, 123, 124, 125, 126, 127, 128, 129, 130, 131, 132, 137, 138, 139] (by decide +kernel) (by decide +kernel)) (goodIn_sub (fun _ h => List.mem_cons_of_mem _ (List.mem_append_left _ (List.mem_append_left _ (List.mem_append_right _ h)))) (by decide +kernel))
set_option maxRecDepth 20000 in
theorem gX10_density_X10_starAt : GoodIn wsX10_density (wsV RX10 118 RX10 yX10_starAt wsX10_starAt) := goodIn_app (goodIn_of _ (by decide +kernel)) ggX10_density_X10_starAt
set_option maxRecDepth 20000 in
theorem ggX10_density_X10_plateAt : GoodIn wsX10_density wsX10_plateAt := goodIn_ca (goodIn_r _ [40, 10, 11, 41, 42, 14, 15, 16, 17, 18, 19, 20, 21, 22, 23, 24, 25, 26, 27, 28, 29, 30, 31, 32, 33, 34, 35, 36, 120, 121, 122, 123, 124, 125, 126, 127, 128, 129, 130, 131, 132, 137, 138, 139] (by decide +kernel) (by decide +kernel)) (goodIn_sub (fun _ h => List.mem_cons_of_mem _ (List.mem_append_left _ (List.mem_append_left _ (List.mem_append_right _ h)))) (by decide +kernel))
set_option maxRecDepth 20000 in
theorem gX10_density_X10_plateAt : GoodIn wsX10_density (wsV RX10 111 RX10 yX10_plateAt wsX10_plateAt) := goodIn_app (goodIn_of _ (by decide +kernel)) ggX10_density_X10_plateAt
set_option maxRecDepth 20000 in
theorem ggX10_density_X10_needRange : GoodIn wsX10_density wsX10_needRange := goodIn_ca (goodIn_r _ [45, 46, 47] (by decide +kernel) (by decide +kernel)) (goodIn_sub (fun _ h => List.mem_cons_of_mem _ (List.mem_append_left _ (List.mem_append_right _ h))) (by decide +kernel))
set_option maxRecDepth 20000 in
theorem gX10_density_X10_needRange : GoodIn wsX10_density (va_wsS RX10 74 yX10_needRange wsX10_needRange) := goodIn_app (goodIn_of _ (by decide +kernel)) ggX10_density_X10_needRange
set_option maxRecDepth 20000 in
theorem ggX10_density_Jx4a65c_size_8abf5 : GoodIn wsX10_density wsJx4a65c_size_8abf5 := goodIn_r _ [18, 19, 137, 138, 139] (by decide +kernel) (by decide +kernel)
set_option maxRecDepth 20000 in
theorem gX10_density_Jx4a65c_size_8abf5 : GoodIn wsX10_density (wsV RX10 81 RJx4a65c yJx4a65c_size_8abf5 wsJx4a65c_size_8abf5) := goodIn_app (goodIn_of _ (by decide +kernel)) ggX10_density_Jx4a65c_size_8abf5
set_option maxRecDepth 20000 in
theorem ggX10_density_X10_needRoom : GoodIn wsX10_density wsX10_needRoom := goodIn_ca (goodIn_r _ [50, 51, 52] (by decide +kernel) (by decide +kernel)) (goodIn_sub (fun _ h => List.mem_cons_of_mem _ (List.mem_append_right _ h)) (by decide +kernel))
set_option maxRecDepth 20000 in
theorem gX10_density_X10_needRoom : GoodIn wsX10_density (va_wsS RX10 85 yX10_needRoom wsX10_needRoom) := goodIn_app (goodIn_of _ (by decide +kernel)) ggX10_density_X10_needRoom
set_option maxRecDepth 20000 in
theorem ggX10_density_X1_init : GoodIn wsX10_density wsX1_init := goodIn_r _ [55, 56, 57, 58, 59, 60, 61, 62, 63, 64, 65, 66, 133, 134, 135, 136, 140, 141, 142, 143, 144, 145, 146, 147] (by decide +kernel) (by decide +kernel)
set_option maxRecDepth 20000 in
theorem gX10_density_X1_init : GoodIn wsX10_density (wsX1_init) := ggX10_density_X1_init
set_option maxRecDepth 20000 in
theorem ggX10_density_Jx4a65c_add_9ea2d : GoodIn wsX10_density wsJx4a65c_add_9ea2d := goodIn_r _ [70, 71, 72, 36, 19, 73, 74, 75, 17, 76, 77, 78, 79, 80, 81, 82, 83, 84, 85, 86, 87, 88, 89, 90, 91, 92, 93, 94, 95, 96, 97, 98, 99, 100, 101, 102, 103, 104, 105, 106, 107, 108, 109, 110, 111, 112, 113, 114, 115, 116, 117, 118, 119, 137, 138, 139] (by decide +kernel) (by decide +kernel)
set_option maxRecDepth 20000 in
theorem gX10_density_Jx4a65c_add_9ea2d : GoodIn wsX10_density (wsV RX10 63 RJx4a65c yJx4a65c_add_9ea2d wsJx4a65c_add_9ea2d) := goodIn_app (goodIn_of _ (by decide +kernel)) ggX10_density_Jx4a65c_add_9ea2d
theorem dX10_density_0 : decode cX10_density 0 = .ok (.aload_n 0, 1) := by decide +kernel
theorem dX10_density_1 : decode cX10_density 1 = .ok (.iload_n 1, 1) := by decide +kernel
theorem dX10_density_2 : decode cX10_density 2 = .ok (.invokevirtual 118, 3) := by decide +kernel
theorem dX10_density_5 : decode cX10_density 5 = .ok (.astore 4, 2) := by decide +kernel
theorem dX10_density_7 : decode cX10_density 7 = .ok (.aload_n 0, 1) := by decide +kernel
theorem dX10_density_8 : decode cX10_density 8 = .ok (.iload_n 2, 1) := by decide +kernel
theorem dX10_density_9 : decode cX10_density 9 = .ok (.invokevirtual 111, 3) := by decide +kernel
theorem dX10_density_12 : decode cX10_density 12 = .ok (.astore 5, 2) := by decide +kernel
theorem dX10_density_14 : decode cX10_density 14 = .ok (.iload_n 3, 1) := by decide +kernel
theorem dX10_density_15 : decode cX10_density 15 = .ok (.iconst 0, 1) := by decide +kernel
theorem dX10_density_16 : decode cX10_density 16 = .ok (.sipush 255, 3) := by decide +kernel
theorem dX10_density_19 : decode cX10_density 19 = .ok (.invokestatic 74, 3) := by decide +kernel
theorem dX10_density_22 : decode cX10_density 22 = .ok (.aload_n 0, 1) := by decide +kernel
theorem dX10_density_23 : decode cX10_density 23 = .ok (.getfield 25, 3) := by decide +kernel
theorem dX10_density_26 : decode cX10_density 26 = .ok (.invokevirtual 81, 3) := by decide +kernel
theorem dX10_density_29 : decode cX10_density 29 = .ok (.istore 6, 2) := by decide +kernel
theorem dX10_density_31 : decode cX10_density 31 = .ok (.iload 6, 2) := by decide +kernel
theorem dX10_density_33 : decode cX10_density 33 = .ok (.bipush 80, 2) := by decide +kernel
theorem dX10_density_35 : decode cX10_density 35 = .ok (.invokestatic 85, 3) := by decide +kernel
theorem dX10_density_38 : decode cX10_density 38 = .ok (.aload_n 0, 1) := by decide +kernel
theorem dX10_density_39 : decode cX10_density 39 = .ok (.getfield 25, 3) := by decide +kernel
theorem dX10_density_42 : decode cX10_density 42 = .ok (.new 134, 3) := by decide +kernel
theorem dX10_density_45 : decode cX10_density 45 = .ok (.dup, 1) := by decide +kernel
theorem dX10_density_46 : decode cX10_density 46 = .ok (.aload 4, 2) := by decide +kernel
theorem dX10_density_48 : decode cX10_density 48 = .ok (.aload 5, 2) := by decide +kernel
theorem dX10_density_50 : decode cX10_density 50 = .ok (.iload_n 3, 1) := by decide +kernel
theorem dX10_density_51 : decode cX10_density 51 = .ok (.invokespecial 136, 3) := by decide +kernel
theorem dX10_density_54 : decode cX10_density 54 = .ok (.invokevirtual 63, 3) := by decide +kernel
theorem dX10_density_57 : decode cX10_density 57 = .ok (.pop, 1) := by decide +kernel
theorem dX10_density_58 : decode cX10_density 58 = .ok (.iload 6, 2) := by decide +kernel
theorem dX10_density_60 : decode cX10_density 60 = .ok (.ireturn, 1) := by decide +kernel
set_option maxRecDepth 20000 in
theorem ggX10_doubt_X10_lookAt : GoodIn wsX10_doubt wsX10_lookAt := goodIn_ca (goodIn_r _ [6, 7, 8, 9, 10, 11, 12, 13, 14, 15, 16, 17, 18, 19, 20, 21, 22, 23, 24, 25, 26, 27, 28, 29, 30, 31, 32, 33, 46, 47, 48, 49, 50, 51, 52, 53, 54, 55, 56, 57, 58, 59, 60, 61] (by decide +kernel) (by decide +kernel)) (goodIn_sub (fun _ h => List.mem_cons_of_mem _ (List.mem_append_right _ h)) (by decide +kernel))
set_option maxRecDepth 20000 in
theorem gX10_doubt_X10_lookAt : GoodIn wsX10_doubt (wsV RX10 139 RX10 yX10_lookAt wsX10_lookAt) := goodIn_app (goodIn_of _ (by decide +kernel)) ggX10_doubt_X10_lookAt
theorem dX10_doubt_0 : decode cX10_doubt 0 = .ok (.aload_n 0, 1) := by decide +kernel
theorem dX10_doubt_1 : decode cX10_doubt 1 = .ok (.iload_n 1, 1) := by decide +kernel
theorem dX10_doubt_2 : decode cX10_doubt 2 = .ok (.invokevirtual 139, 3) := by decide +kernel
theorem dX10_doubt_5 : decode cX10_doubt 5 = .ok (.astore_n 3, 1) := by decide +kernel
theorem dX10_doubt_6 : decode cX10_doubt 6 = .ok (.aload_n 3, 1) := by decide +kernel
theorem dX10_doubt_7 : decode cX10_doubt 7 = .ok (.getfield 143, 3) := by decide +kernel
theorem dX10_doubt_10 : decode cX10_doubt 10 = .ok (.istore 4, 2) := by decide +kernel
theorem dX10_doubt_12 : decode cX10_doubt 12 = .ok (.aload_n 3, 1) := by decide +kernel
theorem dX10_doubt_13 : decode cX10_doubt 13 = .ok (.iload_n 2, 1) := by decide +kernel
theorem dX10_doubt_14 : decode cX10_doubt 14 = .ok (.putfield 143, 3) := by decide +kernel
theorem dX10_doubt_17 : decode cX10_doubt 17 = .ok (.iload 4, 2) := by decide +kernel
theorem dX10_doubt_19 : decode cX10_doubt 19 = .ok (.ireturn, 1) := by decide +kernel
set_option maxRecDepth 20000 in
theorem ggX10_minimum_X10_starAt : GoodIn wsX10_minimum wsX10_starAt := goodIn_ca (goodIn_r _ [10, 11, 12, 13, 14, 15, 16, 17, 18, 19, 20, 21, 22, 23, 24, 25, 26, 27, 28, 29, 30, 31, 32, 33, 34, 35, 36, 37, 109, 110, 111, 112, 113, 114, 115, 116, 117, 118, 119, 120, 121, 124, 125, 126] (by decide +kernel) (by decide +kernel)) (goodIn_sub (fun _ h => List.mem_cons_of_mem _ (List.mem_append_left _ (List.mem_append_left _ (List.mem_append_right _ h)))) (by decide +kernel))
set_option maxRecDepth 20000 in
theorem gX10_minimum_X10_starAt : GoodIn wsX10_minimum (wsV RX10 118 RX10 yX10_starAt wsX10_starAt) := goodIn_app (goodIn_of _ (by decide +kernel)) ggX10_minimum_X10_starAt
set_option maxRecDepth 20000 in
theorem ggX10_minimum_X10_needRange : GoodIn wsX10_minimum wsX10_needRange := goodIn_ca (goodIn_r _ [40, 41, 42] (by decide +kernel) (by decide +kernel)) (goodIn_sub (fun _ h => List.mem_cons_of_mem _ (List.mem_append_left _ (List.mem_append_right _ h))) (by decide +kernel))
set_option maxRecDepth 20000 in
theorem gX10_minimum_X10_needRange : GoodIn wsX10_minimum (va_wsS RX10 74 yX10_needRange wsX10_needRange) := goodIn_app (goodIn_of _ (by decide +kernel)) ggX10_minimum_X10_needRange
set_option maxRecDepth 20000 in
theorem ggX10_minimum_Jx4a65c_size_8abf5 : GoodIn wsX10_minimum wsJx4a65c_size_8abf5 := goodIn_r _ [19, 20, 124, 125, 126] (by decide +kernel) (by decide +kernel)
set_option maxRecDepth 20000 in
theorem gX10_minimum_Jx4a65c_size_8abf5 : GoodIn wsX10_minimum (wsV RX10 81 RJx4a65c yJx4a65c_size_8abf5 wsJx4a65c_size_8abf5) := goodIn_app (goodIn_of _ (by decide +kernel)) ggX10_minimum_Jx4a65c_size_8abf5
set_option maxRecDepth 20000 in
theorem ggX10_minimum_X10_needRoom : GoodIn wsX10_minimum wsX10_needRoom := goodIn_ca (goodIn_r _ [45, 46, 47] (by decide +kernel) (by decide +kernel)) (goodIn_sub (fun _ h => List.mem_cons_of_mem _ (List.mem_append_right _ h)) (by decide +kernel))
set_option maxRecDepth 20000 in
theorem gX10_minimum_X10_needRoom : GoodIn wsX10_minimum (va_wsS RX10 85 yX10_needRoom wsX10_needRoom) := goodIn_app (goodIn_of _ (by decide +kernel)) ggX10_minimum_X10_needRoom
set_option maxRecDepth 20000 in
theorem ggX10_minimum_X3_init : GoodIn wsX10_minimum wsX3_init := goodIn_r _ [50, 51, 52, 53, 54, 55, 122, 123] (by decide +kernel) (by decide +kernel)
set_option maxRecDepth 20000 in
theorem gX10_minimum_X3_init : GoodIn wsX10_minimum (wsX3_init) := ggX10_minimum_X3_init
set_option maxRecDepth 20000 in
theorem ggX10_minimum_Jx4a65c_add_9ea2d : GoodIn wsX10_minimum wsJx4a65c_add_9ea2d := goodIn_r _ [59, 60, 61, 37, 20, 62, 63, 64, 18, 65, 66, 67, 68, 69, 70, 71, 72, 73, 74, 75, 76, 77, 78, 79, 80, 81, 82, 83, 84, 85, 86, 87, 88, 89, 90, 91, 92, 93, 94, 95, 96, 97, 98, 99, 100, 101, 102, 103, 104, 105, 106, 107, 108, 124, 125, 126] (by decide +kernel) (by decide +kernel)
set_option maxRecDepth 20000 in
theorem gX10_minimum_Jx4a65c_add_9ea2d : GoodIn wsX10_minimum (wsV RX10 63 RJx4a65c yJx4a65c_add_9ea2d wsJx4a65c_add_9ea2d) := goodIn_app (goodIn_of _ (by decide +kernel)) ggX10_minimum_Jx4a65c_add_9ea2d
theorem dX10_minimum_0 : decode cX10_minimum 0 = .ok (.aload_n 0, 1) := by decide +kernel
theorem dX10_minimum_1 : decode cX10_minimum 1 = .ok (.iload_n 1, 1) := by decide +kernel
theorem dX10_minimum_2 : decode cX10_minimum 2 = .ok (.invokevirtual 118, 3) := by decide +kernel
theorem dX10_minimum_5 : decode cX10_minimum 5 = .ok (.astore_n 3, 1) := by decide +kernel
theorem dX10_minimum_6 : decode cX10_minimum 6 = .ok (.iload_n 2, 1) := by decide +kernel
theorem dX10_minimum_7 : decode cX10_minimum 7 = .ok (.iconst 0, 1) := by decide +kernel
theorem dX10_minimum_8 : decode cX10_minimum 8 = .ok (.ldc 103, 2) := by decide +kernel
theorem dX10_minimum_10 : decode cX10_minimum 10 = .ok (.invokestatic 74, 3) := by decide +kernel
theorem dX10_minimum_13 : decode cX10_minimum 13 = .ok (.aload_n 0, 1) := by decide +kernel
theorem dX10_minimum_14 : decode cX10_minimum 14 = .ok (.getfield 31, 3) := by decide +kernel
theorem dX10_minimum_17 : decode cX10_minimum 17 = .ok (.invokevirtual 81, 3) := by decide +kernel
theorem dX10_minimum_20 : decode cX10_minimum 20 = .ok (.istore 4, 2) := by decide +kernel
theorem dX10_minimum_22 : decode cX10_minimum 22 = .ok (.iload 4, 2) := by decide +kernel
theorem dX10_minimum_24 : decode cX10_minimum 24 = .ok (.bipush 30, 2) := by decide +kernel
theorem dX10_minimum_26 : decode cX10_minimum 26 = .ok (.invokestatic 85, 3) := by decide +kernel
theorem dX10_minimum_29 : decode cX10_minimum 29 = .ok (.aload_n 0, 1) := by decide +kernel
theorem dX10_minimum_30 : decode cX10_minimum 30 = .ok (.getfield 31, 3) := by decide +kernel
theorem dX10_minimum_33 : decode cX10_minimum 33 = .ok (.new 149, 3) := by decide +kernel
theorem dX10_minimum_36 : decode cX10_minimum 36 = .ok (.dup, 1) := by decide +kernel
theorem dX10_minimum_37 : decode cX10_minimum 37 = .ok (.aload_n 3, 1) := by decide +kernel
theorem dX10_minimum_38 : decode cX10_minimum 38 = .ok (.iload_n 2, 1) := by decide +kernel
theorem dX10_minimum_39 : decode cX10_minimum 39 = .ok (.invokespecial 151, 3) := by decide +kernel
theorem dX10_minimum_42 : decode cX10_minimum 42 = .ok (.invokevirtual 63, 3) := by decide +kernel
theorem dX10_minimum_45 : decode cX10_minimum 45 = .ok (.pop, 1) := by decide +kernel
theorem dX10_minimum_46 : decode cX10_minimum 46 = .ok (.iload 4, 2) := by decide +kernel
theorem dX10_minimum_48 : decode cX10_minimum 48 = .ok (.ireturn, 1) := by decide +kernel
set_option maxRecDepth 20000 in
theorem ggX10_merge_X10_starAt : GoodIn wsX10_merge wsX10_starAt := goodIn_ca (goodIn_r _ [15, 16, 17, 18, 19, 20, 21, 22, 23, 24, 25, 26, 27, 28, 29, 30, 31, 32, 33, 34, 35, 36, 37, 38, 39, 40, 41, 42, 52, 53, 54, 55, 56, 57, 58, 59, 60, 61, 62, 63, 64, 65, 66, 67] (by decide +kernel) (by decide +kernel)) (goodIn_sub (fun _ h => List.mem_cons_of_mem _ (List.mem_append_right _ h)) (by decide +kernel))
set_option maxRecDepth 20000 in
theorem gX10_merge_X10_starAt : GoodIn wsX10_merge (wsV RX10 118 RX10 yX10_starAt wsX10_starAt) := goodIn_app (goodIn_of _ (by decide +kernel)) ggX10_merge_X10_starAt
set_option maxRecDepth 20000 in
theorem ggX10_merge_X10_renumber : GoodIn wsX10_merge wsX10_renumber := goodIn_r _ [46, 18, 19, 3, 20, 21, 22, 23, 24, 25, 26, 27, 28, 29, 30, 31, 32, 33, 34, 35, 36, 37, 38, 39, 40, 41, 42, 52, 53, 54, 55, 56, 57, 58, 59, 60, 61, 62, 63, 64, 47, 48, 49, 50, 51, 65, 66, 67] (by decide +kernel) (by decide +kernel)
set_option maxRecDepth 20000 in
theorem gX10_merge_X10_renumber : GoodIn wsX10_merge (wsV RX10 171 RX10 yX10_renumber wsX10_renumber) := goodIn_app (goodIn_of _ (by decide +kernel)) ggX10_merge_X10_renumber
theorem dX10_merge_0 : decode cX10_merge 0 = .ok (.aload_n 0, 1) := by decide +kernel
theorem dX10_merge_1 : decode cX10_merge 1 = .ok (.iload_n 1, 1) := by decide +kernel
theorem dX10_merge_2 : decode cX10_merge 2 = .ok (.invokevirtual 118, 3) := by decide +kernel
theorem dX10_merge_5 : decode cX10_merge 5 = .ok (.getfield 154, 3) := by decide +kernel
theorem dX10_merge_8 : decode cX10_merge 8 = .ok (.istore_n 3, 1) := by decide +kernel
theorem dX10_merge_9 : decode cX10_merge 9 = .ok (.aload_n 0, 1) := by decide +kernel
theorem dX10_merge_10 : decode cX10_merge 10 = .ok (.iload_n 2, 1) := by decide +kernel
theorem dX10_merge_11 : decode cX10_merge 11 = .ok (.invokevirtual 118, 3) := by decide +kernel
theorem dX10_merge_14 : decode cX10_merge 14 = .ok (.getfield 154, 3) := by decide +kernel
theorem dX10_merge_17 : decode cX10_merge 17 = .ok (.istore 4, 2) := by decide +kernel
theorem dX10_merge_19 : decode cX10_merge 19 = .ok (.iload_n 3, 1) := by decide +kernel
theorem dX10_merge_20 : decode cX10_merge 20 = .ok (.iload 4, 2) := by decide +kernel
theorem dX10_merge_22 : decode cX10_merge 22 = .ok (.if_icmp .ne 13, 3) := by decide +kernel
theorem dX10_merge_25 : decode cX10_merge 25 = .ok (.new 157, 3) := by decide +kernel
theorem dX10_merge_28 : decode cX10_merge 28 = .ok (.dup, 1) := by decide +kernel
theorem dX10_merge_29 : decode cX10_merge 29 = .ok (.ldc 159, 2) := by decide +kernel
theorem dX10_merge_31 : decode cX10_merge 31 = .ok (.invokespecial 161, 3) := by decide +kernel
theorem dX10_merge_34 : decode cX10_merge 34 = .ok (.athrow, 1) := by decide +kernel
theorem dX10_merge_35 : decode cX10_merge 35 = .ok (.iload_n 3, 1) := by decide +kernel
theorem dX10_merge_36 : decode cX10_merge 36 = .ok (.iload 4, 2) := by decide +kernel
theorem dX10_merge_38 : decode cX10_merge 38 = .ok (.invokestatic 162, 3) := by decide +kernel
theorem dX10_merge_41 : decode cX10_merge 41 = .ok (.istore 5, 2) := by decide +kernel
theorem dX10_merge_43 : decode cX10_merge 43 = .ok (.aload_n 0, 1) := by decide +kernel
theorem dX10_merge_44 : decode cX10_merge 44 = .ok (.iload_n 3, 1) := by decide +kernel
theorem dX10_merge_45 : decode cX10_merge 45 = .ok (.iload 4, 2) := by decide +kernel
theorem dX10_merge_47 : decode cX10_merge 47 = .ok (.invokestatic 168, 3) := by decide +kernel
theorem dX10_merge_50 : decode cX10_merge 50 = .ok (.iload 5, 2) := by decide +kernel
theorem dX10_merge_52 : decode cX10_merge 52 = .ok (.invokevirtual 171, 3) := by decide +kernel
theorem dX10_merge_55 : decode cX10_merge 55 = .ok (.iload 5, 2) := by decide +kernel
theorem dX10_merge_57 : decode cX10_merge 57 = .ok (.ireturn, 1) := by decide +kernel
set_option maxRecDepth 20000 in
theorem ggX10_split_X10_starAt : GoodIn wsX10_split wsX10_starAt := goodIn_ca (goodIn_r _ [9, 10, 11, 12, 13, 14, 15, 16, 17, 18, 19, 20, 21, 22, 23, 24, 25, 26, 27, 28, 29, 30, 31, 32, 33, 34, 35, 36, 50, 51, 52, 53, 54, 55, 56, 57, 58, 59, 60, 61, 62, 63, 64, 65] (by decide +kernel) (by decide +kernel)) (goodIn_sub (fun _ h => List.mem_cons_of_mem _ (List.mem_append_right _ h)) (by decide +kernel))
set_option maxRecDepth 20000 in
theorem gX10_split_X10_starAt : GoodIn wsX10_split (wsV RX10 118 RX10 yX10_starAt wsX10_starAt) := goodIn_app (goodIn_of _ (by decide +kernel)) ggX10_split_X10_starAt
set_option maxRecDepth 20000 in
theorem ggX10_split_X10_lowestOther : GoodIn wsX10_split wsX10_lowestOther := goodIn_r _ [40, 12, 4, 13, 3, 14, 15, 16, 17, 18, 19, 20, 21, 22, 23, 24, 25, 26, 27, 28, 29, 30, 31, 32, 33, 34, 35, 36, 50, 51, 52, 53, 54, 55, 56, 57, 58, 59, 60, 61, 62, 45, 46, 47, 48, 49, 63, 64, 65] (by decide +kernel) (by decide +kernel)
set_option maxRecDepth 20000 in
theorem gX10_split_X10_lowestOther : GoodIn wsX10_split (wsV RX10 174 RX10 yX10_lowestOther wsX10_lowestOther) := goodIn_app (goodIn_of _ (by decide +kernel)) ggX10_split_X10_lowestOther
set_option maxRecDepth 20000 in
theorem ggX10_split_X10_renumber : GoodIn wsX10_split wsX10_renumber := goodIn_r _ [44, 12, 13, 3, 14, 15, 16, 17, 18, 19, 20, 21, 22, 23, 24, 25, 26, 27, 28, 29, 30, 31, 32, 33, 34, 35, 36, 50, 51, 52, 53, 54, 55, 56, 57, 58, 59, 60, 61, 62, 45, 46, 47, 48, 49, 63, 64, 65] (by decide +kernel) (by decide +kernel)
set_option maxRecDepth 20000 in
theorem gX10_split_X10_renumber : GoodIn wsX10_split (wsV RX10 171 RX10 yX10_renumber wsX10_renumber) := goodIn_app (goodIn_of _ (by decide +kernel)) ggX10_split_X10_renumber
theorem dX10_split_0 : decode cX10_split 0 = .ok (.aload_n 0, 1) := by decide +kernel
theorem dX10_split_1 : decode cX10_split 1 = .ok (.iload_n 1, 1) := by decide +kernel
theorem dX10_split_2 : decode cX10_split 2 = .ok (.invokevirtual 118, 3) := by decide +kernel
theorem dX10_split_5 : decode cX10_split 5 = .ok (.astore_n 2, 1) := by decide +kernel
theorem dX10_split_6 : decode cX10_split 6 = .ok (.aload_n 0, 1) := by decide +kernel
theorem dX10_split_7 : decode cX10_split 7 = .ok (.aload_n 2, 1) := by decide +kernel
theorem dX10_split_8 : decode cX10_split 8 = .ok (.invokevirtual 174, 3) := by decide +kernel
theorem dX10_split_11 : decode cX10_split 11 = .ok (.istore_n 3, 1) := by decide +kernel
theorem dX10_split_12 : decode cX10_split 12 = .ok (.iload_n 3, 1) := by decide +kernel
theorem dX10_split_13 : decode cX10_split 13 = .ok (.iconst (-1), 1) := by decide +kernel
theorem dX10_split_14 : decode cX10_split 14 = .ok (.if_icmp .ne 13, 3) := by decide +kernel
theorem dX10_split_17 : decode cX10_split 17 = .ok (.new 157, 3) := by decide +kernel
theorem dX10_split_20 : decode cX10_split 20 = .ok (.dup, 1) := by decide +kernel
theorem dX10_split_21 : decode cX10_split 21 = .ok (.ldc 178, 2) := by decide +kernel
theorem dX10_split_23 : decode cX10_split 23 = .ok (.invokespecial 161, 3) := by decide +kernel
theorem dX10_split_26 : decode cX10_split 26 = .ok (.athrow, 1) := by decide +kernel
theorem dX10_split_27 : decode cX10_split 27 = .ok (.aload_n 0, 1) := by decide +kernel
theorem dX10_split_28 : decode cX10_split 28 = .ok (.aload_n 2, 1) := by decide +kernel
theorem dX10_split_29 : decode cX10_split 29 = .ok (.getfield 154, 3) := by decide +kernel
theorem dX10_split_32 : decode cX10_split 32 = .ok (.iload_n 3, 1) := by decide +kernel
theorem dX10_split_33 : decode cX10_split 33 = .ok (.invokevirtual 171, 3) := by decide +kernel
theorem dX10_split_36 : decode cX10_split 36 = .ok (.aload_n 2, 1) := by decide +kernel
theorem dX10_split_37 : decode cX10_split 37 = .ok (.aload_n 2, 1) := by decide +kernel
theorem dX10_split_38 : decode cX10_split 38 = .ok (.getfield 180, 3) := by decide +kernel
theorem dX10_split_41 : decode cX10_split 41 = .ok (.putfield 154, 3) := by decide +kernel
theorem dX10_split_44 : decode cX10_split 44 = .ok (.iload_n 3, 1) := by decide +kernel
theorem dX10_split_45 : decode cX10_split 45 = .ok (.ireturn, 1) := by decide +kernel
set_option maxRecDepth 20000 in
theorem ggX10_entry_X10_starAt : GoodIn wsX10_entry wsX10_starAt := goodIn_ca (goodIn_r _ [6, 7, 8, 9, 10, 11, 12, 13, 14, 15, 16, 17, 18, 19, 20, 21, 22, 23, 24, 25, 26, 27, 28, 29, 30, 31, 32, 33, 39, 40, 41, 42, 43, 44, 45, 46, 47, 48, 49, 50, 51, 52, 53, 54] (by decide +kernel) (by decide +kernel)) (goodIn_sub (fun _ h => List.mem_cons_of_mem _ (List.mem_append_right _ h)) (by decide +kernel))
set_option maxRecDepth 20000 in
theorem gX10_entry_X10_starAt : GoodIn wsX10_entry (wsV RX10 118 RX10 yX10_starAt wsX10_starAt) := goodIn_app (goodIn_of _ (by decide +kernel)) ggX10_entry_X10_starAt
theorem dX10_entry_0 : decode cX10_entry 0 = .ok (.aload_n 0, 1) := by decide +kernel
theorem dX10_entry_1 : decode cX10_entry 1 = .ok (.iload_n 1, 1) := by decide +kernel
theorem dX10_entry_2 : decode cX10_entry 2 = .ok (.invokevirtual 118, 3) := by decide +kernel
theorem dX10_entry_5 : decode cX10_entry 5 = .ok (.getfield 154, 3) := by decide +kernel
theorem dX10_entry_8 : decode cX10_entry 8 = .ok (.ireturn, 1) := by decide +kernel
set_option maxRecDepth 20000 in
theorem ggX10_entries_Jx4a65c_size_8abf5 : GoodIn wsX10_entries wsJx4a65c_size_8abf5 := goodIn_r _ [9, 10, 48, 49, 50] (by decide +kernel) (by decide +kernel)
set_option maxRecDepth 20000 in
theorem gX10_entries_Jx4a65c_size_8abf5 : GoodIn wsX10_entries (wsV RX10 81 RJx4a65c yJx4a65c_size_8abf5 wsJx4a65c_size_8abf5) := goodIn_app (goodIn_of _ (by decide +kernel)) ggX10_entries_Jx4a65c_size_8abf5
set_option maxRecDepth 20000 in
theorem ggX10_entries_Jx4a65c_get_915e3 : GoodIn wsX10_entries wsJx4a65c_get_915e3 := goodIn_r _ [14, 10, 15, 16, 17, 18, 19, 20, 21, 22, 23, 24, 25, 8, 26, 27, 48, 49, 50] (by decide +kernel) (by decide +kernel)
set_option maxRecDepth 20000 in
theorem gX10_entries_Jx4a65c_get_915e3 : GoodIn wsX10_entries (wsV RX10 188 RJx4a65c yJx4a65c_get_915e3 wsJx4a65c_get_915e3) := goodIn_app (goodIn_of _ (by decide +kernel)) ggX10_entries_Jx4a65c_get_915e3
set_option maxRecDepth 20000 in
theorem ggX10_entries_X7_isEntry : GoodIn wsX10_entries wsX7_isEntry := goodIn_r _ [32, 33, 34, 51, 52, 53, 54, 55] (by decide +kernel) (by decide +kernel)
set_option maxRecDepth 20000 in
theorem gX10_entries_X7_isEntry : GoodIn wsX10_entries (wsV RX10 192 RX7 yX7_isEntry wsX7_isEntry) := goodIn_app (goodIn_of _ (by decide +kernel)) ggX10_entries_X7_isEntry
theorem dX10_entries_0 : decode cX10_entries 0 = .ok (.iload_n 1, 1) := by decide +kernel
theorem dX10_entries_1 : decode cX10_entries 1 = .ok (.iconst (-1), 1) := by decide +kernel
theorem dX10_entries_2 : decode cX10_entries 2 = .ok (.if_icmp .ge 13, 3) := by decide +kernel
theorem dX10_entries_5 : decode cX10_entries 5 = .ok (.new 183, 3) := by decide +kernel
theorem dX10_entries_8 : decode cX10_entries 8 = .ok (.dup, 1) := by decide +kernel
theorem dX10_entries_9 : decode cX10_entries 9 = .ok (.ldc 185, 2) := by decide +kernel
theorem dX10_entries_11 : decode cX10_entries 11 = .ok (.invokespecial 187, 3) := by decide +kernel
theorem dX10_entries_14 : decode cX10_entries 14 = .ok (.athrow, 1) := by decide +kernel
theorem dX10_entries_15 : decode cX10_entries 15 = .ok (.iconst 0, 1) := by decide +kernel
theorem dX10_entries_16 : decode cX10_entries 16 = .ok (.istore_n 2, 1) := by decide +kernel
theorem dX10_entries_17 : decode cX10_entries 17 = .ok (.iconst 0, 1) := by decide +kernel
theorem dX10_entries_18 : decode cX10_entries 18 = .ok (.istore_n 3, 1) := by decide +kernel
theorem dX10_entries_19 : decode cX10_entries 19 = .ok (.iload_n 3, 1) := by decide +kernel
theorem dX10_entries_20 : decode cX10_entries 20 = .ok (.aload_n 0, 1) := by decide +kernel
theorem dX10_entries_21 : decode cX10_entries 21 = .ok (.getfield 19, 3) := by decide +kernel
theorem dX10_entries_24 : decode cX10_entries 24 = .ok (.invokevirtual 81, 3) := by decide +kernel
theorem dX10_entries_27 : decode cX10_entries 27 = .ok (.if_icmp .ge 36, 3) := by decide +kernel
theorem dX10_entries_30 : decode cX10_entries 30 = .ok (.aload_n 0, 1) := by decide +kernel
theorem dX10_entries_31 : decode cX10_entries 31 = .ok (.getfield 19, 3) := by decide +kernel
theorem dX10_entries_34 : decode cX10_entries 34 = .ok (.iload_n 3, 1) := by decide +kernel
theorem dX10_entries_35 : decode cX10_entries 35 = .ok (.invokevirtual 188, 3) := by decide +kernel
theorem dX10_entries_38 : decode cX10_entries 38 = .ok (.checkcast 89, 3) := by decide +kernel
theorem dX10_entries_41 : decode cX10_entries 41 = .ok (.invokevirtual 192, 3) := by decide +kernel
theorem dX10_entries_44 : decode cX10_entries 44 = .ok (.ifCond .eq 13, 3) := by decide +kernel
theorem dX10_entries_47 : decode cX10_entries 47 = .ok (.iload_n 2, 1) := by decide +kernel
theorem dX10_entries_48 : decode cX10_entries 48 = .ok (.iload_n 1, 1) := by decide +kernel
theorem dX10_entries_49 : decode cX10_entries 49 = .ok (.if_icmp .ne 5, 3) := by decide +kernel
theorem dX10_entries_52 : decode cX10_entries 52 = .ok (.iload_n 3, 1) := by decide +kernel
theorem dX10_entries_53 : decode cX10_entries 53 = .ok (.ireturn, 1) := by decide +kernel
theorem dX10_entries_54 : decode cX10_entries 54 = .ok (.iinc 2 1, 3) := by decide +kernel
theorem dX10_entries_57 : decode cX10_entries 57 = .ok (.iinc 3 1, 3) := by decide +kernel
theorem dX10_entries_60 : decode cX10_entries 60 = .ok (.goto (-41), 3) := by decide +kernel
theorem dX10_entries_63 : decode cX10_entries 63 = .ok (.iload_n 1, 1) := by decide +kernel
theorem dX10_entries_64 : decode cX10_entries 64 = .ok (.iconst (-1), 1) := by decide +kernel
theorem dX10_entries_65 : decode cX10_entries 65 = .ok (.if_icmp .ne 7, 3) := by decide +kernel
theorem dX10_entries_68 : decode cX10_entries 68 = .ok (.iload_n 2, 1) := by decide +kernel
theorem dX10_entries_69 : decode cX10_entries 69 = .ok (.goto 4, 3) := by decide +kernel
theorem dX10_entries_72 : decode cX10_entries 72 = .ok (.iconst (-1), 1) := by decide +kernel
theorem dX10_entries_73 : decode cX10_entries 73 = .ok (.ireturn, 1) := by decide +kernel
set_option maxRecDepth 20000 in
theorem ggX10_look_X10_lookAt : GoodIn wsX10_look wsX10_lookAt := goodIn_ca (goodIn_r _ [10, 11, 12, 13, 14, 15, 16, 17, 18, 19, 20, 21, 22, 23, 24, 25, 26, 27, 28, 29, 30, 31, 32, 33, 34, 35, 36, 37, 133, 134, 135, 136, 137, 138, 139, 140, 141, 142, 143, 144, 145, 146, 147, 148] (by decide +kernel) (by decide +kernel)) (goodIn_sub (fun _ h => List.mem_cons_of_mem _ (List.mem_append_right _ h)) (by decide +kernel))
set_option maxRecDepth 20000 in
theorem gX10_look_X10_lookAt : GoodIn wsX10_look (wsV RX10 139 RX10 yX10_lookAt wsX10_lookAt) := goodIn_app (goodIn_of _ (by decide +kernel)) ggX10_look_X10_lookAt
set_option maxRecDepth 20000 in
theorem ggX10_look_X1_rawLight : GoodIn wsX10_look wsX1_rawLight := goodIn_r _ [43, 44, 45, 46, 47, 48, 9, 49, 50, 51, 52, 53, 116, 117, 118, 119, 149, 150, 151] (by decide +kernel) (by decide +kernel)
set_option maxRecDepth 20000 in
theorem gX10_look_X1_rawLight_u196X1 : GoodIn wsX10_look (va_wsU RX10 196 RX1 "LightcurveHouse$Look" ⟨"LightcurveHouse$Look", "rawLight", "()I"⟩ yX1_rawLight wsX1_rawLight) := goodIn_app (goodIn_of _ (by decide +kernel)) ggX10_look_X1_rawLight
set_option maxRecDepth 20000 in
theorem ggX10_look_X8_rawLight : GoodIn wsX10_look wsX8_rawLight := goodIn_r _ [57, 58, 59, 60, 61, 62, 48, 9, 49, 50, 51, 52, 53, 120, 121, 122, 123, 124, 125, 126, 127, 152] (by decide +kernel) (by decide +kernel)
set_option maxRecDepth 20000 in
theorem gX10_look_X8_rawLight_u196X8 : GoodIn wsX10_look (va_wsU RX10 196 RX8 "LightcurveHouse$Look" ⟨"LightcurveHouse$Look", "rawLight", "()I"⟩ yX8_rawLight wsX8_rawLight) := goodIn_app (goodIn_of _ (by decide +kernel)) ggX10_look_X8_rawLight
set_option maxRecDepth 20000 in
theorem ggX10_look_X1_trueLight : GoodIn wsX10_look wsX1_trueLight := goodIn_r _ [67, 68, 41, 69, 42, 43, 44, 45, 46, 47, 48, 9, 49, 50, 51, 52, 53, 116, 117, 118, 119, 149, 150, 151] (by decide +kernel) (by decide +kernel)
set_option maxRecDepth 20000 in
theorem gX10_look_X1_trueLight_u199X1 : GoodIn wsX10_look (va_wsU RX10 199 RX1 "LightcurveHouse$Look" ⟨"LightcurveHouse$Look", "trueLight", "()I"⟩ yX1_trueLight wsX1_trueLight) := goodIn_app (goodIn_of _ (by decide +kernel)) ggX10_look_X1_trueLight
set_option maxRecDepth 20000 in
theorem ggX10_look_X8_trueLight : GoodIn wsX10_look wsX8_trueLight := goodIn_r _ [72, 73, 74, 75, 55, 76, 56, 57, 58, 59, 60, 61, 62, 48, 9, 49, 50, 51, 52, 53, 120, 121, 122, 123, 124, 125, 126, 127, 153, 154, 152] (by decide +kernel) (by decide +kernel)
set_option maxRecDepth 20000 in
theorem gX10_look_X8_trueLight_u199X8 : GoodIn wsX10_look (va_wsU RX10 199 RX8 "LightcurveHouse$Look" ⟨"LightcurveHouse$Look", "trueLight", "()I"⟩ yX8_trueLight wsX8_trueLight) := goodIn_app (goodIn_of _ (by decide +kernel)) ggX10_look_X8_trueLight
set_option maxRecDepth 20000 in
theorem ggX10_look_X1_trueTime : GoodIn wsX10_look wsX1_trueTime := goodIn_r _ [81, 82, 83, 44, 84, 85, 86, 87, 88, 89, 90, 91, 92, 93, 94, 48, 9, 49, 50, 51, 52, 53, 95, 96, 97, 98, 99, 116, 117, 118, 119, 120, 121, 122, 123, 124, 125, 126, 127, 149, 150, 151, 128, 129, 130, 131, 132] (by decide +kernel) (by decide +kernel)
set_option maxRecDepth 20000 in
theorem gX10_look_X1_trueTime_u202X1 : GoodIn wsX10_look (va_wsU RX10 202 RX1 "LightcurveHouse$Look" ⟨"LightcurveHouse$Look", "trueTime", "()I"⟩ yX1_trueTime wsX1_trueTime) := goodIn_app (goodIn_of _ (by decide +kernel)) ggX10_look_X1_trueTime
set_option maxRecDepth 20000 in
theorem ggX10_look_X8_trueTime : GoodIn wsX10_look wsX8_trueTime := goodIn_r _ [102, 103, 104, 105, 73, 106, 107, 86, 87, 88, 89, 90, 91, 92, 93, 94, 48, 9, 49, 50, 51, 52, 53, 95, 96, 97, 98, 99, 116, 117, 118, 119, 120, 121, 122, 123, 124, 125, 126, 127, 153, 154, 128, 129, 130, 131, 132] (by decide +kernel) (by decide +kernel)
set_option maxRecDepth 20000 in
theorem gX10_look_X8_trueTime_u202X8 : GoodIn wsX10_look (va_wsU RX10 202 RX8 "LightcurveHouse$Look" ⟨"LightcurveHouse$Look", "trueTime", "()I"⟩ yX8_trueTime wsX8_trueTime) := goodIn_app (goodIn_of _ (by decide +kernel)) ggX10_look_X8_trueTime
set_option maxRecDepth 20000 in
theorem ggX10_look_X1_sort : GoodIn wsX10_look wsX1_sort := goodIn_r _ [112] (by decide +kernel) (by decide +kernel)
set_option maxRecDepth 20000 in
theorem gX10_look_X1_sort_u209X1 : GoodIn wsX10_look (va_wsU RX10 209 RX1 "LightcurveHouse$Look" ⟨"LightcurveHouse$Look", "sort", "()I"⟩ yX1_sort wsX1_sort) := goodIn_app (goodIn_of _ (by decide +kernel)) ggX10_look_X1_sort
set_option maxRecDepth 20000 in
theorem ggX10_look_X8_sort : GoodIn wsX10_look wsX8_sort := goodIn_r _ [115] (by decide +kernel) (by decide +kernel)
set_option maxRecDepth 20000 in
theorem gX10_look_X8_sort_u209X8 : GoodIn wsX10_look (va_wsU RX10 209 RX8 "LightcurveHouse$Look" ⟨"LightcurveHouse$Look", "sort", "()I"⟩ yX8_sort wsX8_sort) := goodIn_app (goodIn_of _ (by decide +kernel)) ggX10_look_X8_sort
theorem dX10_look_0 : decode cX10_look 0 = .ok (.aload_n 0, 1) := by decide +kernel
theorem dX10_look_1 : decode cX10_look 1 = .ok (.iload_n 1, 1) := by decide +kernel
theorem dX10_look_2 : decode cX10_look 2 = .ok (.invokevirtual 139, 3) := by decide +kernel
theorem dX10_look_5 : decode cX10_look 5 = .ok (.astore_n 3, 1) := by decide +kernel
theorem dX10_look_6 : decode cX10_look 6 = .ok (.iload_n 2, 1) := by decide +kernel
theorem dX10_look_7 : decode cX10_look 7 = .ok (.tableswitch 78 0 5 #[37, 42, 47, 52, 60, 73], 37) := by decide +kernel
theorem dX10_look_44 : decode cX10_look 44 = .ok (.aload_n 3, 1) := by decide +kernel
theorem dX10_look_45 : decode cX10_look 45 = .ok (.invokevirtual 196, 3) := by decide +kernel
theorem dX10_look_48 : decode cX10_look 48 = .ok (.ireturn, 1) := by decide +kernel
theorem dX10_look_49 : decode cX10_look 49 = .ok (.aload_n 3, 1) := by decide +kernel
theorem dX10_look_50 : decode cX10_look 50 = .ok (.invokevirtual 199, 3) := by decide +kernel
theorem dX10_look_53 : decode cX10_look 53 = .ok (.ireturn, 1) := by decide +kernel
theorem dX10_look_54 : decode cX10_look 54 = .ok (.aload_n 3, 1) := by decide +kernel
theorem dX10_look_55 : decode cX10_look 55 = .ok (.invokevirtual 202, 3) := by decide +kernel
theorem dX10_look_58 : decode cX10_look 58 = .ok (.ireturn, 1) := by decide +kernel
theorem dX10_look_59 : decode cX10_look 59 = .ok (.aload_n 3, 1) := by decide +kernel
theorem dX10_look_60 : decode cX10_look 60 = .ok (.getfield 205, 3) := by decide +kernel
theorem dX10_look_63 : decode cX10_look 63 = .ok (.getfield 180, 3) := by decide +kernel
theorem dX10_look_66 : decode cX10_look 66 = .ok (.ireturn, 1) := by decide +kernel
theorem dX10_look_67 : decode cX10_look 67 = .ok (.aload_n 3, 1) := by decide +kernel
theorem dX10_look_68 : decode cX10_look 68 = .ok (.getfield 143, 3) := by decide +kernel
theorem dX10_look_71 : decode cX10_look 71 = .ok (.ifCond .eq 7, 3) := by decide +kernel
theorem dX10_look_74 : decode cX10_look 74 = .ok (.iconst 1, 1) := by decide +kernel
theorem dX10_look_75 : decode cX10_look 75 = .ok (.goto 4, 3) := by decide +kernel
theorem dX10_look_78 : decode cX10_look 78 = .ok (.iconst 0, 1) := by decide +kernel
theorem dX10_look_79 : decode cX10_look 79 = .ok (.ireturn, 1) := by decide +kernel
theorem dX10_look_80 : decode cX10_look 80 = .ok (.aload_n 3, 1) := by decide +kernel
theorem dX10_look_81 : decode cX10_look 81 = .ok (.invokevirtual 209, 3) := by decide +kernel
theorem dX10_look_84 : decode cX10_look 84 = .ok (.ireturn, 1) := by decide +kernel
theorem dX10_look_85 : decode cX10_look 85 = .ok (.new 122, 3) := by decide +kernel
theorem dX10_look_88 : decode cX10_look 88 = .ok (.dup, 1) := by decide +kernel
theorem dX10_look_89 : decode cX10_look 89 = .ok (.ldc 212, 2) := by decide +kernel
theorem dX10_look_91 : decode cX10_look 91 = .ok (.invokespecial 126, 3) := by decide +kernel
theorem dX10_look_94 : decode cX10_look 94 = .ok (.athrow, 1) := by decide +kernel
set_option maxRecDepth 20000 in
theorem ggX10_string_X10_starAt : GoodIn wsX10_string wsX10_starAt := goodIn_ca (goodIn_r _ [6, 7, 8, 9, 10, 11, 12, 13, 14, 15, 16, 17, 18, 19, 20, 21, 22, 23, 24, 25, 26, 27, 28, 29, 30, 31, 32, 33, 164, 165, 166, 167, 168, 169, 170, 171, 172, 173, 174, 175, 176, 177, 178, 179] (by decide +kernel) (by decide +kernel)) (goodIn_sub (fun _ h => List.mem_cons_of_mem _ (List.mem_append_left _ (List.mem_append_right _ h))) (by decide +kernel))
set_option maxRecDepth 20000 in
theorem gX10_string_X10_starAt : GoodIn wsX10_string (wsV RX10 118 RX10 yX10_starAt wsX10_starAt) := goodIn_app (goodIn_of _ (by decide +kernel)) ggX10_string_X10_starAt
set_option maxRecDepth 20000 in
theorem ggX10_string_X10_needPeriod : GoodIn wsX10_string wsX10_needPeriod := goodIn_ca (goodIn_r _ [36, 37, 38, 39, 5, 40, 41, 42] (by decide +kernel) (by decide +kernel)) (goodIn_sub (fun _ h => List.mem_cons_of_mem _ (List.mem_append_right _ h)) (by decide +kernel))
set_option maxRecDepth 20000 in
theorem gX10_string_X10_needPeriod : GoodIn wsX10_string (va_wsS RX10 214 yX10_needPeriod wsX10_needPeriod) := goodIn_app (goodIn_of _ (by decide +kernel)) ggX10_string_X10_needPeriod
set_option maxRecDepth 20000 in
theorem ggX10_string_X10_gatherCurve : GoodIn wsX10_string wsX10_gatherCurve := goodIn_r _ [46, 47, 48, 49, 50, 1, 51, 52, 53, 54, 55, 56, 57, 11, 12, 13, 14, 15, 16, 17, 18, 19, 20, 21, 22, 23, 24, 25, 26, 27, 28, 29, 30, 31, 32, 33, 58, 59, 60, 61, 62, 63, 64, 65, 66, 67, 68, 69, 70, 71, 72, 73, 74, 75, 76, 77, 78, 5, 79, 80, 81, 82, 83, 84, 85, 86, 87, 88, 89, 90, 91, 92, 93, 94, 95, 96, 97, 98, 99, 100, 101, 102, 103, 104, 105, 106, 107, 108, 109, 110, 111, 112, 113, 114, 115, 116, 117, 118, 119, 120, 121, 122, 123, 124, 125, 126, 127, 128, 129, 130, 131, 132, 133, 134, 135, 136, 137, 164, 165, 166, 167, 168, 169, 170, 171, 172, 173, 174, 175, 176, 180, 181, 182, 183, 184, 185, 186, 187, 188, 189, 190, 191, 159, 160, 161, 162, 163, 192, 193, 194, 177, 178, 179, 195, 196, 197, 198, 199, 200] (by decide +kernel) (by decide +kernel)
set_option maxRecDepth 20000 in
theorem gX10_string_X10_gatherCurve : GoodIn wsX10_string (wsV RX10 217 RX10 yX10_gatherCurve wsX10_gatherCurve) := goodIn_app (goodIn_of _ (by decide +kernel)) ggX10_string_X10_gatherCurve
set_option maxRecDepth 20000 in
theorem ggX10_string_X10_stringLength : GoodIn wsX10_string wsX10_stringLength := goodIn_r _ [141, 142, 47, 143, 144, 76, 145, 52, 53, 54, 55, 56, 57, 146, 147, 148, 149, 150, 151, 152, 153, 128, 154, 84, 5, 85, 86, 87, 82, 88, 155, 156, 157, 158, 133, 124, 125, 126, 127, 129, 130, 131, 132, 134, 135, 136, 137, 164, 165, 166, 167, 168, 169, 170, 171, 172, 173, 174, 175, 176, 192, 193, 194] (by decide +kernel) (by decide +kernel)
set_option maxRecDepth 20000 in
theorem gX10_string_X10_stringLength : GoodIn wsX10_string (wsV RX10 220 RX10 yX10_stringLength wsX10_stringLength) := goodIn_app (goodIn_of _ (by decide +kernel)) ggX10_string_X10_stringLength
theorem dX10_string_0 : decode cX10_string 0 = .ok (.aload_n 0, 1) := by decide +kernel
theorem dX10_string_1 : decode cX10_string 1 = .ok (.iload_n 1, 1) := by decide +kernel
theorem dX10_string_2 : decode cX10_string 2 = .ok (.invokevirtual 118, 3) := by decide +kernel
theorem dX10_string_5 : decode cX10_string 5 = .ok (.astore_n 3, 1) := by decide +kernel
theorem dX10_string_6 : decode cX10_string 6 = .ok (.iload_n 2, 1) := by decide +kernel
theorem dX10_string_7 : decode cX10_string 7 = .ok (.invokestatic 214, 3) := by decide +kernel
theorem dX10_string_10 : decode cX10_string 10 = .ok (.aload_n 0, 1) := by decide +kernel
theorem dX10_string_11 : decode cX10_string 11 = .ok (.aload_n 3, 1) := by decide +kernel
theorem dX10_string_12 : decode cX10_string 12 = .ok (.getfield 154, 3) := by decide +kernel
theorem dX10_string_15 : decode cX10_string 15 = .ok (.aload_n 3, 1) := by decide +kernel
theorem dX10_string_16 : decode cX10_string 16 = .ok (.getfield 154, 3) := by decide +kernel
theorem dX10_string_19 : decode cX10_string 19 = .ok (.invokevirtual 217, 3) := by decide +kernel
theorem dX10_string_22 : decode cX10_string 22 = .ok (.aload_n 0, 1) := by decide +kernel
theorem dX10_string_23 : decode cX10_string 23 = .ok (.iload_n 2, 1) := by decide +kernel
theorem dX10_string_24 : decode cX10_string 24 = .ok (.invokevirtual 220, 3) := by decide +kernel
theorem dX10_string_27 : decode cX10_string 27 = .ok (.ireturn, 1) := by decide +kernel
set_option maxRecDepth 20000 in
theorem ggX10_together_X10_starAt : GoodIn wsX10_together wsX10_starAt := goodIn_ca (goodIn_r _ [6, 7, 8, 9, 10, 11, 12, 13, 14, 15, 16, 17, 18, 19, 20, 21, 22, 23, 24, 25, 26, 27, 28, 29, 30, 31, 32, 33, 164, 165, 166, 167, 168, 169, 170, 171, 172, 173, 174, 175, 176, 177, 178, 179] (by decide +kernel) (by decide +kernel)) (goodIn_sub (fun _ h => List.mem_cons_of_mem _ (List.mem_append_left _ (List.mem_append_right _ h))) (by decide +kernel))
set_option maxRecDepth 20000 in
theorem gX10_together_X10_starAt : GoodIn wsX10_together (wsV RX10 118 RX10 yX10_starAt wsX10_starAt) := goodIn_app (goodIn_of _ (by decide +kernel)) ggX10_together_X10_starAt
set_option maxRecDepth 20000 in
theorem ggX10_together_X10_needPeriod : GoodIn wsX10_together wsX10_needPeriod := goodIn_ca (goodIn_r _ [36, 37, 38, 39, 5, 40, 41, 42] (by decide +kernel) (by decide +kernel)) (goodIn_sub (fun _ h => List.mem_cons_of_mem _ (List.mem_append_right _ h)) (by decide +kernel))
set_option maxRecDepth 20000 in
theorem gX10_together_X10_needPeriod : GoodIn wsX10_together (va_wsS RX10 214 yX10_needPeriod wsX10_needPeriod) := goodIn_app (goodIn_of _ (by decide +kernel)) ggX10_together_X10_needPeriod
set_option maxRecDepth 20000 in
theorem ggX10_together_X10_gatherCurve : GoodIn wsX10_together wsX10_gatherCurve := goodIn_r _ [46, 47, 48, 49, 50, 1, 51, 52, 53, 54, 55, 56, 57, 11, 12, 13, 14, 15, 16, 17, 18, 19, 20, 21, 22, 23, 24, 25, 26, 27, 28, 29, 30, 31, 32, 33, 58, 59, 60, 61, 62, 63, 64, 65, 66, 67, 68, 69, 70, 71, 72, 73, 74, 75, 76, 77, 78, 5, 79, 80, 81, 82, 83, 84, 85, 86, 87, 88, 89, 90, 91, 92, 93, 94, 95, 96, 97, 98, 99, 100, 101, 102, 103, 104, 105, 106, 107, 108, 109, 110, 111, 112, 113, 114, 115, 116, 117, 118, 119, 120, 121, 122, 123, 124, 125, 126, 127, 128, 129, 130, 131, 132, 133, 134, 135, 136, 137, 164, 165, 166, 167, 168, 169, 170, 171, 172, 173, 174, 175, 176, 180, 181, 182, 183, 184, 185, 186, 187, 188, 189, 190, 191, 159, 160, 161, 162, 163, 192, 193, 194, 177, 178, 179, 195, 196, 197, 198, 199, 200] (by decide +kernel) (by decide +kernel)
set_option maxRecDepth 20000 in
theorem gX10_together_X10_gatherCurve : GoodIn wsX10_together (wsV RX10 217 RX10 yX10_gatherCurve wsX10_gatherCurve) := goodIn_app (goodIn_of _ (by decide +kernel)) ggX10_together_X10_gatherCurve
set_option maxRecDepth 20000 in
theorem ggX10_together_X10_stringLength : GoodIn wsX10_together wsX10_stringLength := goodIn_r _ [141, 142, 47, 143, 144, 76, 145, 52, 53, 54, 55, 56, 57, 146, 147, 148, 149, 150, 151, 152, 153, 128, 154, 84, 5, 85, 86, 87, 82, 88, 155, 156, 157, 158, 133, 124, 125, 126, 127, 129, 130, 131, 132, 134, 135, 136, 137, 164, 165, 166, 167, 168, 169, 170, 171, 172, 173, 174, 175, 176, 192, 193, 194] (by decide +kernel) (by decide +kernel)
set_option maxRecDepth 20000 in
theorem gX10_together_X10_stringLength : GoodIn wsX10_together (wsV RX10 220 RX10 yX10_stringLength wsX10_stringLength) := goodIn_app (goodIn_of _ (by decide +kernel)) ggX10_together_X10_stringLength
theorem dX10_together_0 : decode cX10_together 0 = .ok (.aload_n 0, 1) := by decide +kernel
theorem dX10_together_1 : decode cX10_together 1 = .ok (.iload_n 1, 1) := by decide +kernel
theorem dX10_together_2 : decode cX10_together 2 = .ok (.invokevirtual 118, 3) := by decide +kernel
theorem dX10_together_5 : decode cX10_together 5 = .ok (.astore 4, 2) := by decide +kernel
theorem dX10_together_7 : decode cX10_together 7 = .ok (.aload_n 0, 1) := by decide +kernel
theorem dX10_together_8 : decode cX10_together 8 = .ok (.iload_n 2, 1) := by decide +kernel
theorem dX10_together_9 : decode cX10_together 9 = .ok (.invokevirtual 118, 3) := by decide +kernel
theorem dX10_together_12 : decode cX10_together 12 = .ok (.astore 5, 2) := by decide +kernel
theorem dX10_together_14 : decode cX10_together 14 = .ok (.iload_n 3, 1) := by decide +kernel
theorem dX10_together_15 : decode cX10_together 15 = .ok (.invokestatic 214, 3) := by decide +kernel
theorem dX10_together_18 : decode cX10_together 18 = .ok (.aload_n 0, 1) := by decide +kernel
theorem dX10_together_19 : decode cX10_together 19 = .ok (.aload 4, 2) := by decide +kernel
theorem dX10_together_21 : decode cX10_together 21 = .ok (.getfield 154, 3) := by decide +kernel
theorem dX10_together_24 : decode cX10_together 24 = .ok (.aload 5, 2) := by decide +kernel
theorem dX10_together_26 : decode cX10_together 26 = .ok (.getfield 154, 3) := by decide +kernel
theorem dX10_together_29 : decode cX10_together 29 = .ok (.invokevirtual 217, 3) := by decide +kernel
theorem dX10_together_32 : decode cX10_together 32 = .ok (.aload_n 0, 1) := by decide +kernel
theorem dX10_together_33 : decode cX10_together 33 = .ok (.iload_n 3, 1) := by decide +kernel
theorem dX10_together_34 : decode cX10_together 34 = .ok (.invokevirtual 220, 3) := by decide +kernel
theorem dX10_together_37 : decode cX10_together 37 = .ok (.ireturn, 1) := by decide +kernel
set_option maxRecDepth 20000 in
theorem ggX10_period_X10_starAt : GoodIn wsX10_period wsX10_starAt := goodIn_ca (goodIn_r _ [6, 7, 8, 9, 10, 11, 12, 13, 14, 15, 16, 17, 18, 19, 20, 21, 22, 23, 24, 25, 26, 27, 28, 29, 30, 31, 32, 33, 179, 180, 181, 182, 183, 184, 185, 186, 187, 188, 189, 190, 191, 192, 193, 194] (by decide +kernel) (by decide +kernel)) (goodIn_sub (fun _ h => List.mem_cons_of_mem _ (List.mem_append_left _ (List.mem_append_left _ (List.mem_append_right _ h)))) (by decide +kernel))
set_option maxRecDepth 20000 in
theorem gX10_period_X10_starAt : GoodIn wsX10_period (wsV RX10 118 RX10 yX10_starAt wsX10_starAt) := goodIn_app (goodIn_of _ (by decide +kernel)) ggX10_period_X10_starAt
set_option maxRecDepth 20000 in
theorem ggX10_period_X10_countTrials : GoodIn wsX10_period wsX10_countTrials := goodIn_ca (goodIn_r _ [36, 37, 38, 39, 5, 40, 41, 42, 43, 44, 45, 46, 47, 48, 49, 50, 51, 52] (by decide +kernel) (by decide +kernel)) (goodIn_sub (fun _ h => List.mem_cons_of_mem _ (List.mem_append_left _ (List.mem_append_right _ h))) (by decide +kernel))
set_option maxRecDepth 20000 in
theorem gX10_period_X10_countTrials : GoodIn wsX10_period (va_wsS RX10 224 yX10_countTrials wsX10_countTrials) := goodIn_app (goodIn_of _ (by decide +kernel)) ggX10_period_X10_countTrials
set_option maxRecDepth 20000 in
theorem ggX10_period_X10_gatherCurveForTrials : GoodIn wsX10_period wsX10_gatherCurveForTrials := goodIn_ca (goodIn_r _ [56, 57, 58, 59, 60, 61, 62, 5, 63, 64, 65, 66, 1, 67, 68, 69, 70, 71, 72, 73, 11, 12, 13, 14, 15, 16, 17, 18, 19, 20, 21, 22, 23, 24, 25, 26, 27, 28, 29, 30, 31, 32, 33, 74, 75, 76, 77, 78, 79, 80, 81, 82, 83, 84, 85, 86, 87, 88, 89, 90, 91, 92, 93, 47, 48, 49, 50, 51, 52, 94, 95, 96, 97, 98, 99, 100, 101, 102, 103, 104, 105, 106, 107, 108, 109, 110, 111, 112, 113, 114, 115, 116, 117, 118, 119, 120, 121, 122, 123, 124, 125, 126, 127, 128, 129, 130, 131, 132, 133, 134, 135, 136, 137, 138, 139, 140, 141, 142, 143, 144, 145, 146, 147, 148, 149, 150, 151, 179, 180, 181, 182, 183, 184, 185, 186, 187, 188, 189, 190, 191, 195, 196, 197, 198, 199, 200, 201, 202, 203, 204, 205, 206, 174, 175, 176, 177, 178, 207, 208, 209, 192, 193, 194, 210, 211, 212, 213, 214, 215] (by decide +kernel) (by decide +kernel)) (goodIn_sub (fun _ h => List.mem_cons_of_mem _ (List.mem_append_right _ h)) (by decide +kernel))
set_option maxRecDepth 20000 in
theorem gX10_period_X10_gatherCurveForTrials : GoodIn wsX10_period (wsV RX10 228 RX10 yX10_gatherCurveForTrials wsX10_gatherCurveForTrials) := goodIn_app (goodIn_of _ (by decide +kernel)) ggX10_period_X10_gatherCurveForTrials
set_option maxRecDepth 20000 in
theorem ggX10_period_X10_bestTrial : GoodIn wsX10_period wsX10_bestTrial := goodIn_r _ [155, 156, 157, 158, 159, 5, 160, 161, 59, 162, 163, 92, 164, 68, 69, 70, 71, 72, 73, 148, 149, 150, 151, 165, 166, 167, 168, 138, 169, 94, 95, 96, 97, 51, 98, 170, 171, 172, 173, 143, 134, 135, 136, 137, 139, 140, 141, 142, 144, 145, 146, 147, 179, 180, 181, 182, 183, 184, 185, 186, 187, 188, 189, 190, 191, 207, 208, 209] (by decide +kernel) (by decide +kernel)
set_option maxRecDepth 20000 in
theorem gX10_period_X10_bestTrial : GoodIn wsX10_period (wsV RX10 231 RX10 yX10_bestTrial wsX10_bestTrial) := goodIn_app (goodIn_of _ (by decide +kernel)) ggX10_period_X10_bestTrial
theorem dX10_period_0 : decode cX10_period 0 = .ok (.aload_n 0, 1) := by decide +kernel
theorem dX10_period_1 : decode cX10_period 1 = .ok (.iload_n 1, 1) := by decide +kernel
theorem dX10_period_2 : decode cX10_period 2 = .ok (.invokevirtual 118, 3) := by decide +kernel
theorem dX10_period_5 : decode cX10_period 5 = .ok (.astore 5, 2) := by decide +kernel
theorem dX10_period_7 : decode cX10_period 7 = .ok (.iload_n 2, 1) := by decide +kernel
theorem dX10_period_8 : decode cX10_period 8 = .ok (.iload_n 3, 1) := by decide +kernel
theorem dX10_period_9 : decode cX10_period 9 = .ok (.iload 4, 2) := by decide +kernel
theorem dX10_period_11 : decode cX10_period 11 = .ok (.invokestatic 224, 3) := by decide +kernel
theorem dX10_period_14 : decode cX10_period 14 = .ok (.istore 6, 2) := by decide +kernel
theorem dX10_period_16 : decode cX10_period 16 = .ok (.aload_n 0, 1) := by decide +kernel
theorem dX10_period_17 : decode cX10_period 17 = .ok (.aload 5, 2) := by decide +kernel
theorem dX10_period_19 : decode cX10_period 19 = .ok (.getfield 154, 3) := by decide +kernel
theorem dX10_period_22 : decode cX10_period 22 = .ok (.invokevirtual 228, 3) := by decide +kernel
theorem dX10_period_25 : decode cX10_period 25 = .ok (.iload_n 2, 1) := by decide +kernel
theorem dX10_period_26 : decode cX10_period 26 = .ok (.aload_n 0, 1) := by decide +kernel
theorem dX10_period_27 : decode cX10_period 27 = .ok (.iload_n 2, 1) := by decide +kernel
theorem dX10_period_28 : decode cX10_period 28 = .ok (.iload 4, 2) := by decide +kernel
theorem dX10_period_30 : decode cX10_period 30 = .ok (.iload 6, 2) := by decide +kernel
theorem dX10_period_32 : decode cX10_period 32 = .ok (.invokevirtual 231, 3) := by decide +kernel
theorem dX10_period_35 : decode cX10_period 35 = .ok (.iload 4, 2) := by decide +kernel
theorem dX10_period_37 : decode cX10_period 37 = .ok (.imul, 1) := by decide +kernel
theorem dX10_period_38 : decode cX10_period 38 = .ok (.iadd, 1) := by decide +kernel
theorem dX10_period_39 : decode cX10_period 39 = .ok (.ireturn, 1) := by decide +kernel
set_option maxRecDepth 20000 in
theorem ggX10_aliases_X10_starAt : GoodIn wsX10_aliases wsX10_starAt := goodIn_ca (goodIn_r _ [6, 7, 8, 9, 10, 11, 12, 13, 14, 15, 16, 17, 18, 19, 20, 21, 22, 23, 24, 25, 26, 27, 28, 29, 30, 31, 32, 33, 183, 184, 185, 186, 187, 188, 189, 190, 191, 192, 193, 194, 195, 196, 197, 198] (by decide +kernel) (by decide +kernel)) (goodIn_sub (fun _ h => List.mem_cons_of_mem _ (List.mem_append_left _ (List.mem_append_left _ (List.mem_append_right _ h)))) (by decide +kernel))
set_option maxRecDepth 20000 in
theorem gX10_aliases_X10_starAt : GoodIn wsX10_aliases (wsV RX10 118 RX10 yX10_starAt wsX10_starAt) := goodIn_app (goodIn_of _ (by decide +kernel)) ggX10_aliases_X10_starAt
set_option maxRecDepth 20000 in
theorem ggX10_aliases_X10_countTrials : GoodIn wsX10_aliases wsX10_countTrials := goodIn_ca (goodIn_r _ [36, 37, 38, 39, 5, 40, 41, 42, 43, 44, 45, 46, 47, 48, 49, 50, 51, 52] (by decide +kernel) (by decide +kernel)) (goodIn_sub (fun _ h => List.mem_cons_of_mem _ (List.mem_append_left _ (List.mem_append_right _ h))) (by decide +kernel))
set_option maxRecDepth 20000 in
theorem gX10_aliases_X10_countTrials : GoodIn wsX10_aliases (va_wsS RX10 224 yX10_countTrials wsX10_countTrials) := goodIn_app (goodIn_of _ (by decide +kernel)) ggX10_aliases_X10_countTrials
set_option maxRecDepth 20000 in
theorem ggX10_aliases_X10_needRange : GoodIn wsX10_aliases wsX10_needRange := goodIn_ca (goodIn_r _ [43, 44, 45] (by decide +kernel) (by decide +kernel)) (goodIn_sub (fun _ h => List.mem_cons_of_mem _ (List.mem_append_left _ (List.mem_append_right _ h))) (by decide +kernel))
set_option maxRecDepth 20000 in
theorem gX10_aliases_X10_needRange : GoodIn wsX10_aliases (va_wsS RX10 74 yX10_needRange wsX10_needRange) := goodIn_app (goodIn_of _ (by decide +kernel)) ggX10_aliases_X10_needRange
set_option maxRecDepth 20000 in
theorem ggX10_aliases_X10_gatherCurveForTrials : GoodIn wsX10_aliases wsX10_gatherCurveForTrials := goodIn_ca (goodIn_r _ [56, 57, 58, 59, 60, 61, 62, 5, 63, 64, 65, 66, 1, 67, 68, 69, 70, 71, 72, 73, 11, 12, 13, 14, 15, 16, 17, 18, 19, 20, 21, 22, 23, 24, 25, 26, 27, 28, 29, 30, 31, 32, 33, 74, 75, 76, 77, 78, 79, 80, 81, 82, 83, 84, 85, 86, 87, 88, 89, 90, 91, 92, 93, 47, 48, 49, 50, 51, 52, 94, 95, 96, 97, 98, 99, 100, 101, 102, 103, 104, 105, 106, 107, 108, 109, 110, 111, 112, 113, 114, 115, 116, 117, 118, 119, 120, 121, 122, 123, 124, 125, 126, 127, 128, 129, 130, 131, 132, 133, 134, 135, 136, 137, 138, 139, 140, 141, 142, 143, 144, 145, 146, 147, 148, 149, 150, 151, 183, 184, 185, 186, 187, 188, 189, 190, 191, 192, 193, 194, 195, 199, 200, 201, 202, 203, 204, 205, 206, 207, 208, 209, 210, 178, 179, 180, 181, 182, 211, 212, 213, 196, 197, 198, 214, 215, 216, 217, 218, 219] (by decide +kernel) (by decide +kernel)) (goodIn_sub (fun _ h => List.mem_cons_of_mem _ (List.mem_append_right _ h)) (by decide +kernel))
set_option maxRecDepth 20000 in
theorem gX10_aliases_X10_gatherCurveForTrials : GoodIn wsX10_aliases (wsV RX10 228 RX10 yX10_gatherCurveForTrials wsX10_gatherCurveForTrials) := goodIn_app (goodIn_of _ (by decide +kernel)) ggX10_aliases_X10_gatherCurveForTrials
set_option maxRecDepth 20000 in
theorem ggX10_aliases_X10_bestTrial : GoodIn wsX10_aliases wsX10_bestTrial := goodIn_r _ [155, 156, 157, 158, 159, 5, 160, 161, 59, 162, 163, 92, 164, 68, 69, 70, 71, 72, 73, 148, 149, 150, 151, 165, 166, 167, 168, 138, 169, 94, 95, 96, 97, 51, 98, 170, 171, 172, 173, 143, 134, 135, 136, 137, 139, 140, 141, 142, 144, 145, 146, 147, 183, 184, 185, 186, 187, 188, 189, 190, 191, 192, 193, 194, 195, 211, 212, 213] (by decide +kernel) (by decide +kernel)
set_option maxRecDepth 20000 in
theorem gX10_aliases_X10_bestTrial : GoodIn wsX10_aliases (wsV RX10 231 RX10 yX10_bestTrial wsX10_bestTrial) := goodIn_app (goodIn_of _ (by decide +kernel)) ggX10_aliases_X10_bestTrial
set_option maxRecDepth 20000 in
theorem ggX10_aliases_X10_countAliases : GoodIn wsX10_aliases wsX10_countAliases := goodIn_r _ [177, 156, 183, 184, 185, 186, 187, 188, 189, 190, 191, 192, 193, 194, 195] (by decide +kernel) (by decide +kernel)
set_option maxRecDepth 20000 in
theorem gX10_aliases_X10_countAliases : GoodIn wsX10_aliases (wsV RX10 234 RX10 yX10_countAliases wsX10_countAliases) := goodIn_app (goodIn_of _ (by decide +kernel)) ggX10_aliases_X10_countAliases
theorem dX10_aliases_0 : decode cX10_aliases 0 = .ok (.aload_n 0, 1) := by decide +kernel
theorem dX10_aliases_1 : decode cX10_aliases 1 = .ok (.iload_n 1, 1) := by decide +kernel
theorem dX10_aliases_2 : decode cX10_aliases 2 = .ok (.invokevirtual 118, 3) := by decide +kernel
theorem dX10_aliases_5 : decode cX10_aliases 5 = .ok (.astore 6, 2) := by decide +kernel
theorem dX10_aliases_7 : decode cX10_aliases 7 = .ok (.iload_n 2, 1) := by decide +kernel
theorem dX10_aliases_8 : decode cX10_aliases 8 = .ok (.iload_n 3, 1) := by decide +kernel
theorem dX10_aliases_9 : decode cX10_aliases 9 = .ok (.iload 4, 2) := by decide +kernel
theorem dX10_aliases_11 : decode cX10_aliases 11 = .ok (.invokestatic 224, 3) := by decide +kernel
theorem dX10_aliases_14 : decode cX10_aliases 14 = .ok (.istore 7, 2) := by decide +kernel
theorem dX10_aliases_16 : decode cX10_aliases 16 = .ok (.iload 5, 2) := by decide +kernel
theorem dX10_aliases_18 : decode cX10_aliases 18 = .ok (.iconst 0, 1) := by decide +kernel
theorem dX10_aliases_19 : decode cX10_aliases 19 = .ok (.bipush 50, 2) := by decide +kernel
theorem dX10_aliases_21 : decode cX10_aliases 21 = .ok (.invokestatic 74, 3) := by decide +kernel
theorem dX10_aliases_24 : decode cX10_aliases 24 = .ok (.aload_n 0, 1) := by decide +kernel
theorem dX10_aliases_25 : decode cX10_aliases 25 = .ok (.aload 6, 2) := by decide +kernel
theorem dX10_aliases_27 : decode cX10_aliases 27 = .ok (.getfield 154, 3) := by decide +kernel
theorem dX10_aliases_30 : decode cX10_aliases 30 = .ok (.invokevirtual 228, 3) := by decide +kernel
theorem dX10_aliases_33 : decode cX10_aliases 33 = .ok (.aload_n 0, 1) := by decide +kernel
theorem dX10_aliases_34 : decode cX10_aliases 34 = .ok (.aload_n 0, 1) := by decide +kernel
theorem dX10_aliases_35 : decode cX10_aliases 35 = .ok (.iload_n 2, 1) := by decide +kernel
theorem dX10_aliases_36 : decode cX10_aliases 36 = .ok (.iload 4, 2) := by decide +kernel
theorem dX10_aliases_38 : decode cX10_aliases 38 = .ok (.iload 7, 2) := by decide +kernel
theorem dX10_aliases_40 : decode cX10_aliases 40 = .ok (.invokevirtual 231, 3) := by decide +kernel
theorem dX10_aliases_43 : decode cX10_aliases 43 = .ok (.iload 7, 2) := by decide +kernel
theorem dX10_aliases_45 : decode cX10_aliases 45 = .ok (.iload 5, 2) := by decide +kernel
theorem dX10_aliases_47 : decode cX10_aliases 47 = .ok (.invokevirtual 234, 3) := by decide +kernel
theorem dX10_aliases_50 : decode cX10_aliases 50 = .ok (.ireturn, 1) := by decide +kernel
set_option maxRecDepth 20000 in
theorem ggX10_claim_X10_starAt : GoodIn wsX10_claim wsX10_starAt := goodIn_ca (goodIn_r _ [6, 7, 8, 9, 10, 11, 12, 13, 14, 15, 16, 17, 18, 19, 20, 21, 22, 23, 24, 25, 26, 27, 28, 29, 30, 31, 32, 33, 48, 49, 50, 51, 52, 53, 54, 55, 56, 57, 58, 59, 60, 61, 62, 63] (by decide +kernel) (by decide +kernel)) (goodIn_sub (fun _ h => List.mem_cons_of_mem _ (List.mem_append_left _ (List.mem_append_right _ h))) (by decide +kernel))
set_option maxRecDepth 20000 in
theorem gX10_claim_X10_starAt : GoodIn wsX10_claim (wsV RX10 118 RX10 yX10_starAt wsX10_starAt) := goodIn_app (goodIn_of _ (by decide +kernel)) ggX10_claim_X10_starAt
set_option maxRecDepth 20000 in
theorem ggX10_claim_X10_needPeriod : GoodIn wsX10_claim wsX10_needPeriod := goodIn_ca (goodIn_r _ [36, 37, 38, 39, 5, 40, 41, 42] (by decide +kernel) (by decide +kernel)) (goodIn_sub (fun _ h => List.mem_cons_of_mem _ (List.mem_append_right _ h)) (by decide +kernel))
set_option maxRecDepth 20000 in
theorem gX10_claim_X10_needPeriod : GoodIn wsX10_claim (va_wsS RX10 214 yX10_needPeriod wsX10_needPeriod) := goodIn_app (goodIn_of _ (by decide +kernel)) ggX10_claim_X10_needPeriod
theorem dX10_claim_0 : decode cX10_claim 0 = .ok (.aload_n 0, 1) := by decide +kernel
theorem dX10_claim_1 : decode cX10_claim 1 = .ok (.iload_n 1, 1) := by decide +kernel
theorem dX10_claim_2 : decode cX10_claim 2 = .ok (.invokevirtual 118, 3) := by decide +kernel
theorem dX10_claim_5 : decode cX10_claim 5 = .ok (.astore_n 3, 1) := by decide +kernel
theorem dX10_claim_6 : decode cX10_claim 6 = .ok (.iload_n 2, 1) := by decide +kernel
theorem dX10_claim_7 : decode cX10_claim 7 = .ok (.ifCond .eq 7, 3) := by decide +kernel
theorem dX10_claim_10 : decode cX10_claim 10 = .ok (.iload_n 2, 1) := by decide +kernel
theorem dX10_claim_11 : decode cX10_claim 11 = .ok (.invokestatic 214, 3) := by decide +kernel
theorem dX10_claim_14 : decode cX10_claim 14 = .ok (.aload_n 3, 1) := by decide +kernel
theorem dX10_claim_15 : decode cX10_claim 15 = .ok (.getfield 237, 3) := by decide +kernel
theorem dX10_claim_18 : decode cX10_claim 18 = .ok (.istore 4, 2) := by decide +kernel
theorem dX10_claim_20 : decode cX10_claim 20 = .ok (.aload_n 3, 1) := by decide +kernel
theorem dX10_claim_21 : decode cX10_claim 21 = .ok (.iload_n 2, 1) := by decide +kernel
theorem dX10_claim_22 : decode cX10_claim 22 = .ok (.putfield 237, 3) := by decide +kernel
theorem dX10_claim_25 : decode cX10_claim 25 = .ok (.iload 4, 2) := by decide +kernel
theorem dX10_claim_27 : decode cX10_claim 27 = .ok (.ireturn, 1) := by decide +kernel
set_option maxRecDepth 20000 in
theorem ggX10_feature_X10_starAt : GoodIn wsX10_feature wsX10_starAt := goodIn_ca (goodIn_r _ [6, 7, 8, 9, 10, 11, 12, 13, 14, 15, 16, 17, 18, 19, 20, 21, 22, 23, 24, 25, 26, 27, 28, 29, 30, 31, 32, 33, 180, 181, 182, 183, 184, 185, 186, 187, 188, 189, 190, 191, 192, 193, 194, 195] (by decide +kernel) (by decide +kernel)) (goodIn_sub (fun _ h => List.mem_cons_of_mem _ (List.mem_append_left _ (List.mem_append_left _ (List.mem_append_right _ h)))) (by decide +kernel))
set_option maxRecDepth 20000 in
theorem gX10_feature_X10_starAt : GoodIn wsX10_feature (wsV RX10 118 RX10 yX10_starAt wsX10_starAt) := goodIn_app (goodIn_of _ (by decide +kernel)) ggX10_feature_X10_starAt
set_option maxRecDepth 20000 in
theorem ggX10_feature_X10_needRange : GoodIn wsX10_feature wsX10_needRange := goodIn_ca (goodIn_r _ [36, 37, 38] (by decide +kernel) (by decide +kernel)) (goodIn_sub (fun _ h => List.mem_cons_of_mem _ (List.mem_append_left _ (List.mem_append_right _ h))) (by decide +kernel))
set_option maxRecDepth 20000 in
theorem gX10_feature_X10_needRange : GoodIn wsX10_feature (va_wsS RX10 74 yX10_needRange wsX10_needRange) := goodIn_app (goodIn_of _ (by decide +kernel)) ggX10_feature_X10_needRange
set_option maxRecDepth 20000 in
theorem ggX10_feature_X10_gatherClaimedCurve : GoodIn wsX10_feature wsX10_gatherClaimedCurve := goodIn_ca (goodIn_r _ [42, 43, 44, 45, 46, 47, 5, 48, 49, 50, 51, 52, 1, 53, 54, 55, 56, 57, 58, 59, 11, 12, 13, 14, 15, 16, 17, 18, 19, 20, 21, 22, 23, 24, 25, 26, 27, 28, 29, 30, 31, 32, 33, 60, 61, 62, 63, 64, 65, 66, 67, 68, 69, 70, 71, 72, 73, 74, 75, 76, 77, 78, 79, 80, 81, 82, 83, 84, 85, 86, 87, 88, 89, 90, 91, 92, 93, 94, 95, 96, 97, 98, 99, 100, 101, 102, 103, 104, 105, 106, 107, 108, 109, 110, 111, 112, 113, 114, 115, 116, 117, 118, 119, 120, 121, 122, 123, 124, 125, 126, 127, 128, 129, 130, 131, 132, 133, 134, 135, 136, 137, 138, 139, 140, 141, 142, 143, 9, 10, 144, 145, 146, 147, 148, 149, 150, 151, 152, 180, 181, 182, 183, 184, 185, 186, 187, 188, 189, 190, 191, 192, 196, 197, 198, 199, 200, 201, 202, 203, 204, 205, 206, 207, 175, 176, 177, 178, 179, 208, 209, 210, 193, 194, 195, 211, 212, 213, 214, 215, 216] (by decide +kernel) (by decide +kernel)) (goodIn_sub (fun _ h => List.mem_cons_of_mem _ (List.mem_append_right _ h)) (by decide +kernel))
set_option maxRecDepth 20000 in
theorem gX10_feature_X10_gatherClaimedCurve : GoodIn wsX10_feature (wsV RX10 240 RX10 yX10_gatherClaimedCurve wsX10_gatherClaimedCurve) := goodIn_app (goodIn_of _ (by decide +kernel)) ggX10_feature_X10_gatherClaimedCurve
set_option maxRecDepth 20000 in
theorem ggX10_feature_X10_featureOfCurve : GoodIn wsX10_feature wsX10_featureOfCurve := goodIn_r _ [156, 49, 157, 158, 159, 5, 160, 149, 150, 151, 57, 152, 59, 161, 162, 163, 164, 135, 165, 166, 167, 168, 169, 170, 171, 172, 130, 173, 86, 87, 88, 89, 84, 90, 174, 80, 81, 82, 83, 85, 180, 181, 182, 183, 184, 185, 186, 187, 188, 189, 190, 191, 192, 208, 209, 210] (by decide +kernel) (by decide +kernel)
set_option maxRecDepth 20000 in
theorem gX10_feature_X10_featureOfCurve : GoodIn wsX10_feature (wsV RX10 243 RX10 yX10_featureOfCurve wsX10_featureOfCurve) := goodIn_app (goodIn_of _ (by decide +kernel)) ggX10_feature_X10_featureOfCurve
theorem dX10_feature_0 : decode cX10_feature 0 = .ok (.aload_n 0, 1) := by decide +kernel
theorem dX10_feature_1 : decode cX10_feature 1 = .ok (.iload_n 1, 1) := by decide +kernel
theorem dX10_feature_2 : decode cX10_feature 2 = .ok (.invokevirtual 118, 3) := by decide +kernel
theorem dX10_feature_5 : decode cX10_feature 5 = .ok (.astore_n 3, 1) := by decide +kernel
theorem dX10_feature_6 : decode cX10_feature 6 = .ok (.iload_n 2, 1) := by decide +kernel
theorem dX10_feature_7 : decode cX10_feature 7 = .ok (.iconst 0, 1) := by decide +kernel
theorem dX10_feature_8 : decode cX10_feature 8 = .ok (.iconst 2, 1) := by decide +kernel
theorem dX10_feature_9 : decode cX10_feature 9 = .ok (.invokestatic 74, 3) := by decide +kernel
theorem dX10_feature_12 : decode cX10_feature 12 = .ok (.aload_n 0, 1) := by decide +kernel
theorem dX10_feature_13 : decode cX10_feature 13 = .ok (.iload_n 2, 1) := by decide +kernel
theorem dX10_feature_14 : decode cX10_feature 14 = .ok (.aload_n 0, 1) := by decide +kernel
theorem dX10_feature_15 : decode cX10_feature 15 = .ok (.aload_n 3, 1) := by decide +kernel
theorem dX10_feature_16 : decode cX10_feature 16 = .ok (.getfield 154, 3) := by decide +kernel
theorem dX10_feature_19 : decode cX10_feature 19 = .ok (.invokevirtual 240, 3) := by decide +kernel
theorem dX10_feature_22 : decode cX10_feature 22 = .ok (.invokevirtual 243, 3) := by decide +kernel
theorem dX10_feature_25 : decode cX10_feature 25 = .ok (.ireturn, 1) := by decide +kernel
set_option maxRecDepth 20000 in
theorem ggX10_rule_X10_needRange : GoodIn wsX10_rule wsX10_needRange := goodIn_ca (goodIn_r _ [11, 1, 2] (by decide +kernel) (by decide +kernel)) (goodIn_sub (fun _ h => List.mem_cons_of_mem _ (List.mem_append_left _ (List.mem_append_right _ h))) (by decide +kernel))
set_option maxRecDepth 20000 in
theorem gX10_rule_X10_needRange : GoodIn wsX10_rule (va_wsS RX10 74 yX10_needRange wsX10_needRange) := goodIn_app (goodIn_of _ (by decide +kernel)) ggX10_rule_X10_needRange
set_option maxRecDepth 20000 in
theorem ggX10_rule_Jx4a65c_size_8abf5 : GoodIn wsX10_rule wsJx4a65c_size_8abf5 := goodIn_r _ [16, 17, 108, 109, 110] (by decide +kernel) (by decide +kernel)
set_option maxRecDepth 20000 in
theorem gX10_rule_Jx4a65c_size_8abf5 : GoodIn wsX10_rule (wsV RX10 81 RJx4a65c yJx4a65c_size_8abf5 wsJx4a65c_size_8abf5) := goodIn_app (goodIn_of _ (by decide +kernel)) ggX10_rule_Jx4a65c_size_8abf5
set_option maxRecDepth 20000 in
theorem ggX10_rule_X10_needRoom : GoodIn wsX10_rule wsX10_needRoom := goodIn_ca (goodIn_r _ [20, 21, 22] (by decide +kernel) (by decide +kernel)) (goodIn_sub (fun _ h => List.mem_cons_of_mem _ (List.mem_append_right _ h)) (by decide +kernel))
set_option maxRecDepth 20000 in
theorem gX10_rule_X10_needRoom : GoodIn wsX10_rule (va_wsS RX10 85 yX10_needRoom wsX10_needRoom) := goodIn_app (goodIn_of _ (by decide +kernel)) ggX10_rule_X10_needRoom
set_option maxRecDepth 20000 in
theorem ggX10_rule_X6_init : GoodIn wsX10_rule wsX6_init := goodIn_r _ [25, 26, 27, 28, 29, 30, 31, 32, 33, 34, 102, 103, 104, 105, 106, 107] (by decide +kernel) (by decide +kernel)
set_option maxRecDepth 20000 in
theorem gX10_rule_X6_init : GoodIn wsX10_rule (wsX6_init) := ggX10_rule_X6_init
set_option maxRecDepth 20000 in
theorem ggX10_rule_Jx4a65c_add_9ea2d : GoodIn wsX10_rule wsJx4a65c_add_9ea2d := goodIn_r _ [38, 39, 40, 41, 17, 42, 43, 44, 15, 45, 46, 47, 48, 49, 50, 51, 52, 53, 54, 55, 56, 57, 58, 59, 60, 61, 62, 63, 64, 65, 66, 67, 68, 69, 70, 71, 72, 73, 74, 75, 76, 77, 78, 79, 80, 81, 82, 83, 84, 85, 86, 87, 88, 108, 109, 110] (by decide +kernel) (by decide +kernel)
set_option maxRecDepth 20000 in
theorem gX10_rule_Jx4a65c_add_9ea2d : GoodIn wsX10_rule (wsV RX10 63 RJx4a65c yJx4a65c_add_9ea2d wsJx4a65c_add_9ea2d) := goodIn_app (goodIn_of _ (by decide +kernel)) ggX10_rule_Jx4a65c_add_9ea2d
theorem dX10_rule_0 : decode cX10_rule 0 = .ok (.iload_n 1, 1) := by decide +kernel
theorem dX10_rule_1 : decode cX10_rule 1 = .ok (.iconst 0, 1) := by decide +kernel
theorem dX10_rule_2 : decode cX10_rule 2 = .ok (.iconst 4, 1) := by decide +kernel
theorem dX10_rule_3 : decode cX10_rule 3 = .ok (.invokestatic 74, 3) := by decide +kernel
theorem dX10_rule_6 : decode cX10_rule 6 = .ok (.iload_n 2, 1) := by decide +kernel
theorem dX10_rule_7 : decode cX10_rule 7 = .ok (.iconst 0, 1) := by decide +kernel
theorem dX10_rule_8 : decode cX10_rule 8 = .ok (.iconst 2, 1) := by decide +kernel
theorem dX10_rule_9 : decode cX10_rule 9 = .ok (.invokestatic 74, 3) := by decide +kernel
theorem dX10_rule_12 : decode cX10_rule 12 = .ok (.iload_n 3, 1) := by decide +kernel
theorem dX10_rule_13 : decode cX10_rule 13 = .ok (.iconst 0, 1) := by decide +kernel
theorem dX10_rule_14 : decode cX10_rule 14 = .ok (.ldc 246, 2) := by decide +kernel
theorem dX10_rule_16 : decode cX10_rule 16 = .ok (.invokestatic 74, 3) := by decide +kernel
theorem dX10_rule_19 : decode cX10_rule 19 = .ok (.iload 4, 2) := by decide +kernel
theorem dX10_rule_21 : decode cX10_rule 21 = .ok (.iload_n 3, 1) := by decide +kernel
theorem dX10_rule_22 : decode cX10_rule 22 = .ok (.ldc 246, 2) := by decide +kernel
theorem dX10_rule_24 : decode cX10_rule 24 = .ok (.invokestatic 74, 3) := by decide +kernel
theorem dX10_rule_27 : decode cX10_rule 27 = .ok (.iload 5, 2) := by decide +kernel
theorem dX10_rule_29 : decode cX10_rule 29 = .ok (.bipush (-9), 2) := by decide +kernel
theorem dX10_rule_31 : decode cX10_rule 31 = .ok (.bipush 9, 2) := by decide +kernel
theorem dX10_rule_33 : decode cX10_rule 33 = .ok (.invokestatic 74, 3) := by decide +kernel
theorem dX10_rule_36 : decode cX10_rule 36 = .ok (.iload 5, 2) := by decide +kernel
theorem dX10_rule_38 : decode cX10_rule 38 = .ok (.ifCond .ne 13, 3) := by decide +kernel
theorem dX10_rule_41 : decode cX10_rule 41 = .ok (.new 122, 3) := by decide +kernel
theorem dX10_rule_44 : decode cX10_rule 44 = .ok (.dup, 1) := by decide +kernel
theorem dX10_rule_45 : decode cX10_rule 45 = .ok (.ldc 247, 2) := by decide +kernel
theorem dX10_rule_47 : decode cX10_rule 47 = .ok (.invokespecial 126, 3) := by decide +kernel
theorem dX10_rule_50 : decode cX10_rule 50 = .ok (.athrow, 1) := by decide +kernel
theorem dX10_rule_51 : decode cX10_rule 51 = .ok (.aload_n 0, 1) := by decide +kernel
theorem dX10_rule_52 : decode cX10_rule 52 = .ok (.getfield 28, 3) := by decide +kernel
theorem dX10_rule_55 : decode cX10_rule 55 = .ok (.invokevirtual 81, 3) := by decide +kernel
theorem dX10_rule_58 : decode cX10_rule 58 = .ok (.istore 6, 2) := by decide +kernel
theorem dX10_rule_60 : decode cX10_rule 60 = .ok (.iload 6, 2) := by decide +kernel
theorem dX10_rule_62 : decode cX10_rule 62 = .ok (.bipush 8, 2) := by decide +kernel
theorem dX10_rule_64 : decode cX10_rule 64 = .ok (.invokestatic 85, 3) := by decide +kernel
theorem dX10_rule_67 : decode cX10_rule 67 = .ok (.aload_n 0, 1) := by decide +kernel
theorem dX10_rule_68 : decode cX10_rule 68 = .ok (.getfield 28, 3) := by decide +kernel
theorem dX10_rule_71 : decode cX10_rule 71 = .ok (.new 249, 3) := by decide +kernel
theorem dX10_rule_74 : decode cX10_rule 74 = .ok (.dup, 1) := by decide +kernel
theorem dX10_rule_75 : decode cX10_rule 75 = .ok (.iload_n 1, 1) := by decide +kernel
theorem dX10_rule_76 : decode cX10_rule 76 = .ok (.iload_n 2, 1) := by decide +kernel
theorem dX10_rule_77 : decode cX10_rule 77 = .ok (.iload_n 3, 1) := by decide +kernel
theorem dX10_rule_78 : decode cX10_rule 78 = .ok (.iload 4, 2) := by decide +kernel
theorem dX10_rule_80 : decode cX10_rule 80 = .ok (.iload 5, 2) := by decide +kernel
theorem dX10_rule_82 : decode cX10_rule 82 = .ok (.invokespecial 251, 3) := by decide +kernel
theorem dX10_rule_85 : decode cX10_rule 85 = .ok (.invokevirtual 63, 3) := by decide +kernel
theorem dX10_rule_88 : decode cX10_rule 88 = .ok (.pop, 1) := by decide +kernel
theorem dX10_rule_89 : decode cX10_rule 89 = .ok (.iload 6, 2) := by decide +kernel
theorem dX10_rule_91 : decode cX10_rule 91 = .ok (.ireturn, 1) := by decide +kernel
set_option maxRecDepth 20000 in
theorem ggX10_withdraw_X10_ruleAt : GoodIn wsX10_withdraw wsX10_ruleAt := goodIn_ca (goodIn_r _ [6, 7, 8, 9, 10, 11, 12, 13, 14, 15, 16, 17, 18, 19, 20, 21, 22, 23, 24, 25, 26, 27, 28, 29, 30, 31, 32, 33, 40, 41, 42, 43, 44, 45, 46, 47, 48, 49, 50, 51, 52, 53, 54, 55] (by decide +kernel) (by decide +kernel)) (goodIn_sub (fun _ h => List.mem_cons_of_mem _ (List.mem_append_right _ h)) (by decide +kernel))
set_option maxRecDepth 20000 in
theorem gX10_withdraw_X10_ruleAt : GoodIn wsX10_withdraw (wsV RX10 254 RX10 yX10_ruleAt wsX10_ruleAt) := goodIn_app (goodIn_of _ (by decide +kernel)) ggX10_withdraw_X10_ruleAt
theorem dX10_withdraw_0 : decode cX10_withdraw 0 = .ok (.aload_n 0, 1) := by decide +kernel
theorem dX10_withdraw_1 : decode cX10_withdraw 1 = .ok (.iload_n 1, 1) := by decide +kernel
theorem dX10_withdraw_2 : decode cX10_withdraw 2 = .ok (.invokevirtual 254, 3) := by decide +kernel
theorem dX10_withdraw_5 : decode cX10_withdraw 5 = .ok (.astore_n 3, 1) := by decide +kernel
theorem dX10_withdraw_6 : decode cX10_withdraw 6 = .ok (.aload_n 3, 1) := by decide +kernel
theorem dX10_withdraw_7 : decode cX10_withdraw 7 = .ok (.getfield 258, 3) := by decide +kernel
theorem dX10_withdraw_10 : decode cX10_withdraw 10 = .ok (.istore 4, 2) := by decide +kernel
theorem dX10_withdraw_12 : decode cX10_withdraw 12 = .ok (.aload_n 3, 1) := by decide +kernel
theorem dX10_withdraw_13 : decode cX10_withdraw 13 = .ok (.iload_n 2, 1) := by decide +kernel
theorem dX10_withdraw_14 : decode cX10_withdraw 14 = .ok (.putfield 258, 3) := by decide +kernel
theorem dX10_withdraw_17 : decode cX10_withdraw 17 = .ok (.iload 4, 2) := by decide +kernel
theorem dX10_withdraw_19 : decode cX10_withdraw 19 = .ok (.ireturn, 1) := by decide +kernel
set_option maxRecDepth 20000 in
theorem ggX10_votes_X10_starAt : GoodIn wsX10_votes wsX10_starAt := goodIn_ca (goodIn_r _ [6, 7, 8, 9, 10, 11, 12, 13, 14, 15, 16, 17, 18, 19, 20, 21, 22, 23, 24, 25, 26, 27, 28, 29, 30, 31, 32, 33, 197, 198, 199, 200, 201, 202, 203, 204, 205, 206, 207, 208, 209, 210, 211, 212] (by decide +kernel) (by decide +kernel)) (goodIn_sub (fun _ h => List.mem_cons_of_mem _ (List.mem_append_left _ (List.mem_append_left _ (List.mem_append_right _ h)))) (by decide +kernel))
set_option maxRecDepth 20000 in
theorem gX10_votes_X10_starAt : GoodIn wsX10_votes (wsV RX10 118 RX10 yX10_starAt wsX10_starAt) := goodIn_app (goodIn_of _ (by decide +kernel)) ggX10_votes_X10_starAt
set_option maxRecDepth 20000 in
theorem ggX10_votes_X10_needRange : GoodIn wsX10_votes wsX10_needRange := goodIn_ca (goodIn_r _ [36, 37, 38] (by decide +kernel) (by decide +kernel)) (goodIn_sub (fun _ h => List.mem_cons_of_mem _ (List.mem_append_left _ (List.mem_append_right _ h))) (by decide +kernel))
set_option maxRecDepth 20000 in
theorem gX10_votes_X10_needRange : GoodIn wsX10_votes (va_wsS RX10 74 yX10_needRange wsX10_needRange) := goodIn_app (goodIn_of _ (by decide +kernel)) ggX10_votes_X10_needRange
set_option maxRecDepth 20000 in
theorem ggX10_votes_X10_gatherClaimedCurve : GoodIn wsX10_votes wsX10_gatherClaimedCurve := goodIn_ca (goodIn_r _ [42, 43, 44, 45, 46, 47, 5, 48, 49, 50, 51, 52, 1, 53, 54, 55, 56, 57, 58, 59, 11, 12, 13, 14, 15, 16, 17, 18, 19, 20, 21, 22, 23, 24, 25, 26, 27, 28, 29, 30, 31, 32, 33, 60, 61, 62, 63, 64, 65, 66, 67, 68, 69, 70, 71, 72, 73, 74, 75, 76, 77, 78, 79, 80, 81, 82, 83, 84, 85, 86, 87, 88, 89, 90, 91, 92, 93, 94, 95, 96, 97, 98, 99, 100, 101, 102, 103, 104, 105, 106, 107, 108, 109, 110, 111, 112, 113, 114, 115, 116, 117, 118, 119, 120, 121, 122, 123, 124, 125, 126, 127, 128, 129, 130, 131, 132, 133, 134, 135, 136, 137, 138, 139, 140, 141, 142, 143, 9, 10, 144, 145, 146, 147, 148, 149, 150, 151, 152, 197, 198, 199, 200, 201, 202, 203, 204, 205, 206, 207, 208, 209, 213, 214, 215, 216, 217, 218, 219, 220, 221, 222, 223, 224, 192, 193, 194, 195, 196, 225, 226, 227, 210, 211, 212, 228, 229, 230, 231, 232, 233] (by decide +kernel) (by decide +kernel)) (goodIn_sub (fun _ h => List.mem_cons_of_mem _ (List.mem_append_right _ h)) (by decide +kernel))
set_option maxRecDepth 20000 in
theorem gX10_votes_X10_gatherClaimedCurve : GoodIn wsX10_votes (wsV RX10 240 RX10 yX10_gatherClaimedCurve wsX10_gatherClaimedCurve) := goodIn_app (goodIn_of _ (by decide +kernel)) ggX10_votes_X10_gatherClaimedCurve
set_option maxRecDepth 20000 in
theorem ggX10_votes_X10_votesForClass : GoodIn wsX10_votes wsX10_votesForClass := goodIn_r _ [156, 157, 158, 159, 160, 161, 162, 11, 12, 13, 14, 15, 16, 17, 18, 19, 20, 21, 22, 23, 24, 25, 26, 27, 28, 29, 30, 31, 32, 33, 163, 164, 165, 5, 166, 49, 167, 168, 169, 170, 149, 150, 151, 57, 152, 59, 171, 172, 173, 174, 135, 175, 176, 177, 178, 179, 180, 181, 182, 130, 183, 86, 87, 88, 89, 84, 90, 184, 80, 81, 82, 83, 85, 185, 186, 187, 188, 189, 190, 191, 197, 198, 199, 200, 201, 202, 203, 204, 205, 206, 207, 208, 209, 234, 235, 236, 237, 238, 239, 210, 211, 212, 225, 226, 227] (by decide +kernel) (by decide +kernel)
set_option maxRecDepth 20000 in
theorem gX10_votes_X10_votesForClass : GoodIn wsX10_votes (wsV RX10 261 RX10 yX10_votesForClass wsX10_votesForClass) := goodIn_app (goodIn_of _ (by decide +kernel)) ggX10_votes_X10_votesForClass
theorem dX10_votes_0 : decode cX10_votes 0 = .ok (.aload_n 0, 1) := by decide +kernel
theorem dX10_votes_1 : decode cX10_votes 1 = .ok (.iload_n 1, 1) := by decide +kernel
theorem dX10_votes_2 : decode cX10_votes 2 = .ok (.invokevirtual 118, 3) := by decide +kernel
theorem dX10_votes_5 : decode cX10_votes 5 = .ok (.astore_n 3, 1) := by decide +kernel
theorem dX10_votes_6 : decode cX10_votes 6 = .ok (.iload_n 2, 1) := by decide +kernel
theorem dX10_votes_7 : decode cX10_votes 7 = .ok (.iconst 0, 1) := by decide +kernel
theorem dX10_votes_8 : decode cX10_votes 8 = .ok (.iconst 4, 1) := by decide +kernel
theorem dX10_votes_9 : decode cX10_votes 9 = .ok (.invokestatic 74, 3) := by decide +kernel
theorem dX10_votes_12 : decode cX10_votes 12 = .ok (.aload_n 0, 1) := by decide +kernel
theorem dX10_votes_13 : decode cX10_votes 13 = .ok (.iload_n 2, 1) := by decide +kernel
theorem dX10_votes_14 : decode cX10_votes 14 = .ok (.aload_n 0, 1) := by decide +kernel
theorem dX10_votes_15 : decode cX10_votes 15 = .ok (.aload_n 3, 1) := by decide +kernel
theorem dX10_votes_16 : decode cX10_votes 16 = .ok (.getfield 154, 3) := by decide +kernel
theorem dX10_votes_19 : decode cX10_votes 19 = .ok (.invokevirtual 240, 3) := by decide +kernel
theorem dX10_votes_22 : decode cX10_votes 22 = .ok (.invokevirtual 261, 3) := by decide +kernel
theorem dX10_votes_25 : decode cX10_votes 25 = .ok (.ireturn, 1) := by decide +kernel
set_option maxRecDepth 20000 in
theorem ggX10_kind_X10_starAt : GoodIn wsX10_kind wsX10_starAt := goodIn_ca (goodIn_r _ [6, 7, 8, 9, 10, 11, 12, 13, 14, 15, 16, 17, 18, 19, 20, 21, 22, 23, 24, 25, 26, 27, 28, 29, 30, 31, 32, 33, 192, 193, 194, 195, 196, 197, 198, 199, 200, 201, 202, 203, 204, 205, 206, 207] (by decide +kernel) (by decide +kernel)) (goodIn_sub (fun _ h => List.mem_cons_of_mem _ (List.mem_append_left _ (List.mem_append_right _ h))) (by decide +kernel))
set_option maxRecDepth 20000 in
theorem gX10_kind_X10_starAt : GoodIn wsX10_kind (wsV RX10 118 RX10 yX10_starAt wsX10_starAt) := goodIn_app (goodIn_of _ (by decide +kernel)) ggX10_kind_X10_starAt
set_option maxRecDepth 20000 in
theorem ggX10_kind_X10_gatherClaimedCurve : GoodIn wsX10_kind wsX10_gatherClaimedCurve := goodIn_ca (goodIn_r _ [37, 38, 39, 40, 41, 42, 5, 43, 44, 45, 46, 47, 1, 48, 49, 50, 51, 52, 53, 54, 11, 12, 13, 14, 15, 16, 17, 18, 19, 20, 21, 22, 23, 24, 25, 26, 27, 28, 29, 30, 31, 32, 33, 55, 56, 57, 58, 59, 60, 61, 62, 63, 64, 65, 66, 67, 68, 69, 70, 71, 72, 73, 74, 75, 76, 77, 78, 79, 80, 81, 82, 83, 84, 85, 86, 87, 88, 89, 90, 91, 92, 93, 94, 95, 96, 97, 98, 99, 100, 101, 102, 103, 104, 105, 106, 107, 108, 109, 110, 111, 112, 113, 114, 115, 116, 117, 118, 119, 120, 121, 122, 123, 124, 125, 126, 127, 128, 129, 130, 131, 132, 133, 134, 135, 136, 137, 138, 9, 10, 139, 140, 141, 142, 143, 144, 145, 146, 147, 192, 193, 194, 195, 196, 197, 198, 199, 200, 201, 202, 203, 204, 208, 209, 210, 211, 212, 213, 214, 215, 216, 217, 218, 219, 187, 188, 189, 190, 191, 220, 221, 222, 205, 206, 207, 223, 224, 225, 226, 227, 228] (by decide +kernel) (by decide +kernel)) (goodIn_sub (fun _ h => List.mem_cons_of_mem _ (List.mem_append_right _ h)) (by decide +kernel))
set_option maxRecDepth 20000 in
theorem gX10_kind_X10_gatherClaimedCurve : GoodIn wsX10_kind (wsV RX10 240 RX10 yX10_gatherClaimedCurve wsX10_gatherClaimedCurve) := goodIn_app (goodIn_of _ (by decide +kernel)) ggX10_kind_X10_gatherClaimedCurve
set_option maxRecDepth 20000 in
theorem ggX10_kind_X10_votesForClass : GoodIn wsX10_kind wsX10_votesForClass := goodIn_r _ [151, 152, 153, 154, 155, 156, 157, 11, 12, 13, 14, 15, 16, 17, 18, 19, 20, 21, 22, 23, 24, 25, 26, 27, 28, 29, 30, 31, 32, 33, 158, 159, 160, 5, 161, 44, 162, 163, 164, 165, 144, 145, 146, 52, 147, 54, 166, 167, 168, 169, 130, 170, 171, 172, 173, 174, 175, 176, 177, 125, 178, 81, 82, 83, 84, 79, 85, 179, 75, 76, 77, 78, 80, 180, 181, 182, 183, 184, 185, 186, 192, 193, 194, 195, 196, 197, 198, 199, 200, 201, 202, 203, 204, 229, 230, 231, 232, 233, 234, 205, 206, 207, 220, 221, 222] (by decide +kernel) (by decide +kernel)
set_option maxRecDepth 20000 in
theorem gX10_kind_X10_votesForClass : GoodIn wsX10_kind (wsV RX10 261 RX10 yX10_votesForClass wsX10_votesForClass) := goodIn_app (goodIn_of _ (by decide +kernel)) ggX10_kind_X10_votesForClass
theorem dX10_kind_0 : decode cX10_kind 0 = .ok (.aload_n 0, 1) := by decide +kernel
theorem dX10_kind_1 : decode cX10_kind 1 = .ok (.aload_n 0, 1) := by decide +kernel
theorem dX10_kind_2 : decode cX10_kind 2 = .ok (.iload_n 1, 1) := by decide +kernel
theorem dX10_kind_3 : decode cX10_kind 3 = .ok (.invokevirtual 118, 3) := by decide +kernel
theorem dX10_kind_6 : decode cX10_kind 6 = .ok (.getfield 154, 3) := by decide +kernel
theorem dX10_kind_9 : decode cX10_kind 9 = .ok (.invokevirtual 240, 3) := by decide +kernel
theorem dX10_kind_12 : decode cX10_kind 12 = .ok (.istore_n 2, 1) := by decide +kernel
theorem dX10_kind_13 : decode cX10_kind 13 = .ok (.iconst (-1), 1) := by decide +kernel
theorem dX10_kind_14 : decode cX10_kind 14 = .ok (.istore_n 3, 1) := by decide +kernel
theorem dX10_kind_15 : decode cX10_kind 15 = .ok (.iconst 0, 1) := by decide +kernel
theorem dX10_kind_16 : decode cX10_kind 16 = .ok (.istore 4, 2) := by decide +kernel
theorem dX10_kind_18 : decode cX10_kind 18 = .ok (.iconst 0, 1) := by decide +kernel
theorem dX10_kind_19 : decode cX10_kind 19 = .ok (.istore 5, 2) := by decide +kernel
theorem dX10_kind_21 : decode cX10_kind 21 = .ok (.iload 5, 2) := by decide +kernel
theorem dX10_kind_23 : decode cX10_kind 23 = .ok (.iconst 5, 1) := by decide +kernel
theorem dX10_kind_24 : decode cX10_kind 24 = .ok (.if_icmp .ge 32, 3) := by decide +kernel
theorem dX10_kind_27 : decode cX10_kind 27 = .ok (.aload_n 0, 1) := by decide +kernel
theorem dX10_kind_28 : decode cX10_kind 28 = .ok (.iload 5, 2) := by decide +kernel
theorem dX10_kind_30 : decode cX10_kind 30 = .ok (.iload_n 2, 1) := by decide +kernel
theorem dX10_kind_31 : decode cX10_kind 31 = .ok (.invokevirtual 261, 3) := by decide +kernel
theorem dX10_kind_34 : decode cX10_kind 34 = .ok (.istore 6, 2) := by decide +kernel
theorem dX10_kind_36 : decode cX10_kind 36 = .ok (.iload 6, 2) := by decide +kernel
theorem dX10_kind_38 : decode cX10_kind 38 = .ok (.iload 4, 2) := by decide +kernel
theorem dX10_kind_40 : decode cX10_kind 40 = .ok (.if_icmp .le 10, 3) := by decide +kernel
theorem dX10_kind_43 : decode cX10_kind 43 = .ok (.iload 6, 2) := by decide +kernel
theorem dX10_kind_45 : decode cX10_kind 45 = .ok (.istore 4, 2) := by decide +kernel
theorem dX10_kind_47 : decode cX10_kind 47 = .ok (.iload 5, 2) := by decide +kernel
theorem dX10_kind_49 : decode cX10_kind 49 = .ok (.istore_n 3, 1) := by decide +kernel
theorem dX10_kind_50 : decode cX10_kind 50 = .ok (.iinc 5 1, 3) := by decide +kernel
theorem dX10_kind_53 : decode cX10_kind 53 = .ok (.goto (-32), 3) := by decide +kernel
theorem dX10_kind_56 : decode cX10_kind 56 = .ok (.iload_n 3, 1) := by decide +kernel
theorem dX10_kind_57 : decode cX10_kind 57 = .ok (.ireturn, 1) := by decide +kernel
set_option maxRecDepth 20000 in
theorem ggX10_cycle_X10_starAt : GoodIn wsX10_cycle wsX10_starAt := goodIn_ca (goodIn_r _ [7, 8, 9, 10, 11, 12, 13, 14, 15, 16, 17, 18, 19, 20, 21, 22, 23, 24, 25, 26, 27, 28, 29, 30, 31, 32, 33, 34, 122, 123, 124, 125, 126, 127, 128, 129, 130, 131, 132, 133, 134, 135, 136, 137] (by decide +kernel) (by decide +kernel)) (goodIn_sub (fun _ h => List.mem_cons_of_mem _ (List.mem_append_left _ (List.mem_append_right _ h))) (by decide +kernel))
set_option maxRecDepth 20000 in
theorem gX10_cycle_X10_starAt : GoodIn wsX10_cycle (wsV RX10 118 RX10 yX10_starAt wsX10_starAt) := goodIn_app (goodIn_of _ (by decide +kernel)) ggX10_cycle_X10_starAt
set_option maxRecDepth 20000 in
theorem ggX10_cycle_X10_gatherEclipses : GoodIn wsX10_cycle wsX10_gatherEclipses := goodIn_r _ [38, 2, 39, 40, 41, 1, 42, 43, 44, 45, 46, 47, 48, 12, 13, 14, 15, 16, 17, 18, 19, 20, 21, 22, 23, 24, 25, 26, 27, 28, 29, 30, 31, 32, 33, 34, 49, 50, 51, 52, 53, 54, 55, 56, 57, 58, 59, 6, 60, 61, 62, 63, 64, 65, 66, 67, 68, 69, 70, 71, 72, 73, 74, 75, 76, 77, 78, 79, 80, 81, 82, 83, 122, 123, 124, 125, 126, 127, 128, 129, 130, 131, 132, 133, 134, 138, 139, 117, 118, 119, 120, 121, 140, 141, 142, 135, 136, 137] (by decide +kernel) (by decide +kernel)
set_option maxRecDepth 20000 in
theorem gX10_cycle_X10_gatherEclipses : GoodIn wsX10_cycle (wsV RX10 264 RX10 yX10_gatherEclipses wsX10_gatherEclipses) := goodIn_app (goodIn_of _ (by decide +kernel)) ggX10_cycle_X10_gatherEclipses
set_option maxRecDepth 20000 in
theorem ggX10_cycle_X5_size : GoodIn wsX10_cycle wsX5_size := goodIn_r _ [87, 48, 140, 141, 142] (by decide +kernel) (by decide +kernel)
set_option maxRecDepth 20000 in
theorem gX10_cycle_X5_size : GoodIn wsX10_cycle (wsV RX10 267 RX5 yX5_size wsX5_size) := goodIn_app (goodIn_of _ (by decide +kernel)) ggX10_cycle_X5_size
set_option maxRecDepth 20000 in
theorem ggX10_cycle_X10_needPlace : GoodIn wsX10_cycle wsX10_needPlace := goodIn_ca (goodIn_r _ [90, 8, 9] (by decide +kernel) (by decide +kernel)) (goodIn_sub (fun _ h => List.mem_cons_of_mem _ (List.mem_append_left _ (List.mem_append_right _ h))) (by decide +kernel))
set_option maxRecDepth 20000 in
theorem gX10_cycle_X10_needPlace : GoodIn wsX10_cycle (va_wsS RX10 268 yX10_needPlace wsX10_needPlace) := goodIn_app (goodIn_of _ (by decide +kernel)) ggX10_cycle_X10_needPlace
set_option maxRecDepth 20000 in
theorem ggX10_cycle_X10_needPeriod : GoodIn wsX10_cycle wsX10_needPeriod := goodIn_ca (goodIn_r _ [93, 94, 95, 96, 6, 97, 98, 99] (by decide +kernel) (by decide +kernel)) (goodIn_sub (fun _ h => List.mem_cons_of_mem _ (List.mem_append_right _ h)) (by decide +kernel))
set_option maxRecDepth 20000 in
theorem gX10_cycle_X10_needPeriod : GoodIn wsX10_cycle (va_wsS RX10 214 yX10_needPeriod wsX10_needPeriod) := goodIn_app (goodIn_of _ (by decide +kernel)) ggX10_cycle_X10_needPeriod
set_option maxRecDepth 20000 in
theorem ggX10_cycle_X10_offsetAt : GoodIn wsX10_cycle wsX10_offsetAt := goodIn_r _ [103, 104, 105, 106, 6, 107, 2, 108, 109, 110, 46, 111, 48, 74, 112, 113, 114, 115, 116, 59, 60, 61, 62, 63, 64, 122, 123, 124, 125, 126, 127, 128, 129, 130, 131, 132, 133, 134, 140, 141, 142] (by decide +kernel) (by decide +kernel)
set_option maxRecDepth 20000 in
theorem gX10_cycle_X10_offsetAt : GoodIn wsX10_cycle (wsV RX10 271 RX10 yX10_offsetAt wsX10_offsetAt) := goodIn_app (goodIn_of _ (by decide +kernel)) ggX10_cycle_X10_offsetAt
set_option maxRecDepth 20000 in
theorem ggX10_cycle_X10_cycleAt : GoodIn wsX10_cycle wsX10_cycleAt := goodIn_r _ [115, 104, 105, 106, 6, 107, 2, 108, 109, 110, 46, 111, 48, 74, 116, 59, 60, 61, 62, 63, 64, 122, 123, 124, 125, 126, 127, 128, 129, 130, 131, 132, 133, 134, 140, 141, 142] (by decide +kernel) (by decide +kernel)
set_option maxRecDepth 20000 in
theorem gX10_cycle_X10_cycleAt : GoodIn wsX10_cycle (wsV RX10 274 RX10 yX10_cycleAt wsX10_cycleAt) := goodIn_app (goodIn_of _ (by decide +kernel)) ggX10_cycle_X10_cycleAt
theorem dX10_cycle_0 : decode cX10_cycle 0 = .ok (.aload_n 0, 1) := by decide +kernel
theorem dX10_cycle_1 : decode cX10_cycle 1 = .ok (.aload_n 0, 1) := by decide +kernel
theorem dX10_cycle_2 : decode cX10_cycle 2 = .ok (.iload_n 1, 1) := by decide +kernel
theorem dX10_cycle_3 : decode cX10_cycle 3 = .ok (.invokevirtual 118, 3) := by decide +kernel
theorem dX10_cycle_6 : decode cX10_cycle 6 = .ok (.getfield 154, 3) := by decide +kernel
theorem dX10_cycle_9 : decode cX10_cycle 9 = .ok (.invokevirtual 264, 3) := by decide +kernel
theorem dX10_cycle_12 : decode cX10_cycle 12 = .ok (.iload_n 3, 1) := by decide +kernel
theorem dX10_cycle_13 : decode cX10_cycle 13 = .ok (.aload_n 0, 1) := by decide +kernel
theorem dX10_cycle_14 : decode cX10_cycle 14 = .ok (.getfield 50, 3) := by decide +kernel
theorem dX10_cycle_17 : decode cX10_cycle 17 = .ok (.invokevirtual 267, 3) := by decide +kernel
theorem dX10_cycle_20 : decode cX10_cycle 20 = .ok (.invokestatic 268, 3) := by decide +kernel
theorem dX10_cycle_23 : decode cX10_cycle 23 = .ok (.iload_n 2, 1) := by decide +kernel
theorem dX10_cycle_24 : decode cX10_cycle 24 = .ok (.invokestatic 214, 3) := by decide +kernel
theorem dX10_cycle_27 : decode cX10_cycle 27 = .ok (.iload 4, 2) := by decide +kernel
theorem dX10_cycle_29 : decode cX10_cycle 29 = .ok (.ifCond .eq 12, 3) := by decide +kernel
theorem dX10_cycle_32 : decode cX10_cycle 32 = .ok (.aload_n 0, 1) := by decide +kernel
theorem dX10_cycle_33 : decode cX10_cycle 33 = .ok (.iload_n 3, 1) := by decide +kernel
theorem dX10_cycle_34 : decode cX10_cycle 34 = .ok (.iload_n 2, 1) := by decide +kernel
theorem dX10_cycle_35 : decode cX10_cycle 35 = .ok (.invokevirtual 271, 3) := by decide +kernel
theorem dX10_cycle_38 : decode cX10_cycle 38 = .ok (.goto 9, 3) := by decide +kernel
theorem dX10_cycle_41 : decode cX10_cycle 41 = .ok (.aload_n 0, 1) := by decide +kernel
theorem dX10_cycle_42 : decode cX10_cycle 42 = .ok (.iload_n 3, 1) := by decide +kernel
theorem dX10_cycle_43 : decode cX10_cycle 43 = .ok (.iload_n 2, 1) := by decide +kernel
theorem dX10_cycle_44 : decode cX10_cycle 44 = .ok (.invokevirtual 274, 3) := by decide +kernel
theorem dX10_cycle_47 : decode cX10_cycle 47 = .ok (.ireturn, 1) := by decide +kernel
set_option maxRecDepth 20000 in
theorem ggX10_lost_X10_starAt : GoodIn wsX10_lost wsX10_starAt := goodIn_ca (goodIn_r _ [11, 12, 13, 14, 15, 16, 17, 18, 19, 20, 21, 22, 23, 24, 25, 26, 27, 28, 29, 30, 31, 32, 33, 34, 35, 36, 37, 38, 122, 123, 124, 125, 126, 127, 128, 129, 130, 131, 132, 133, 134, 135, 136, 137] (by decide +kernel) (by decide +kernel)) (goodIn_sub (fun _ h => List.mem_cons_of_mem _ (List.mem_append_left _ (List.mem_append_right _ h))) (by decide +kernel))
set_option maxRecDepth 20000 in
theorem gX10_lost_X10_starAt : GoodIn wsX10_lost (wsV RX10 118 RX10 yX10_starAt wsX10_starAt) := goodIn_app (goodIn_of _ (by decide +kernel)) ggX10_lost_X10_starAt
set_option maxRecDepth 20000 in
theorem ggX10_lost_X10_needPeriod : GoodIn wsX10_lost wsX10_needPeriod := goodIn_ca (goodIn_r _ [41, 42, 43, 44, 10, 45, 46, 47] (by decide +kernel) (by decide +kernel)) (goodIn_sub (fun _ h => List.mem_cons_of_mem _ (List.mem_append_right _ h)) (by decide +kernel))
set_option maxRecDepth 20000 in
theorem gX10_lost_X10_needPeriod : GoodIn wsX10_lost (va_wsS RX10 214 yX10_needPeriod wsX10_needPeriod) := goodIn_app (goodIn_of _ (by decide +kernel)) ggX10_lost_X10_needPeriod
set_option maxRecDepth 20000 in
theorem ggX10_lost_X10_gatherEclipses : GoodIn wsX10_lost wsX10_gatherEclipses := goodIn_r _ [51, 2, 52, 53, 54, 1, 55, 56, 57, 58, 59, 60, 61, 16, 17, 18, 19, 20, 21, 22, 23, 24, 25, 26, 27, 28, 29, 30, 31, 32, 33, 34, 35, 36, 37, 38, 62, 63, 64, 65, 66, 67, 68, 69, 5, 70, 71, 10, 72, 73, 74, 75, 76, 77, 78, 79, 80, 81, 82, 83, 84, 85, 86, 87, 88, 89, 90, 91, 92, 93, 94, 95, 122, 123, 124, 125, 126, 127, 128, 129, 130, 131, 132, 133, 134, 138, 139, 117, 118, 119, 120, 121, 140, 141, 142, 135, 136, 137] (by decide +kernel) (by decide +kernel)
set_option maxRecDepth 20000 in
theorem gX10_lost_X10_gatherEclipses : GoodIn wsX10_lost (wsV RX10 264 RX10 yX10_gatherEclipses wsX10_gatherEclipses) := goodIn_app (goodIn_of _ (by decide +kernel)) ggX10_lost_X10_gatherEclipses
set_option maxRecDepth 20000 in
theorem ggX10_lost_X5_size : GoodIn wsX10_lost wsX5_size := goodIn_r _ [99, 61, 140, 141, 142] (by decide +kernel) (by decide +kernel)
set_option maxRecDepth 20000 in
theorem gX10_lost_X5_size : GoodIn wsX10_lost (wsV RX10 267 RX5 yX5_size wsX5_size) := goodIn_app (goodIn_of _ (by decide +kernel)) ggX10_lost_X5_size
set_option maxRecDepth 20000 in
theorem ggX10_lost_X10_offsetAt : GoodIn wsX10_lost wsX10_offsetAt := goodIn_r _ [103, 104, 105, 106, 10, 107, 2, 108, 109, 110, 59, 111, 61, 86, 112, 113, 114, 115, 116, 71, 72, 73, 74, 75, 76, 122, 123, 124, 125, 126, 127, 128, 129, 130, 131, 132, 133, 134, 140, 141, 142] (by decide +kernel) (by decide +kernel)
set_option maxRecDepth 20000 in
theorem gX10_lost_X10_offsetAt : GoodIn wsX10_lost (wsV RX10 271 RX10 yX10_offsetAt wsX10_offsetAt) := goodIn_app (goodIn_of _ (by decide +kernel)) ggX10_lost_X10_offsetAt
theorem dX10_lost_0 : decode cX10_lost 0 = .ok (.aload_n 0, 1) := by decide +kernel
theorem dX10_lost_1 : decode cX10_lost 1 = .ok (.iload_n 1, 1) := by decide +kernel
theorem dX10_lost_2 : decode cX10_lost 2 = .ok (.invokevirtual 118, 3) := by decide +kernel
theorem dX10_lost_5 : decode cX10_lost 5 = .ok (.astore_n 3, 1) := by decide +kernel
theorem dX10_lost_6 : decode cX10_lost 6 = .ok (.iload_n 2, 1) := by decide +kernel
theorem dX10_lost_7 : decode cX10_lost 7 = .ok (.invokestatic 214, 3) := by decide +kernel
theorem dX10_lost_10 : decode cX10_lost 10 = .ok (.aload_n 0, 1) := by decide +kernel
theorem dX10_lost_11 : decode cX10_lost 11 = .ok (.aload_n 3, 1) := by decide +kernel
theorem dX10_lost_12 : decode cX10_lost 12 = .ok (.getfield 154, 3) := by decide +kernel
theorem dX10_lost_15 : decode cX10_lost 15 = .ok (.invokevirtual 264, 3) := by decide +kernel
theorem dX10_lost_18 : decode cX10_lost 18 = .ok (.iconst 0, 1) := by decide +kernel
theorem dX10_lost_19 : decode cX10_lost 19 = .ok (.istore 4, 2) := by decide +kernel
theorem dX10_lost_21 : decode cX10_lost 21 = .ok (.iconst 1, 1) := by decide +kernel
theorem dX10_lost_22 : decode cX10_lost 22 = .ok (.istore 5, 2) := by decide +kernel
theorem dX10_lost_24 : decode cX10_lost 24 = .ok (.iload 5, 2) := by decide +kernel
theorem dX10_lost_26 : decode cX10_lost 26 = .ok (.aload_n 0, 1) := by decide +kernel
theorem dX10_lost_27 : decode cX10_lost 27 = .ok (.getfield 50, 3) := by decide +kernel
theorem dX10_lost_30 : decode cX10_lost 30 = .ok (.invokevirtual 267, 3) := by decide +kernel
theorem dX10_lost_33 : decode cX10_lost 33 = .ok (.if_icmp .ge 42, 3) := by decide +kernel
theorem dX10_lost_36 : decode cX10_lost 36 = .ok (.aload_n 0, 1) := by decide +kernel
theorem dX10_lost_37 : decode cX10_lost 37 = .ok (.iload 5, 2) := by decide +kernel
theorem dX10_lost_39 : decode cX10_lost 39 = .ok (.iload_n 2, 1) := by decide +kernel
theorem dX10_lost_40 : decode cX10_lost 40 = .ok (.invokevirtual 271, 3) := by decide +kernel
theorem dX10_lost_43 : decode cX10_lost 43 = .ok (.aload_n 0, 1) := by decide +kernel
theorem dX10_lost_44 : decode cX10_lost 44 = .ok (.iload 5, 2) := by decide +kernel
theorem dX10_lost_46 : decode cX10_lost 46 = .ok (.iconst 1, 1) := by decide +kernel
theorem dX10_lost_47 : decode cX10_lost 47 = .ok (.isub, 1) := by decide +kernel
theorem dX10_lost_48 : decode cX10_lost 48 = .ok (.iload_n 2, 1) := by decide +kernel
theorem dX10_lost_49 : decode cX10_lost 49 = .ok (.invokevirtual 271, 3) := by decide +kernel
theorem dX10_lost_52 : decode cX10_lost 52 = .ok (.isub, 1) := by decide +kernel
theorem dX10_lost_53 : decode cX10_lost 53 = .ok (.invokestatic 277, 3) := by decide +kernel
theorem dX10_lost_56 : decode cX10_lost 56 = .ok (.istore 6, 2) := by decide +kernel
theorem dX10_lost_58 : decode cX10_lost 58 = .ok (.iconst 4, 1) := by decide +kernel
theorem dX10_lost_59 : decode cX10_lost 59 = .ok (.iload 6, 2) := by decide +kernel
theorem dX10_lost_61 : decode cX10_lost 61 = .ok (.imul, 1) := by decide +kernel
theorem dX10_lost_62 : decode cX10_lost 62 = .ok (.iload_n 2, 1) := by decide +kernel
theorem dX10_lost_63 : decode cX10_lost 63 = .ok (.if_icmp .le 6, 3) := by decide +kernel
theorem dX10_lost_66 : decode cX10_lost 66 = .ok (.iinc 4 1, 3) := by decide +kernel
theorem dX10_lost_69 : decode cX10_lost 69 = .ok (.iinc 5 1, 3) := by decide +kernel
theorem dX10_lost_72 : decode cX10_lost 72 = .ok (.goto (-48), 3) := by decide +kernel
theorem dX10_lost_75 : decode cX10_lost 75 = .ok (.iload 4, 2) := by decide +kernel
theorem dX10_lost_77 : decode cX10_lost 77 = .ok (.ireturn, 1) := by decide +kernel
set_option maxRecDepth 20000 in
theorem ggX10_dust_X10_starAt : GoodIn wsX10_dust wsX10_starAt := goodIn_ca (goodIn_r _ [6, 7, 8, 9, 10, 11, 12, 13, 14, 15, 16, 17, 18, 19, 20, 21, 22, 23, 24, 25, 26, 27, 28, 29, 30, 31, 32, 33, 44, 45, 46, 47, 48, 49, 50, 51, 52, 53, 54, 55, 56, 57, 58, 59] (by decide +kernel) (by decide +kernel)) (goodIn_sub (fun _ h => List.mem_cons_of_mem _ (List.mem_append_left _ (List.mem_append_right _ h))) (by decide +kernel))
set_option maxRecDepth 20000 in
theorem gX10_dust_X10_starAt : GoodIn wsX10_dust (wsV RX10 118 RX10 yX10_starAt wsX10_starAt) := goodIn_app (goodIn_of _ (by decide +kernel)) ggX10_dust_X10_starAt
set_option maxRecDepth 20000 in
theorem ggX10_dust_X10_needRange : GoodIn wsX10_dust wsX10_needRange := goodIn_ca (goodIn_r _ [36, 37, 38] (by decide +kernel) (by decide +kernel)) (goodIn_sub (fun _ h => List.mem_cons_of_mem _ (List.mem_append_right _ h)) (by decide +kernel))
set_option maxRecDepth 20000 in
theorem gX10_dust_X10_needRange : GoodIn wsX10_dust (va_wsS RX10 74 yX10_needRange wsX10_needRange) := goodIn_app (goodIn_of _ (by decide +kernel)) ggX10_dust_X10_needRange
theorem dX10_dust_0 : decode cX10_dust 0 = .ok (.aload_n 0, 1) := by decide +kernel
theorem dX10_dust_1 : decode cX10_dust 1 = .ok (.iload_n 1, 1) := by decide +kernel
theorem dX10_dust_2 : decode cX10_dust 2 = .ok (.invokevirtual 118, 3) := by decide +kernel
theorem dX10_dust_5 : decode cX10_dust 5 = .ok (.astore_n 3, 1) := by decide +kernel
theorem dX10_dust_6 : decode cX10_dust 6 = .ok (.iload_n 2, 1) := by decide +kernel
theorem dX10_dust_7 : decode cX10_dust 7 = .ok (.iconst 0, 1) := by decide +kernel
theorem dX10_dust_8 : decode cX10_dust 8 = .ok (.sipush 500, 3) := by decide +kernel
theorem dX10_dust_11 : decode cX10_dust 11 = .ok (.invokestatic 74, 3) := by decide +kernel
theorem dX10_dust_14 : decode cX10_dust 14 = .ok (.aload_n 3, 1) := by decide +kernel
theorem dX10_dust_15 : decode cX10_dust 15 = .ok (.getfield 280, 3) := by decide +kernel
theorem dX10_dust_18 : decode cX10_dust 18 = .ok (.istore 4, 2) := by decide +kernel
theorem dX10_dust_20 : decode cX10_dust 20 = .ok (.aload_n 3, 1) := by decide +kernel
theorem dX10_dust_21 : decode cX10_dust 21 = .ok (.iload_n 2, 1) := by decide +kernel
theorem dX10_dust_22 : decode cX10_dust 22 = .ok (.putfield 280, 3) := by decide +kernel
theorem dX10_dust_25 : decode cX10_dust 25 = .ok (.iload 4, 2) := by decide +kernel
theorem dX10_dust_27 : decode cX10_dust 27 = .ok (.ireturn, 1) := by decide +kernel
set_option maxRecDepth 20000 in
theorem ggX10_zero_X10_needRange : GoodIn wsX10_zero wsX10_needRange := goodIn_ca (goodIn_r _ [5, 6, 7] (by decide +kernel) (by decide +kernel)) (goodIn_sub (fun _ h => List.mem_cons_of_mem _ (List.mem_append_right _ h)) (by decide +kernel))
set_option maxRecDepth 20000 in
theorem gX10_zero_X10_needRange : GoodIn wsX10_zero (va_wsS RX10 74 yX10_needRange wsX10_needRange) := goodIn_app (goodIn_of _ (by decide +kernel)) ggX10_zero_X10_needRange
theorem dX10_zero_0 : decode cX10_zero 0 = .ok (.iload_n 1, 1) := by decide +kernel
theorem dX10_zero_1 : decode cX10_zero 1 = .ok (.sipush (-1000), 3) := by decide +kernel
theorem dX10_zero_4 : decode cX10_zero 4 = .ok (.sipush 1000, 3) := by decide +kernel
theorem dX10_zero_7 : decode cX10_zero 7 = .ok (.invokestatic 74, 3) := by decide +kernel
theorem dX10_zero_10 : decode cX10_zero 10 = .ok (.aload_n 0, 1) := by decide +kernel
theorem dX10_zero_11 : decode cX10_zero 11 = .ok (.getfield 34, 3) := by decide +kernel
theorem dX10_zero_14 : decode cX10_zero 14 = .ok (.istore_n 2, 1) := by decide +kernel
theorem dX10_zero_15 : decode cX10_zero 15 = .ok (.aload_n 0, 1) := by decide +kernel
theorem dX10_zero_16 : decode cX10_zero 16 = .ok (.iload_n 1, 1) := by decide +kernel
theorem dX10_zero_17 : decode cX10_zero 17 = .ok (.putfield 34, 3) := by decide +kernel
theorem dX10_zero_20 : decode cX10_zero 20 = .ok (.iload_n 2, 1) := by decide +kernel
theorem dX10_zero_21 : decode cX10_zero 21 = .ok (.ireturn, 1) := by decide +kernel
set_option maxRecDepth 20000 in
theorem ggX10_mean_X10_starAt : GoodIn wsX10_mean wsX10_starAt := goodIn_ca (goodIn_r _ [9, 10, 11, 12, 13, 14, 15, 16, 17, 18, 19, 20, 21, 22, 23, 24, 25, 26, 27, 28, 29, 30, 31, 32, 33, 34, 35, 36, 149, 150, 151, 152, 153, 154, 155, 156, 157, 158, 159, 160, 161, 162, 163, 164] (by decide +kernel) (by decide +kernel)) (goodIn_sub (fun _ h => List.mem_cons_of_mem _ (List.mem_append_right _ h)) (by decide +kernel))
set_option maxRecDepth 20000 in
theorem gX10_mean_X10_starAt : GoodIn wsX10_mean (wsV RX10 118 RX10 yX10_starAt wsX10_starAt) := goodIn_app (goodIn_of _ (by decide +kernel)) ggX10_mean_X10_starAt
set_option maxRecDepth 20000 in
theorem ggX10_mean_X10_gatherCurve : GoodIn wsX10_mean wsX10_gatherCurve := goodIn_r _ [40, 4, 41, 42, 43, 3, 44, 45, 46, 47, 48, 49, 50, 14, 15, 16, 17, 18, 19, 20, 21, 22, 23, 24, 25, 26, 27, 28, 29, 30, 31, 32, 33, 34, 35, 36, 51, 52, 53, 54, 55, 56, 57, 58, 59, 60, 61, 62, 63, 64, 65, 66, 67, 68, 69, 70, 71, 8, 72, 73, 74, 75, 76, 77, 78, 79, 80, 81, 82, 83, 84, 85, 86, 87, 88, 89, 90, 91, 92, 93, 94, 95, 96, 97, 98, 99, 100, 101, 102, 103, 104, 105, 106, 107, 108, 109, 110, 111, 112, 113, 114, 115, 116, 117, 118, 119, 120, 121, 122, 123, 124, 125, 126, 127, 128, 129, 130, 149, 150, 151, 152, 153, 154, 155, 156, 157, 158, 159, 160, 161, 165, 166, 167, 168, 169, 170, 171, 172, 173, 174, 175, 176, 144, 145, 146, 147, 148, 177, 178, 179, 162, 163, 164, 180, 181, 182, 183, 184, 185] (by decide +kernel) (by decide +kernel)
set_option maxRecDepth 20000 in
theorem gX10_mean_X10_gatherCurve : GoodIn wsX10_mean (wsV RX10 217 RX10 yX10_gatherCurve wsX10_gatherCurve) := goodIn_app (goodIn_of _ (by decide +kernel)) ggX10_mean_X10_gatherCurve
set_option maxRecDepth 20000 in
theorem ggX10_mean_X5_size : GoodIn wsX10_mean wsX5_size := goodIn_r _ [134, 50, 177, 178, 179] (by decide +kernel) (by decide +kernel)
set_option maxRecDepth 20000 in
theorem gX10_mean_X5_size : GoodIn wsX10_mean (wsV RX10 267 RX5 yX5_size wsX5_size) := goodIn_app (goodIn_of _ (by decide +kernel)) ggX10_mean_X5_size
set_option maxRecDepth 20000 in
theorem ggX10_mean_X10_meanOfCurve : GoodIn wsX10_mean wsX10_meanOfCurve := goodIn_r _ [138, 4, 131, 132, 133, 48, 134, 50, 139, 140, 141, 142, 126, 143, 71, 8, 72, 73, 74, 75, 76, 149, 150, 151, 152, 153, 154, 155, 156, 157, 158, 159, 160, 161, 177, 178, 179] (by decide +kernel) (by decide +kernel)
set_option maxRecDepth 20000 in
theorem gX10_mean_X10_meanOfCurve : GoodIn wsX10_mean (wsV RX10 285 RX10 yX10_meanOfCurve wsX10_meanOfCurve) := goodIn_app (goodIn_of _ (by decide +kernel)) ggX10_mean_X10_meanOfCurve
theorem dX10_mean_0 : decode cX10_mean 0 = .ok (.aload_n 0, 1) := by decide +kernel
theorem dX10_mean_1 : decode cX10_mean 1 = .ok (.iload_n 1, 1) := by decide +kernel
theorem dX10_mean_2 : decode cX10_mean 2 = .ok (.invokevirtual 118, 3) := by decide +kernel
theorem dX10_mean_5 : decode cX10_mean 5 = .ok (.astore_n 2, 1) := by decide +kernel
theorem dX10_mean_6 : decode cX10_mean 6 = .ok (.aload_n 0, 1) := by decide +kernel
theorem dX10_mean_7 : decode cX10_mean 7 = .ok (.aload_n 2, 1) := by decide +kernel
theorem dX10_mean_8 : decode cX10_mean 8 = .ok (.getfield 154, 3) := by decide +kernel
theorem dX10_mean_11 : decode cX10_mean 11 = .ok (.aload_n 2, 1) := by decide +kernel
theorem dX10_mean_12 : decode cX10_mean 12 = .ok (.getfield 154, 3) := by decide +kernel
theorem dX10_mean_15 : decode cX10_mean 15 = .ok (.invokevirtual 217, 3) := by decide +kernel
theorem dX10_mean_18 : decode cX10_mean 18 = .ok (.aload_n 0, 1) := by decide +kernel
theorem dX10_mean_19 : decode cX10_mean 19 = .ok (.getfield 43, 3) := by decide +kernel
theorem dX10_mean_22 : decode cX10_mean 22 = .ok (.invokevirtual 267, 3) := by decide +kernel
theorem dX10_mean_25 : decode cX10_mean 25 = .ok (.ifCond .ne 14, 3) := by decide +kernel
theorem dX10_mean_28 : decode cX10_mean 28 = .ok (.new 157, 3) := by decide +kernel
theorem dX10_mean_31 : decode cX10_mean 31 = .ok (.dup, 1) := by decide +kernel
theorem dX10_mean_32 : decode cX10_mean 32 = .ok (.ldc_w 283, 3) := by decide +kernel
theorem dX10_mean_35 : decode cX10_mean 35 = .ok (.invokespecial 161, 3) := by decide +kernel
theorem dX10_mean_38 : decode cX10_mean 38 = .ok (.athrow, 1) := by decide +kernel
theorem dX10_mean_39 : decode cX10_mean 39 = .ok (.aload_n 0, 1) := by decide +kernel
theorem dX10_mean_40 : decode cX10_mean 40 = .ok (.invokevirtual 285, 3) := by decide +kernel
theorem dX10_mean_43 : decode cX10_mean 43 = .ok (.ireturn, 1) := by decide +kernel
set_option maxRecDepth 20000 in
theorem ggX10_modulus_X10_starAt : GoodIn wsX10_modulus wsX10_starAt := goodIn_ca (goodIn_r _ [6, 7, 8, 9, 10, 11, 12, 13, 14, 15, 16, 17, 18, 19, 20, 21, 22, 23, 24, 25, 26, 27, 28, 29, 30, 31, 32, 33, 171, 172, 173, 174, 175, 176, 177, 178, 179, 180, 181, 182, 183, 184, 185, 186] (by decide +kernel) (by decide +kernel)) (goodIn_sub (fun _ h => List.mem_cons_of_mem _ (List.mem_append_left _ (List.mem_append_right _ h))) (by decide +kernel))
set_option maxRecDepth 20000 in
theorem gX10_modulus_X10_starAt : GoodIn wsX10_modulus (wsV RX10 118 RX10 yX10_starAt wsX10_starAt) := goodIn_app (goodIn_of _ (by decide +kernel)) ggX10_modulus_X10_starAt
set_option maxRecDepth 20000 in
theorem ggX10_modulus_X10_gatherClaimedCurve : GoodIn wsX10_modulus wsX10_gatherClaimedCurve := goodIn_ca (goodIn_r _ [37, 38, 39, 40, 41, 42, 5, 43, 44, 45, 46, 47, 1, 48, 49, 50, 51, 52, 53, 54, 11, 12, 13, 14, 15, 16, 17, 18, 19, 20, 21, 22, 23, 24, 25, 26, 27, 28, 29, 30, 31, 32, 33, 55, 56, 57, 58, 59, 60, 61, 62, 63, 64, 65, 66, 67, 68, 69, 70, 71, 72, 73, 74, 75, 76, 77, 78, 79, 80, 81, 82, 83, 84, 85, 86, 87, 88, 89, 90, 91, 92, 93, 94, 95, 96, 97, 98, 99, 100, 101, 102, 103, 104, 105, 106, 107, 108, 109, 110, 111, 112, 113, 114, 115, 116, 117, 118, 119, 120, 121, 122, 123, 124, 125, 126, 127, 128, 129, 130, 131, 132, 133, 134, 135, 136, 137, 138, 9, 10, 139, 140, 141, 142, 143, 144, 145, 146, 147, 171, 172, 173, 174, 175, 176, 177, 178, 179, 180, 181, 182, 183, 187, 188, 189, 190, 191, 192, 193, 194, 195, 196, 197, 198, 166, 167, 168, 169, 170, 199, 200, 201, 184, 185, 186, 202, 203, 204, 205, 206, 207] (by decide +kernel) (by decide +kernel)) (goodIn_sub (fun _ h => List.mem_cons_of_mem _ (List.mem_append_right _ h)) (by decide +kernel))
set_option maxRecDepth 20000 in
theorem gX10_modulus_X10_gatherClaimedCurve : GoodIn wsX10_modulus (wsV RX10 240 RX10 yX10_gatherClaimedCurve wsX10_gatherClaimedCurve) := goodIn_app (goodIn_of _ (by decide +kernel)) ggX10_modulus_X10_gatherClaimedCurve
set_option maxRecDepth 20000 in
theorem ggX10_modulus_X10_modulusOfCurve : GoodIn wsX10_modulus wsX10_modulusOfCurve := goodIn_r _ [151, 152, 153, 154, 155, 156, 5, 157, 44, 144, 145, 146, 52, 147, 54, 158, 159, 160, 161, 130, 162, 75, 76, 77, 78, 79, 80, 163, 164, 165, 166, 167, 168, 169, 170, 171, 172, 173, 174, 175, 176, 177, 178, 179, 180, 181, 182, 183, 199, 200, 201] (by decide +kernel) (by decide +kernel)
set_option maxRecDepth 20000 in
theorem gX10_modulus_X10_modulusOfCurve : GoodIn wsX10_modulus (wsV RX10 288 RX10 yX10_modulusOfCurve wsX10_modulusOfCurve) := goodIn_app (goodIn_of _ (by decide +kernel)) ggX10_modulus_X10_modulusOfCurve
theorem dX10_modulus_0 : decode cX10_modulus 0 = .ok (.aload_n 0, 1) := by decide +kernel
theorem dX10_modulus_1 : decode cX10_modulus 1 = .ok (.aload_n 0, 1) := by decide +kernel
theorem dX10_modulus_2 : decode cX10_modulus 2 = .ok (.iload_n 1, 1) := by decide +kernel
theorem dX10_modulus_3 : decode cX10_modulus 3 = .ok (.invokevirtual 118, 3) := by decide +kernel
theorem dX10_modulus_6 : decode cX10_modulus 6 = .ok (.getfield 154, 3) := by decide +kernel
theorem dX10_modulus_9 : decode cX10_modulus 9 = .ok (.invokevirtual 118, 3) := by decide +kernel
theorem dX10_modulus_12 : decode cX10_modulus 12 = .ok (.astore_n 2, 1) := by decide +kernel
theorem dX10_modulus_13 : decode cX10_modulus 13 = .ok (.aload_n 0, 1) := by decide +kernel
theorem dX10_modulus_14 : decode cX10_modulus 14 = .ok (.aload_n 2, 1) := by decide +kernel
theorem dX10_modulus_15 : decode cX10_modulus 15 = .ok (.aload_n 0, 1) := by decide +kernel
theorem dX10_modulus_16 : decode cX10_modulus 16 = .ok (.aload_n 2, 1) := by decide +kernel
theorem dX10_modulus_17 : decode cX10_modulus 17 = .ok (.getfield 154, 3) := by decide +kernel
theorem dX10_modulus_20 : decode cX10_modulus 20 = .ok (.invokevirtual 240, 3) := by decide +kernel
theorem dX10_modulus_23 : decode cX10_modulus 23 = .ok (.invokevirtual 288, 3) := by decide +kernel
theorem dX10_modulus_26 : decode cX10_modulus 26 = .ok (.ireturn, 1) := by decide +kernel
set_option maxRecDepth 20000 in
theorem ggX10_nearest_X5_clear : GoodIn wsX10_nearest wsX5_clear := goodIn_r _ [10, 11, 176, 177, 178] (by decide +kernel) (by decide +kernel)
set_option maxRecDepth 20000 in
theorem gX10_nearest_X5_clear : GoodIn wsX10_nearest (wsV RX10 292 RX5 yX5_clear wsX5_clear) := goodIn_app (goodIn_of _ (by decide +kernel)) ggX10_nearest_X5_clear
set_option maxRecDepth 20000 in
theorem ggX10_nearest_Jx4a65c_size_8abf5 : GoodIn wsX10_nearest wsJx4a65c_size_8abf5 := goodIn_r _ [16, 17, 179, 180, 181] (by decide +kernel) (by decide +kernel)
set_option maxRecDepth 20000 in
theorem gX10_nearest_Jx4a65c_size_8abf5 : GoodIn wsX10_nearest (wsV RX10 81 RJx4a65c yJx4a65c_size_8abf5 wsJx4a65c_size_8abf5) := goodIn_app (goodIn_of _ (by decide +kernel)) ggX10_nearest_Jx4a65c_size_8abf5
set_option maxRecDepth 20000 in
theorem ggX10_nearest_Jx4a65c_get_915e3 : GoodIn wsX10_nearest wsJx4a65c_get_915e3 := goodIn_r _ [21, 17, 22, 23, 24, 25, 26, 27, 28, 29, 30, 31, 32, 15, 33, 34, 179, 180, 181] (by decide +kernel) (by decide +kernel)
set_option maxRecDepth 20000 in
theorem gX10_nearest_Jx4a65c_get_915e3 : GoodIn wsX10_nearest (wsV RX10 188 RJx4a65c yJx4a65c_get_915e3 wsJx4a65c_get_915e3) := goodIn_app (goodIn_of _ (by decide +kernel)) ggX10_nearest_Jx4a65c_get_915e3
set_option maxRecDepth 20000 in
theorem ggX10_nearest_X7_isEntry : GoodIn wsX10_nearest wsX7_isEntry := goodIn_r _ [39, 40, 41, 182, 183, 184, 185, 186] (by decide +kernel) (by decide +kernel)
set_option maxRecDepth 20000 in
theorem gX10_nearest_X7_isEntry : GoodIn wsX10_nearest (wsV RX10 192 RX7 yX7_isEntry wsX7_isEntry) := goodIn_app (goodIn_of _ (by decide +kernel)) ggX10_nearest_X7_isEntry
set_option maxRecDepth 20000 in
theorem ggX10_nearest_X10_gatherCurve : GoodIn wsX10_nearest wsX10_gatherCurve := goodIn_r _ [46, 47, 48, 49, 50, 51, 52, 6, 7, 8, 9, 10, 11, 12, 13, 14, 15, 16, 17, 18, 19, 20, 21, 22, 23, 24, 25, 26, 27, 28, 29, 30, 31, 32, 33, 34, 53, 54, 55, 56, 57, 58, 59, 60, 61, 62, 63, 64, 65, 38, 66, 67, 68, 69, 70, 71, 72, 45, 73, 74, 75, 76, 77, 78, 79, 80, 81, 82, 83, 84, 85, 86, 87, 88, 89, 90, 91, 92, 93, 94, 95, 96, 97, 98, 99, 100, 101, 102, 103, 104, 105, 106, 107, 108, 109, 110, 111, 112, 113, 114, 115, 116, 117, 118, 119, 120, 121, 122, 123, 124, 125, 126, 127, 128, 129, 130, 131, 163, 164, 165, 166, 167, 168, 169, 170, 171, 172, 173, 174, 175, 187, 188, 189, 190, 191, 192, 193, 194, 195, 196, 197, 198, 182, 183, 184, 185, 186, 176, 177, 178, 179, 180, 181, 199, 200, 201, 202, 203, 204] (by decide +kernel) (by decide +kernel)
set_option maxRecDepth 20000 in
theorem gX10_nearest_X10_gatherCurve : GoodIn wsX10_nearest (wsV RX10 217 RX10 yX10_gatherCurve wsX10_gatherCurve) := goodIn_app (goodIn_of _ (by decide +kernel)) ggX10_nearest_X10_gatherCurve
set_option maxRecDepth 20000 in
theorem ggX10_nearest_X10_claimOf : GoodIn wsX10_nearest wsX10_claimOf := goodIn_r _ [135, 4, 5, 51, 136, 12, 13, 14, 15, 16, 17, 18, 19, 20, 21, 22, 23, 24, 25, 26, 27, 28, 29, 30, 31, 32, 33, 34, 163, 164, 165, 166, 167, 168, 169, 170, 171, 172, 173, 174, 175, 182, 183, 184, 185, 186, 179, 180, 181] (by decide +kernel) (by decide +kernel)
set_option maxRecDepth 20000 in
theorem gX10_nearest_X10_claimOf : GoodIn wsX10_nearest (wsV RX10 295 RX10 yX10_claimOf wsX10_claimOf) := goodIn_app (goodIn_of _ (by decide +kernel)) ggX10_nearest_X10_claimOf
set_option maxRecDepth 20000 in
theorem ggX10_nearest_X10_hasFeatures : GoodIn wsX10_nearest wsX10_hasFeatures := goodIn_r _ [140, 47, 141, 142, 143, 9, 144, 11, 163, 164, 165, 166, 167, 168, 169, 170, 171, 172, 173, 174, 175, 176, 177, 178] (by decide +kernel) (by decide +kernel)
set_option maxRecDepth 20000 in
theorem gX10_nearest_X10_hasFeatures : GoodIn wsX10_nearest (wsV RX10 298 RX10 yX10_hasFeatures wsX10_hasFeatures) := goodIn_app (goodIn_of _ (by decide +kernel)) ggX10_nearest_X10_hasFeatures
set_option maxRecDepth 20000 in
theorem ggX10_nearest_X10_modulusOfCurve : GoodIn wsX10_nearest wsX10_modulusOfCurve := goodIn_r _ [148, 149, 150, 151, 152, 153, 45, 154, 47, 141, 142, 143, 9, 144, 11, 155, 156, 157, 158, 127, 159, 72, 73, 74, 75, 76, 77, 160, 161, 162, 182, 183, 184, 185, 186, 163, 164, 165, 166, 167, 168, 169, 170, 171, 172, 173, 174, 175, 176, 177, 178] (by decide +kernel) (by decide +kernel)
set_option maxRecDepth 20000 in
theorem gX10_nearest_X10_modulusOfCurve : GoodIn wsX10_nearest (wsV RX10 288 RX10 yX10_modulusOfCurve wsX10_modulusOfCurve) := goodIn_app (goodIn_of _ (by decide +kernel)) ggX10_nearest_X10_modulusOfCurve
set_option maxRecDepth 20000 in
theorem ggX10_nearest_X5_add : GoodIn wsX10_nearest wsX5_add := goodIn_r _ [121, 11, 122, 123, 124, 125, 126, 127, 128, 129, 130, 9, 131, 176, 177, 178] (by decide +kernel) (by decide +kernel)
set_option maxRecDepth 20000 in
theorem gX10_nearest_X5_add : GoodIn wsX10_nearest (wsV RX10 302 RX5 yX5_add wsX5_add) := goodIn_app (goodIn_of _ (by decide +kernel)) ggX10_nearest_X5_add
set_option maxRecDepth 20000 in
theorem ggX10_nearest_X5_size : GoodIn wsX10_nearest wsX5_size := goodIn_r _ [144, 11, 176, 177, 178] (by decide +kernel) (by decide +kernel)
set_option maxRecDepth 20000 in
theorem gX10_nearest_X5_size : GoodIn wsX10_nearest (wsV RX10 267 RX5 yX5_size wsX5_size) := goodIn_app (goodIn_of _ (by decide +kernel)) ggX10_nearest_X5_size
set_option maxRecDepth 20000 in
theorem ggX10_nearest_X5_value : GoodIn wsX10_nearest wsX5_value := goodIn_r _ [158, 11, 127, 176, 177, 178] (by decide +kernel) (by decide +kernel)
set_option maxRecDepth 20000 in
theorem gX10_nearest_X5_value : GoodIn wsX10_nearest (wsV RX10 304 RX5 yX5_value wsX5_value) := goodIn_app (goodIn_of _ (by decide +kernel)) ggX10_nearest_X5_value
theorem dX10_nearest_0 : decode cX10_nearest 0 = .ok (.iload_n 1, 1) := by decide +kernel
theorem dX10_nearest_1 : decode cX10_nearest 1 = .ok (.ifCond .ge 13, 3) := by decide +kernel
theorem dX10_nearest_4 : decode cX10_nearest 4 = .ok (.new 183, 3) := by decide +kernel
theorem dX10_nearest_7 : decode cX10_nearest 7 = .ok (.dup, 1) := by decide +kernel
theorem dX10_nearest_8 : decode cX10_nearest 8 = .ok (.ldc 185, 2) := by decide +kernel
theorem dX10_nearest_10 : decode cX10_nearest 10 = .ok (.invokespecial 187, 3) := by decide +kernel
theorem dX10_nearest_13 : decode cX10_nearest 13 = .ok (.athrow, 1) := by decide +kernel
theorem dX10_nearest_14 : decode cX10_nearest 14 = .ok (.aload_n 0, 1) := by decide +kernel
theorem dX10_nearest_15 : decode cX10_nearest 15 = .ok (.getfield 53, 3) := by decide +kernel
theorem dX10_nearest_18 : decode cX10_nearest 18 = .ok (.invokevirtual 292, 3) := by decide +kernel
theorem dX10_nearest_21 : decode cX10_nearest 21 = .ok (.iconst 0, 1) := by decide +kernel
theorem dX10_nearest_22 : decode cX10_nearest 22 = .ok (.istore_n 2, 1) := by decide +kernel
theorem dX10_nearest_23 : decode cX10_nearest 23 = .ok (.iload_n 2, 1) := by decide +kernel
theorem dX10_nearest_24 : decode cX10_nearest 24 = .ok (.aload_n 0, 1) := by decide +kernel
theorem dX10_nearest_25 : decode cX10_nearest 25 = .ok (.getfield 19, 3) := by decide +kernel
theorem dX10_nearest_28 : decode cX10_nearest 28 = .ok (.invokevirtual 81, 3) := by decide +kernel
theorem dX10_nearest_31 : decode cX10_nearest 31 = .ok (.if_icmp .ge 65, 3) := by decide +kernel
theorem dX10_nearest_34 : decode cX10_nearest 34 = .ok (.aload_n 0, 1) := by decide +kernel
theorem dX10_nearest_35 : decode cX10_nearest 35 = .ok (.getfield 19, 3) := by decide +kernel
theorem dX10_nearest_38 : decode cX10_nearest 38 = .ok (.iload_n 2, 1) := by decide +kernel
theorem dX10_nearest_39 : decode cX10_nearest 39 = .ok (.invokevirtual 188, 3) := by decide +kernel
theorem dX10_nearest_42 : decode cX10_nearest 42 = .ok (.checkcast 89, 3) := by decide +kernel
theorem dX10_nearest_45 : decode cX10_nearest 45 = .ok (.astore_n 3, 1) := by decide +kernel
theorem dX10_nearest_46 : decode cX10_nearest 46 = .ok (.aload_n 3, 1) := by decide +kernel
theorem dX10_nearest_47 : decode cX10_nearest 47 = .ok (.invokevirtual 192, 3) := by decide +kernel
theorem dX10_nearest_50 : decode cX10_nearest 50 = .ok (.ifCond .eq 40, 3) := by decide +kernel
theorem dX10_nearest_53 : decode cX10_nearest 53 = .ok (.aload_n 0, 1) := by decide +kernel
theorem dX10_nearest_54 : decode cX10_nearest 54 = .ok (.iload_n 2, 1) := by decide +kernel
theorem dX10_nearest_55 : decode cX10_nearest 55 = .ok (.iload_n 2, 1) := by decide +kernel
theorem dX10_nearest_56 : decode cX10_nearest 56 = .ok (.invokevirtual 217, 3) := by decide +kernel
theorem dX10_nearest_59 : decode cX10_nearest 59 = .ok (.aload_n 0, 1) := by decide +kernel
theorem dX10_nearest_60 : decode cX10_nearest 60 = .ok (.iload_n 2, 1) := by decide +kernel
theorem dX10_nearest_61 : decode cX10_nearest 61 = .ok (.invokevirtual 295, 3) := by decide +kernel
theorem dX10_nearest_64 : decode cX10_nearest 64 = .ok (.istore 4, 2) := by decide +kernel
theorem dX10_nearest_66 : decode cX10_nearest 66 = .ok (.aload_n 0, 1) := by decide +kernel
theorem dX10_nearest_67 : decode cX10_nearest 67 = .ok (.iload 4, 2) := by decide +kernel
theorem dX10_nearest_69 : decode cX10_nearest 69 = .ok (.invokevirtual 298, 3) := by decide +kernel
theorem dX10_nearest_72 : decode cX10_nearest 72 = .ok (.ifCond .eq 18, 3) := by decide +kernel
theorem dX10_nearest_75 : decode cX10_nearest 75 = .ok (.aload_n 0, 1) := by decide +kernel
theorem dX10_nearest_76 : decode cX10_nearest 76 = .ok (.getfield 53, 3) := by decide +kernel
theorem dX10_nearest_79 : decode cX10_nearest 79 = .ok (.aload_n 0, 1) := by decide +kernel
theorem dX10_nearest_80 : decode cX10_nearest 80 = .ok (.aload_n 3, 1) := by decide +kernel
theorem dX10_nearest_81 : decode cX10_nearest 81 = .ok (.iload 4, 2) := by decide +kernel
theorem dX10_nearest_83 : decode cX10_nearest 83 = .ok (.invokevirtual 288, 3) := by decide +kernel
theorem dX10_nearest_86 : decode cX10_nearest 86 = .ok (.iload_n 2, 1) := by decide +kernel
theorem dX10_nearest_87 : decode cX10_nearest 87 = .ok (.invokevirtual 302, 3) := by decide +kernel
theorem dX10_nearest_90 : decode cX10_nearest 90 = .ok (.iinc 2 1, 3) := by decide +kernel
theorem dX10_nearest_93 : decode cX10_nearest 93 = .ok (.goto (-70), 3) := by decide +kernel
theorem dX10_nearest_96 : decode cX10_nearest 96 = .ok (.iload_n 1, 1) := by decide +kernel
theorem dX10_nearest_97 : decode cX10_nearest 97 = .ok (.aload_n 0, 1) := by decide +kernel
theorem dX10_nearest_98 : decode cX10_nearest 98 = .ok (.getfield 53, 3) := by decide +kernel
theorem dX10_nearest_101 : decode cX10_nearest 101 = .ok (.invokevirtual 267, 3) := by decide +kernel
theorem dX10_nearest_104 : decode cX10_nearest 104 = .ok (.if_icmp .ge 14, 3) := by decide +kernel
theorem dX10_nearest_107 : decode cX10_nearest 107 = .ok (.aload_n 0, 1) := by decide +kernel
theorem dX10_nearest_108 : decode cX10_nearest 108 = .ok (.getfield 53, 3) := by decide +kernel
theorem dX10_nearest_111 : decode cX10_nearest 111 = .ok (.iload_n 1, 1) := by decide +kernel
theorem dX10_nearest_112 : decode cX10_nearest 112 = .ok (.invokevirtual 304, 3) := by decide +kernel
theorem dX10_nearest_115 : decode cX10_nearest 115 = .ok (.goto 4, 3) := by decide +kernel
theorem dX10_nearest_118 : decode cX10_nearest 118 = .ok (.iconst (-1), 1) := by decide +kernel
theorem dX10_nearest_119 : decode cX10_nearest 119 = .ok (.ireturn, 1) := by decide +kernel
set_option maxRecDepth 20000 in
theorem ggX10_comparisonAt_Jx4a65c_size_8abf5 : GoodIn wsX10_comparisonAt wsJx4a65c_size_8abf5 := goodIn_r _ [9, 10, 41, 42, 43] (by decide +kernel) (by decide +kernel)
set_option maxRecDepth 20000 in
theorem gX10_comparisonAt_Jx4a65c_size_8abf5 : GoodIn wsX10_comparisonAt (wsV RX10 81 RJx4a65c yJx4a65c_size_8abf5 wsJx4a65c_size_8abf5) := goodIn_app (goodIn_of _ (by decide +kernel)) ggX10_comparisonAt_Jx4a65c_size_8abf5
set_option maxRecDepth 20000 in
theorem ggX10_comparisonAt_Jx4a65c_get_915e3 : GoodIn wsX10_comparisonAt wsJx4a65c_get_915e3 := goodIn_r _ [14, 10, 15, 16, 17, 18, 19, 20, 21, 22, 23, 24, 25, 8, 26, 27, 41, 42, 43] (by decide +kernel) (by decide +kernel)
set_option maxRecDepth 20000 in
theorem gX10_comparisonAt_Jx4a65c_get_915e3 : GoodIn wsX10_comparisonAt (wsV RX10 188 RJx4a65c yJx4a65c_get_915e3 wsJx4a65c_get_915e3) := goodIn_app (goodIn_of _ (by decide +kernel)) ggX10_comparisonAt_Jx4a65c_get_915e3
theorem dX10_comparisonAt_0 : decode cX10_comparisonAt 0 = .ok (.iload_n 1, 1) := by decide +kernel
theorem dX10_comparisonAt_1 : decode cX10_comparisonAt 1 = .ok (.ifCond .lt 14, 3) := by decide +kernel
theorem dX10_comparisonAt_4 : decode cX10_comparisonAt 4 = .ok (.iload_n 1, 1) := by decide +kernel
theorem dX10_comparisonAt_5 : decode cX10_comparisonAt 5 = .ok (.aload_n 0, 1) := by decide +kernel
theorem dX10_comparisonAt_6 : decode cX10_comparisonAt 6 = .ok (.getfield 10, 3) := by decide +kernel
theorem dX10_comparisonAt_9 : decode cX10_comparisonAt 9 = .ok (.invokevirtual 81, 3) := by decide +kernel
theorem dX10_comparisonAt_12 : decode cX10_comparisonAt 12 = .ok (.if_icmp .lt 14, 3) := by decide +kernel
theorem dX10_comparisonAt_15 : decode cX10_comparisonAt 15 = .ok (.new 183, 3) := by decide +kernel
theorem dX10_comparisonAt_18 : decode cX10_comparisonAt 18 = .ok (.dup, 1) := by decide +kernel
theorem dX10_comparisonAt_19 : decode cX10_comparisonAt 19 = .ok (.ldc_w 307, 3) := by decide +kernel
theorem dX10_comparisonAt_22 : decode cX10_comparisonAt 22 = .ok (.invokespecial 187, 3) := by decide +kernel
theorem dX10_comparisonAt_25 : decode cX10_comparisonAt 25 = .ok (.athrow, 1) := by decide +kernel
theorem dX10_comparisonAt_26 : decode cX10_comparisonAt 26 = .ok (.aload_n 0, 1) := by decide +kernel
theorem dX10_comparisonAt_27 : decode cX10_comparisonAt 27 = .ok (.getfield 10, 3) := by decide +kernel
theorem dX10_comparisonAt_30 : decode cX10_comparisonAt 30 = .ok (.iload_n 1, 1) := by decide +kernel
theorem dX10_comparisonAt_31 : decode cX10_comparisonAt 31 = .ok (.invokevirtual 188, 3) := by decide +kernel
theorem dX10_comparisonAt_34 : decode cX10_comparisonAt 34 = .ok (.checkcast 60, 3) := by decide +kernel
theorem dX10_comparisonAt_37 : decode cX10_comparisonAt 37 = .ok (.areturn, 1) := by decide +kernel
set_option maxRecDepth 20000 in
theorem ggX10_watcherAt_Jx4a65c_size_8abf5 : GoodIn wsX10_watcherAt wsJx4a65c_size_8abf5 := goodIn_r _ [9, 10, 41, 42, 43] (by decide +kernel) (by decide +kernel)
set_option maxRecDepth 20000 in
theorem gX10_watcherAt_Jx4a65c_size_8abf5 : GoodIn wsX10_watcherAt (wsV RX10 81 RJx4a65c yJx4a65c_size_8abf5 wsJx4a65c_size_8abf5) := goodIn_app (goodIn_of _ (by decide +kernel)) ggX10_watcherAt_Jx4a65c_size_8abf5
set_option maxRecDepth 20000 in
theorem ggX10_watcherAt_Jx4a65c_get_915e3 : GoodIn wsX10_watcherAt wsJx4a65c_get_915e3 := goodIn_r _ [14, 10, 15, 16, 17, 18, 19, 20, 21, 22, 23, 24, 25, 8, 26, 27, 41, 42, 43] (by decide +kernel) (by decide +kernel)
set_option maxRecDepth 20000 in
theorem gX10_watcherAt_Jx4a65c_get_915e3 : GoodIn wsX10_watcherAt (wsV RX10 188 RJx4a65c yJx4a65c_get_915e3 wsJx4a65c_get_915e3) := goodIn_app (goodIn_of _ (by decide +kernel)) ggX10_watcherAt_Jx4a65c_get_915e3
theorem dX10_watcherAt_0 : decode cX10_watcherAt 0 = .ok (.iload_n 1, 1) := by decide +kernel
theorem dX10_watcherAt_1 : decode cX10_watcherAt 1 = .ok (.ifCond .lt 14, 3) := by decide +kernel
theorem dX10_watcherAt_4 : decode cX10_watcherAt 4 = .ok (.iload_n 1, 1) := by decide +kernel
theorem dX10_watcherAt_5 : decode cX10_watcherAt 5 = .ok (.aload_n 0, 1) := by decide +kernel
theorem dX10_watcherAt_6 : decode cX10_watcherAt 6 = .ok (.getfield 16, 3) := by decide +kernel
theorem dX10_watcherAt_9 : decode cX10_watcherAt 9 = .ok (.invokevirtual 81, 3) := by decide +kernel
theorem dX10_watcherAt_12 : decode cX10_watcherAt 12 = .ok (.if_icmp .lt 14, 3) := by decide +kernel
theorem dX10_watcherAt_15 : decode cX10_watcherAt 15 = .ok (.new 183, 3) := by decide +kernel
theorem dX10_watcherAt_18 : decode cX10_watcherAt 18 = .ok (.dup, 1) := by decide +kernel
theorem dX10_watcherAt_19 : decode cX10_watcherAt 19 = .ok (.ldc_w 309, 3) := by decide +kernel
theorem dX10_watcherAt_22 : decode cX10_watcherAt 22 = .ok (.invokespecial 187, 3) := by decide +kernel
theorem dX10_watcherAt_25 : decode cX10_watcherAt 25 = .ok (.athrow, 1) := by decide +kernel
theorem dX10_watcherAt_26 : decode cX10_watcherAt 26 = .ok (.aload_n 0, 1) := by decide +kernel
theorem dX10_watcherAt_27 : decode cX10_watcherAt 27 = .ok (.getfield 16, 3) := by decide +kernel
theorem dX10_watcherAt_30 : decode cX10_watcherAt 30 = .ok (.iload_n 1, 1) := by decide +kernel
theorem dX10_watcherAt_31 : decode cX10_watcherAt 31 = .ok (.invokevirtual 188, 3) := by decide +kernel
theorem dX10_watcherAt_34 : decode cX10_watcherAt 34 = .ok (.checkcast 67, 3) := by decide +kernel
theorem dX10_watcherAt_37 : decode cX10_watcherAt 37 = .ok (.areturn, 1) := by decide +kernel
set_option maxRecDepth 20000 in
theorem ggX10_starAt_Jx4a65c_size_8abf5 : GoodIn wsX10_starAt wsJx4a65c_size_8abf5 := goodIn_r _ [9, 10, 41, 42, 43] (by decide +kernel) (by decide +kernel)
