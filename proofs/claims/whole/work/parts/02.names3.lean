theorem dX11_split_10 : decode cX11_split 10 = .ok (.goto 4, 3) := by decide +kernel
theorem dX11_split_13 : decode cX11_split 13 = .ok (.iconst 1, 1) := by decide +kernel
theorem dX11_split_14 : decode cX11_split 14 = .ok (.putfield 110, 3) := by decide +kernel
theorem dX11_split_17 : decode cX11_split 17 = .ok (.iconst 0, 1) := by decide +kernel
theorem dX11_split_18 : decode cX11_split 18 = .ok (.istore_n 2, 1) := by decide +kernel
theorem dX11_split_19 : decode cX11_split 19 = .ok (.iconst 0, 1) := by decide +kernel
theorem dX11_split_20 : decode cX11_split 20 = .ok (.istore_n 3, 1) := by decide +kernel
theorem dX11_split_21 : decode cX11_split 21 = .ok (.iload_n 3, 1) := by decide +kernel
theorem dX11_split_22 : decode cX11_split 22 = .ok (.aload_n 0, 1) := by decide +kernel
theorem dX11_split_23 : decode cX11_split 23 = .ok (.getfield 114, 3) := by decide +kernel
theorem dX11_split_26 : decode cX11_split 26 = .ok (.if_icmp .ge 39, 3) := by decide +kernel
theorem dX11_split_29 : decode cX11_split 29 = .ok (.aload_n 0, 1) := by decide +kernel
theorem dX11_split_30 : decode cX11_split 30 = .ok (.getfield 110, 3) := by decide +kernel
theorem dX11_split_33 : decode cX11_split 33 = .ok (.ifCond .ne 32, 3) := by decide +kernel
theorem dX11_split_36 : decode cX11_split 36 = .ok (.iload_n 2, 1) := by decide +kernel
theorem dX11_split_37 : decode cX11_split 37 = .ok (.aload_n 0, 1) := by decide +kernel
theorem dX11_split_38 : decode cX11_split 38 = .ok (.getfield 16, 3) := by decide +kernel
theorem dX11_split_41 : decode cX11_split 41 = .ok (.iload_n 3, 1) := by decide +kernel
theorem dX11_split_42 : decode cX11_split 42 = .ok (.iaload, 1) := by decide +kernel
theorem dX11_split_43 : decode cX11_split 43 = .ok (.aload_n 0, 1) := by decide +kernel
theorem dX11_split_44 : decode cX11_split 44 = .ok (.getfield 16, 3) := by decide +kernel
theorem dX11_split_47 : decode cX11_split 47 = .ok (.iload_n 1, 1) := by decide +kernel
theorem dX11_split_48 : decode cX11_split 48 = .ok (.iaload, 1) := by decide +kernel
theorem dX11_split_49 : decode cX11_split 49 = .ok (.if_icmp .ne 7, 3) := by decide +kernel
theorem dX11_split_52 : decode cX11_split 52 = .ok (.iconst 1, 1) := by decide +kernel
theorem dX11_split_53 : decode cX11_split 53 = .ok (.goto 4, 3) := by decide +kernel
theorem dX11_split_56 : decode cX11_split 56 = .ok (.iconst 0, 1) := by decide +kernel
theorem dX11_split_57 : decode cX11_split 57 = .ok (.iadd, 1) := by decide +kernel
theorem dX11_split_58 : decode cX11_split 58 = .ok (.istore_n 2, 1) := by decide +kernel
theorem dX11_split_59 : decode cX11_split 59 = .ok (.iinc 3 1, 3) := by decide +kernel
theorem dX11_split_62 : decode cX11_split 62 = .ok (.goto (-41), 3) := by decide +kernel
theorem dX11_split_65 : decode cX11_split 65 = .ok (.aload_n 0, 1) := by decide +kernel
theorem dX11_split_66 : decode cX11_split 66 = .ok (.aload_n 0, 1) := by decide +kernel
theorem dX11_split_67 : decode cX11_split 67 = .ok (.getfield 110, 3) := by decide +kernel
theorem dX11_split_70 : decode cX11_split 70 = .ok (.ifCond .ne 12, 3) := by decide +kernel
theorem dX11_split_73 : decode cX11_split 73 = .ok (.iload_n 2, 1) := by decide +kernel
theorem dX11_split_74 : decode cX11_split 74 = .ok (.iconst 1, 1) := by decide +kernel
theorem dX11_split_75 : decode cX11_split 75 = .ok (.if_icmp .ne 7, 3) := by decide +kernel
theorem dX11_split_78 : decode cX11_split 78 = .ok (.iconst 2, 1) := by decide +kernel
theorem dX11_split_79 : decode cX11_split 79 = .ok (.goto 7, 3) := by decide +kernel
theorem dX11_split_82 : decode cX11_split 82 = .ok (.aload_n 0, 1) := by decide +kernel
theorem dX11_split_83 : decode cX11_split 83 = .ok (.getfield 110, 3) := by decide +kernel
theorem dX11_split_86 : decode cX11_split 86 = .ok (.putfield 110, 3) := by decide +kernel
theorem dX11_split_89 : decode cX11_split 89 = .ok (.aload_n 0, 1) := by decide +kernel
theorem dX11_split_90 : decode cX11_split 90 = .ok (.getfield 110, 3) := by decide +kernel
theorem dX11_split_93 : decode cX11_split 93 = .ok (.ifCond .le 5, 3) := by decide +kernel
theorem dX11_split_96 : decode cX11_split 96 = .ok (.iconst 0, 1) := by decide +kernel
theorem dX11_split_97 : decode cX11_split 97 = .ok (.ireturn, 1) := by decide +kernel
theorem dX11_split_98 : decode cX11_split 98 = .ok (.aload_n 0, 1) := by decide +kernel
theorem dX11_split_99 : decode cX11_split 99 = .ok (.getfield 16, 3) := by decide +kernel
theorem dX11_split_102 : decode cX11_split 102 = .ok (.iload_n 1, 1) := by decide +kernel
theorem dX11_split_103 : decode cX11_split 103 = .ok (.iaload, 1) := by decide +kernel
theorem dX11_split_104 : decode cX11_split 104 = .ok (.istore_n 3, 1) := by decide +kernel
theorem dX11_split_105 : decode cX11_split 105 = .ok (.aload_n 0, 1) := by decide +kernel
theorem dX11_split_106 : decode cX11_split 106 = .ok (.getfield 16, 3) := by decide +kernel
theorem dX11_split_109 : decode cX11_split 109 = .ok (.iload_n 1, 1) := by decide +kernel
theorem dX11_split_110 : decode cX11_split 110 = .ok (.bipush 12, 2) := by decide +kernel
theorem dX11_split_112 : decode cX11_split 112 = .ok (.iastore, 1) := by decide +kernel
theorem dX11_split_113 : decode cX11_split 113 = .ok (.aload_n 0, 1) := by decide +kernel
theorem dX11_split_114 : decode cX11_split 114 = .ok (.iload_n 3, 1) := by decide +kernel
theorem dX11_split_115 : decode cX11_split 115 = .ok (.invokevirtual 140, 3) := by decide +kernel
theorem dX11_split_118 : decode cX11_split 118 = .ok (.istore 4, 2) := by decide +kernel
theorem dX11_split_120 : decode cX11_split 120 = .ok (.aload_n 0, 1) := by decide +kernel
theorem dX11_split_121 : decode cX11_split 121 = .ok (.getfield 16, 3) := by decide +kernel
theorem dX11_split_124 : decode cX11_split 124 = .ok (.iload_n 1, 1) := by decide +kernel
theorem dX11_split_125 : decode cX11_split 125 = .ok (.iload_n 1, 1) := by decide +kernel
theorem dX11_split_126 : decode cX11_split 126 = .ok (.iastore, 1) := by decide +kernel
theorem dX11_split_127 : decode cX11_split 127 = .ok (.iload 4, 2) := by decide +kernel
theorem dX11_split_129 : decode cX11_split 129 = .ok (.ireturn, 1) := by decide +kernel
set_option maxRecDepth 20000 in
theorem ggX11_entry_X11_isStar : GoodIn wsX11_entry wsX11_isStar := goodIn_r _ [7, 8, 9, 10, 6, 11, 12, 13, 14, 15, 16, 17, 18, 19, 20, 21, 22, 23, 24, 25, 26, 27, 28, 29, 30, 31, 32, 33, 34, 35, 36, 37, 38, 39, 40, 41, 42, 43, 44, 45, 46, 47, 48, 49, 50, 51, 52, 53] (by decide +kernel) (by decide +kernel)
set_option maxRecDepth 20000 in
theorem gX11_entry_X11_isStar : GoodIn wsX11_entry (wsV RX11 129 RX11 yX11_isStar wsX11_isStar) := goodIn_app (goodIn_of _ (by decide +kernel)) ggX11_entry_X11_isStar
theorem dX11_entry_0 : decode cX11_entry 0 = .ok (.aload_n 0, 1) := by decide +kernel
theorem dX11_entry_1 : decode cX11_entry 1 = .ok (.aload_n 0, 1) := by decide +kernel
theorem dX11_entry_2 : decode cX11_entry 2 = .ok (.iload_n 1, 1) := by decide +kernel
theorem dX11_entry_3 : decode cX11_entry 3 = .ok (.invokevirtual 129, 3) := by decide +kernel
theorem dX11_entry_6 : decode cX11_entry 6 = .ok (.ifCond .eq 7, 3) := by decide +kernel
theorem dX11_entry_9 : decode cX11_entry 9 = .ok (.iconst 0, 1) := by decide +kernel
theorem dX11_entry_10 : decode cX11_entry 10 = .ok (.goto 4, 3) := by decide +kernel
theorem dX11_entry_13 : decode cX11_entry 13 = .ok (.iconst 1, 1) := by decide +kernel
theorem dX11_entry_14 : decode cX11_entry 14 = .ok (.putfield 110, 3) := by decide +kernel
theorem dX11_entry_17 : decode cX11_entry 17 = .ok (.aload_n 0, 1) := by decide +kernel
theorem dX11_entry_18 : decode cX11_entry 18 = .ok (.getfield 110, 3) := by decide +kernel
theorem dX11_entry_21 : decode cX11_entry 21 = .ok (.ifCond .ne 12, 3) := by decide +kernel
theorem dX11_entry_24 : decode cX11_entry 24 = .ok (.aload_n 0, 1) := by decide +kernel
theorem dX11_entry_25 : decode cX11_entry 25 = .ok (.getfield 16, 3) := by decide +kernel
theorem dX11_entry_28 : decode cX11_entry 28 = .ok (.iload_n 1, 1) := by decide +kernel
theorem dX11_entry_29 : decode cX11_entry 29 = .ok (.iaload, 1) := by decide +kernel
theorem dX11_entry_30 : decode cX11_entry 30 = .ok (.goto 4, 3) := by decide +kernel
theorem dX11_entry_33 : decode cX11_entry 33 = .ok (.iconst 0, 1) := by decide +kernel
theorem dX11_entry_34 : decode cX11_entry 34 = .ok (.ireturn, 1) := by decide +kernel
theorem dX11_entries_0 : decode cX11_entries 0 = .ok (.aload_n 0, 1) := by decide +kernel
theorem dX11_entries_1 : decode cX11_entries 1 = .ok (.iload_n 1, 1) := by decide +kernel
theorem dX11_entries_2 : decode cX11_entries 2 = .ok (.iconst (-1), 1) := by decide +kernel
theorem dX11_entries_3 : decode cX11_entries 3 = .ok (.if_icmp .ge 7, 3) := by decide +kernel
theorem dX11_entries_6 : decode cX11_entries 6 = .ok (.iconst 1, 1) := by decide +kernel
theorem dX11_entries_7 : decode cX11_entries 7 = .ok (.goto 4, 3) := by decide +kernel
theorem dX11_entries_10 : decode cX11_entries 10 = .ok (.iconst 0, 1) := by decide +kernel
theorem dX11_entries_11 : decode cX11_entries 11 = .ok (.putfield 110, 3) := by decide +kernel
theorem dX11_entries_14 : decode cX11_entries 14 = .ok (.iconst 0, 1) := by decide +kernel
theorem dX11_entries_15 : decode cX11_entries 15 = .ok (.istore_n 2, 1) := by decide +kernel
theorem dX11_entries_16 : decode cX11_entries 16 = .ok (.iconst 0, 1) := by decide +kernel
theorem dX11_entries_17 : decode cX11_entries 17 = .ok (.istore_n 3, 1) := by decide +kernel
theorem dX11_entries_18 : decode cX11_entries 18 = .ok (.iload_n 3, 1) := by decide +kernel
theorem dX11_entries_19 : decode cX11_entries 19 = .ok (.aload_n 0, 1) := by decide +kernel
theorem dX11_entries_20 : decode cX11_entries 20 = .ok (.getfield 114, 3) := by decide +kernel
theorem dX11_entries_23 : decode cX11_entries 23 = .ok (.if_icmp .ge 29, 3) := by decide +kernel
theorem dX11_entries_26 : decode cX11_entries 26 = .ok (.aload_n 0, 1) := by decide +kernel
theorem dX11_entries_27 : decode cX11_entries 27 = .ok (.getfield 16, 3) := by decide +kernel
theorem dX11_entries_30 : decode cX11_entries 30 = .ok (.iload_n 3, 1) := by decide +kernel
theorem dX11_entries_31 : decode cX11_entries 31 = .ok (.iaload, 1) := by decide +kernel
theorem dX11_entries_32 : decode cX11_entries 32 = .ok (.iload_n 3, 1) := by decide +kernel
theorem dX11_entries_33 : decode cX11_entries 33 = .ok (.if_icmp .ne 13, 3) := by decide +kernel
theorem dX11_entries_36 : decode cX11_entries 36 = .ok (.iload_n 2, 1) := by decide +kernel
theorem dX11_entries_37 : decode cX11_entries 37 = .ok (.iload_n 1, 1) := by decide +kernel
theorem dX11_entries_38 : decode cX11_entries 38 = .ok (.if_icmp .ne 5, 3) := by decide +kernel
theorem dX11_entries_41 : decode cX11_entries 41 = .ok (.iload_n 3, 1) := by decide +kernel
theorem dX11_entries_42 : decode cX11_entries 42 = .ok (.ireturn, 1) := by decide +kernel
theorem dX11_entries_43 : decode cX11_entries 43 = .ok (.iinc 2 1, 3) := by decide +kernel
theorem dX11_entries_46 : decode cX11_entries 46 = .ok (.iinc 3 1, 3) := by decide +kernel
theorem dX11_entries_49 : decode cX11_entries 49 = .ok (.goto (-31), 3) := by decide +kernel
theorem dX11_entries_52 : decode cX11_entries 52 = .ok (.aload_n 0, 1) := by decide +kernel
theorem dX11_entries_53 : decode cX11_entries 53 = .ok (.getfield 110, 3) := by decide +kernel
theorem dX11_entries_56 : decode cX11_entries 56 = .ok (.ifCond .le 7, 3) := by decide +kernel
theorem dX11_entries_59 : decode cX11_entries 59 = .ok (.iconst 0, 1) := by decide +kernel
theorem dX11_entries_60 : decode cX11_entries 60 = .ok (.goto 13, 3) := by decide +kernel
theorem dX11_entries_63 : decode cX11_entries 63 = .ok (.iload_n 1, 1) := by decide +kernel
theorem dX11_entries_64 : decode cX11_entries 64 = .ok (.iconst (-1), 1) := by decide +kernel
theorem dX11_entries_65 : decode cX11_entries 65 = .ok (.if_icmp .ne 7, 3) := by decide +kernel
theorem dX11_entries_68 : decode cX11_entries 68 = .ok (.iload_n 2, 1) := by decide +kernel
theorem dX11_entries_69 : decode cX11_entries 69 = .ok (.goto 4, 3) := by decide +kernel
theorem dX11_entries_72 : decode cX11_entries 72 = .ok (.iconst (-1), 1) := by decide +kernel
theorem dX11_entries_73 : decode cX11_entries 73 = .ok (.ireturn, 1) := by decide +kernel
theorem dX11_late_0 : decode cX11_late 0 = .ok (.iload_n 1, 1) := by decide +kernel
theorem dX11_late_1 : decode cX11_late 1 = .ok (.sipush 1440, 3) := by decide +kernel
theorem dX11_late_4 : decode cX11_late 4 = .ok (.idiv, 1) := by decide +kernel
theorem dX11_late_5 : decode cX11_late 5 = .ok (.aload_n 0, 1) := by decide +kernel
theorem dX11_late_6 : decode cX11_late 6 = .ok (.getfield 13, 3) := by decide +kernel
theorem dX11_late_9 : decode cX11_late 9 = .ok (.iload_n 2, 1) := by decide +kernel
theorem dX11_late_10 : decode cX11_late 10 = .ok (.iaload, 1) := by decide +kernel
theorem dX11_late_11 : decode cX11_late 11 = .ok (.iadd, 1) := by decide +kernel
theorem dX11_late_12 : decode cX11_late 12 = .ok (.sipush 364, 3) := by decide +kernel
theorem dX11_late_15 : decode cX11_late 15 = .ok (.irem, 1) := by decide +kernel
theorem dX11_late_16 : decode cX11_late 16 = .ok (.istore_n 3, 1) := by decide +kernel
theorem dX11_late_17 : decode cX11_late 17 = .ok (.iload_n 3, 1) := by decide +kernel
theorem dX11_late_18 : decode cX11_late 18 = .ok (.sipush 364, 3) := by decide +kernel
theorem dX11_late_21 : decode cX11_late 21 = .ok (.iload_n 3, 1) := by decide +kernel
theorem dX11_late_22 : decode cX11_late 22 = .ok (.isub, 1) := by decide +kernel
theorem dX11_late_23 : decode cX11_late 23 = .ok (.if_icmp .ge 7, 3) := by decide +kernel
theorem dX11_late_26 : decode cX11_late 26 = .ok (.iload_n 3, 1) := by decide +kernel
theorem dX11_late_27 : decode cX11_late 27 = .ok (.goto 8, 3) := by decide +kernel
theorem dX11_late_30 : decode cX11_late 30 = .ok (.sipush 364, 3) := by decide +kernel
theorem dX11_late_33 : decode cX11_late 33 = .ok (.iload_n 3, 1) := by decide +kernel
theorem dX11_late_34 : decode cX11_late 34 = .ok (.isub, 1) := by decide +kernel
theorem dX11_late_35 : decode cX11_late 35 = .ok (.istore 4, 2) := by decide +kernel
theorem dX11_late_37 : decode cX11_late 37 = .ok (.bipush 8, 2) := by decide +kernel
theorem dX11_late_39 : decode cX11_late 39 = .ok (.bipush 16, 2) := by decide +kernel
theorem dX11_late_41 : decode cX11_late 41 = .ok (.iload 4, 2) := by decide +kernel
theorem dX11_late_43 : decode cX11_late 43 = .ok (.imul, 1) := by decide +kernel
theorem dX11_late_44 : decode cX11_late 44 = .ok (.sipush 182, 3) := by decide +kernel
theorem dX11_late_47 : decode cX11_late 47 = .ok (.idiv, 1) := by decide +kernel
theorem dX11_late_48 : decode cX11_late 48 = .ok (.isub, 1) := by decide +kernel
theorem dX11_late_49 : decode cX11_late 49 = .ok (.ireturn, 1) := by decide +kernel
set_option maxRecDepth 20000 in
theorem ggX11_raw_X11_part : GoodIn wsX11_raw wsX11_part := goodIn_r _ [14] (by decide +kernel) (by decide +kernel)
set_option maxRecDepth 20000 in
theorem gX11_raw_X11_part : GoodIn wsX11_raw (va_wsS RX11 144 yX11_part wsX11_part) := goodIn_app (goodIn_of _ (by decide +kernel)) ggX11_raw_X11_part
theorem dX11_raw_0 : decode cX11_raw 0 = .ok (.aload_n 0, 1) := by decide +kernel
theorem dX11_raw_1 : decode cX11_raw 1 = .ok (.getfield 40, 3) := by decide +kernel
theorem dX11_raw_4 : decode cX11_raw 4 = .ok (.iload_n 1, 1) := by decide +kernel
theorem dX11_raw_5 : decode cX11_raw 5 = .ok (.iaload, 1) := by decide +kernel
theorem dX11_raw_6 : decode cX11_raw 6 = .ok (.ifCond .ne 54, 3) := by decide +kernel
theorem dX11_raw_9 : decode cX11_raw 9 = .ok (.aload_n 0, 1) := by decide +kernel
theorem dX11_raw_10 : decode cX11_raw 10 = .ok (.getfield 7, 3) := by decide +kernel
theorem dX11_raw_13 : decode cX11_raw 13 = .ok (.aload_n 0, 1) := by decide +kernel
theorem dX11_raw_14 : decode cX11_raw 14 = .ok (.getfield 52, 3) := by decide +kernel
theorem dX11_raw_17 : decode cX11_raw 17 = .ok (.iload_n 1, 1) := by decide +kernel
theorem dX11_raw_18 : decode cX11_raw 18 = .ok (.iaload, 1) := by decide +kernel
theorem dX11_raw_19 : decode cX11_raw 19 = .ok (.iaload, 1) := by decide +kernel
theorem dX11_raw_20 : decode cX11_raw 20 = .ok (.istore_n 2, 1) := by decide +kernel
theorem dX11_raw_21 : decode cX11_raw 21 = .ok (.iload_n 2, 1) := by decide +kernel
theorem dX11_raw_22 : decode cX11_raw 22 = .ok (.aload_n 0, 1) := by decide +kernel
theorem dX11_raw_23 : decode cX11_raw 23 = .ok (.getfield 7, 3) := by decide +kernel
theorem dX11_raw_26 : decode cX11_raw 26 = .ok (.aload_n 0, 1) := by decide +kernel
theorem dX11_raw_27 : decode cX11_raw 27 = .ok (.getfield 61, 3) := by decide +kernel
theorem dX11_raw_30 : decode cX11_raw 30 = .ok (.iload_n 1, 1) := by decide +kernel
theorem dX11_raw_31 : decode cX11_raw 31 = .ok (.iaload, 1) := by decide +kernel
theorem dX11_raw_32 : decode cX11_raw 32 = .ok (.iaload, 1) := by decide +kernel
theorem dX11_raw_33 : decode cX11_raw 33 = .ok (.iload_n 2, 1) := by decide +kernel
theorem dX11_raw_34 : decode cX11_raw 34 = .ok (.isub, 1) := by decide +kernel
theorem dX11_raw_35 : decode cX11_raw 35 = .ok (.aload_n 0, 1) := by decide +kernel
theorem dX11_raw_36 : decode cX11_raw 36 = .ok (.getfield 55, 3) := by decide +kernel
theorem dX11_raw_39 : decode cX11_raw 39 = .ok (.iload_n 1, 1) := by decide +kernel
theorem dX11_raw_40 : decode cX11_raw 40 = .ok (.iaload, 1) := by decide +kernel
theorem dX11_raw_41 : decode cX11_raw 41 = .ok (.imul, 1) := by decide +kernel
theorem dX11_raw_42 : decode cX11_raw 42 = .ok (.aload_n 0, 1) := by decide +kernel
theorem dX11_raw_43 : decode cX11_raw 43 = .ok (.getfield 55, 3) := by decide +kernel
theorem dX11_raw_46 : decode cX11_raw 46 = .ok (.iload_n 1, 1) := by decide +kernel
theorem dX11_raw_47 : decode cX11_raw 47 = .ok (.iaload, 1) := by decide +kernel
theorem dX11_raw_48 : decode cX11_raw 48 = .ok (.aload_n 0, 1) := by decide +kernel
theorem dX11_raw_49 : decode cX11_raw 49 = .ok (.getfield 58, 3) := by decide +kernel
theorem dX11_raw_52 : decode cX11_raw 52 = .ok (.iload_n 1, 1) := by decide +kernel
theorem dX11_raw_53 : decode cX11_raw 53 = .ok (.iaload, 1) := by decide +kernel
theorem dX11_raw_54 : decode cX11_raw 54 = .ok (.iadd, 1) := by decide +kernel
theorem dX11_raw_55 : decode cX11_raw 55 = .ok (.invokestatic 144, 3) := by decide +kernel
theorem dX11_raw_58 : decode cX11_raw 58 = .ok (.iadd, 1) := by decide +kernel
theorem dX11_raw_59 : decode cX11_raw 59 = .ok (.ireturn, 1) := by decide +kernel
theorem dX11_raw_60 : decode cX11_raw 60 = .ok (.aload_n 0, 1) := by decide +kernel
theorem dX11_raw_61 : decode cX11_raw 61 = .ok (.getfield 34, 3) := by decide +kernel
theorem dX11_raw_64 : decode cX11_raw 64 = .ok (.aload_n 0, 1) := by decide +kernel
theorem dX11_raw_65 : decode cX11_raw 65 = .ok (.getfield 46, 3) := by decide +kernel
theorem dX11_raw_68 : decode cX11_raw 68 = .ok (.iload_n 1, 1) := by decide +kernel
theorem dX11_raw_69 : decode cX11_raw 69 = .ok (.iaload, 1) := by decide +kernel
theorem dX11_raw_70 : decode cX11_raw 70 = .ok (.iaload, 1) := by decide +kernel
theorem dX11_raw_71 : decode cX11_raw 71 = .ok (.aload_n 0, 1) := by decide +kernel
theorem dX11_raw_72 : decode cX11_raw 72 = .ok (.getfield 49, 3) := by decide +kernel
theorem dX11_raw_75 : decode cX11_raw 75 = .ok (.iload_n 1, 1) := by decide +kernel
theorem dX11_raw_76 : decode cX11_raw 76 = .ok (.iaload, 1) := by decide +kernel
theorem dX11_raw_77 : decode cX11_raw 77 = .ok (.aload_n 0, 1) := by decide +kernel
theorem dX11_raw_78 : decode cX11_raw 78 = .ok (.getfield 37, 3) := by decide +kernel
theorem dX11_raw_81 : decode cX11_raw 81 = .ok (.aload_n 0, 1) := by decide +kernel
theorem dX11_raw_82 : decode cX11_raw 82 = .ok (.getfield 46, 3) := by decide +kernel
theorem dX11_raw_85 : decode cX11_raw 85 = .ok (.iload_n 1, 1) := by decide +kernel
theorem dX11_raw_86 : decode cX11_raw 86 = .ok (.iaload, 1) := by decide +kernel
theorem dX11_raw_87 : decode cX11_raw 87 = .ok (.iaload, 1) := by decide +kernel
theorem dX11_raw_88 : decode cX11_raw 88 = .ok (.imul, 1) := by decide +kernel
theorem dX11_raw_89 : decode cX11_raw 89 = .ok (.bipush 10, 2) := by decide +kernel
theorem dX11_raw_91 : decode cX11_raw 91 = .ok (.idiv, 1) := by decide +kernel
theorem dX11_raw_92 : decode cX11_raw 92 = .ok (.isub, 1) := by decide +kernel
theorem dX11_raw_93 : decode cX11_raw 93 = .ok (.ireturn, 1) := by decide +kernel
set_option maxRecDepth 20000 in
theorem ggX11_light_X11_raw : GoodIn wsX11_light wsX11_raw := goodIn_r _ [8, 1, 9, 10, 11, 12, 13, 14, 3, 15, 16, 17, 18, 7, 19, 20, 21, 22, 23, 24, 25, 26, 27, 28, 29, 30, 31, 32, 33, 34, 35, 36, 37, 38, 39, 40, 41, 42, 43, 44, 45, 46, 47, 48, 49, 50, 51, 52, 53, 54, 55, 56, 57, 58, 59, 60, 61] (by decide +kernel) (by decide +kernel)
set_option maxRecDepth 20000 in
theorem gX11_light_X11_raw : GoodIn wsX11_light (wsV RX11 148 RX11 yX11_raw wsX11_raw) := goodIn_app (goodIn_of _ (by decide +kernel)) ggX11_light_X11_raw
theorem dX11_light_0 : decode cX11_light 0 = .ok (.aload_n 0, 1) := by decide +kernel
theorem dX11_light_1 : decode cX11_light 1 = .ok (.iload_n 1, 1) := by decide +kernel
theorem dX11_light_2 : decode cX11_light 2 = .ok (.invokevirtual 148, 3) := by decide +kernel
theorem dX11_light_5 : decode cX11_light 5 = .ok (.aload_n 0, 1) := by decide +kernel
theorem dX11_light_6 : decode cX11_light 6 = .ok (.getfield 40, 3) := by decide +kernel
theorem dX11_light_9 : decode cX11_light 9 = .ok (.iload_n 1, 1) := by decide +kernel
theorem dX11_light_10 : decode cX11_light 10 = .ok (.iaload, 1) := by decide +kernel
theorem dX11_light_11 : decode cX11_light 11 = .ok (.ifCond .ne 17, 3) := by decide +kernel
theorem dX11_light_14 : decode cX11_light 14 = .ok (.aload_n 0, 1) := by decide +kernel
theorem dX11_light_15 : decode cX11_light 15 = .ok (.getfield 25, 3) := by decide +kernel
theorem dX11_light_18 : decode cX11_light 18 = .ok (.aload_n 0, 1) := by decide +kernel
theorem dX11_light_19 : decode cX11_light 19 = .ok (.getfield 46, 3) := by decide +kernel
theorem dX11_light_22 : decode cX11_light 22 = .ok (.iload_n 1, 1) := by decide +kernel
theorem dX11_light_23 : decode cX11_light 23 = .ok (.iaload, 1) := by decide +kernel
theorem dX11_light_24 : decode cX11_light 24 = .ok (.iaload, 1) := by decide +kernel
theorem dX11_light_25 : decode cX11_light 25 = .ok (.goto 4, 3) := by decide +kernel
theorem dX11_light_28 : decode cX11_light 28 = .ok (.iconst 0, 1) := by decide +kernel
theorem dX11_light_29 : decode cX11_light 29 = .ok (.isub, 1) := by decide +kernel
theorem dX11_light_30 : decode cX11_light 30 = .ok (.ireturn, 1) := by decide +kernel
set_option maxRecDepth 20000 in
theorem ggX11_time_X11_late : GoodIn wsX11_time wsX11_late := goodIn_r _ [11, 12, 13, 14, 15, 16, 17, 18, 19, 20, 21, 22, 23, 24, 25, 26, 27, 28, 29, 30, 31, 32, 33, 34, 35, 36, 37, 38, 39, 40, 41, 42, 43, 44, 45, 46, 47, 48, 49, 50, 51, 52, 53, 54] (by decide +kernel) (by decide +kernel)
set_option maxRecDepth 20000 in
theorem gX11_time_X11_late : GoodIn wsX11_time (wsV RX11 151 RX11 yX11_late wsX11_late) := goodIn_app (goodIn_of _ (by decide +kernel)) ggX11_time_X11_late
theorem dX11_time_0 : decode cX11_time 0 = .ok (.aload_n 0, 1) := by decide +kernel
theorem dX11_time_1 : decode cX11_time 1 = .ok (.getfield 40, 3) := by decide +kernel
theorem dX11_time_4 : decode cX11_time 4 = .ok (.iload_n 1, 1) := by decide +kernel
theorem dX11_time_5 : decode cX11_time 5 = .ok (.iaload, 1) := by decide +kernel
theorem dX11_time_6 : decode cX11_time 6 = .ok (.ifCond .ne 12, 3) := by decide +kernel
theorem dX11_time_9 : decode cX11_time 9 = .ok (.aload_n 0, 1) := by decide +kernel
theorem dX11_time_10 : decode cX11_time 10 = .ok (.getfield 49, 3) := by decide +kernel
theorem dX11_time_13 : decode cX11_time 13 = .ok (.iload_n 1, 1) := by decide +kernel
theorem dX11_time_14 : decode cX11_time 14 = .ok (.iaload, 1) := by decide +kernel
theorem dX11_time_15 : decode cX11_time 15 = .ok (.goto 14, 3) := by decide +kernel
theorem dX11_time_18 : decode cX11_time 18 = .ok (.aload_n 0, 1) := by decide +kernel
theorem dX11_time_19 : decode cX11_time 19 = .ok (.getfield 31, 3) := by decide +kernel
theorem dX11_time_22 : decode cX11_time 22 = .ok (.aload_n 0, 1) := by decide +kernel
theorem dX11_time_23 : decode cX11_time 23 = .ok (.getfield 46, 3) := by decide +kernel
theorem dX11_time_26 : decode cX11_time 26 = .ok (.iload_n 1, 1) := by decide +kernel
theorem dX11_time_27 : decode cX11_time 27 = .ok (.iaload, 1) := by decide +kernel
theorem dX11_time_28 : decode cX11_time 28 = .ok (.iaload, 1) := by decide +kernel
theorem dX11_time_29 : decode cX11_time 29 = .ok (.istore_n 2, 1) := by decide +kernel
theorem dX11_time_30 : decode cX11_time 30 = .ok (.iload_n 2, 1) := by decide +kernel
theorem dX11_time_31 : decode cX11_time 31 = .ok (.aload_n 0, 1) := by decide +kernel
theorem dX11_time_32 : decode cX11_time 32 = .ok (.getfield 40, 3) := by decide +kernel
theorem dX11_time_35 : decode cX11_time 35 = .ok (.iload_n 1, 1) := by decide +kernel
theorem dX11_time_36 : decode cX11_time 36 = .ok (.iaload, 1) := by decide +kernel
theorem dX11_time_37 : decode cX11_time 37 = .ok (.ifCond .ne 17, 3) := by decide +kernel
theorem dX11_time_40 : decode cX11_time 40 = .ok (.aload_n 0, 1) := by decide +kernel
theorem dX11_time_41 : decode cX11_time 41 = .ok (.getfield 28, 3) := by decide +kernel
theorem dX11_time_44 : decode cX11_time 44 = .ok (.aload_n 0, 1) := by decide +kernel
theorem dX11_time_45 : decode cX11_time 45 = .ok (.getfield 46, 3) := by decide +kernel
theorem dX11_time_48 : decode cX11_time 48 = .ok (.iload_n 1, 1) := by decide +kernel
theorem dX11_time_49 : decode cX11_time 49 = .ok (.iaload, 1) := by decide +kernel
theorem dX11_time_50 : decode cX11_time 50 = .ok (.iaload, 1) := by decide +kernel
theorem dX11_time_51 : decode cX11_time 51 = .ok (.goto 4, 3) := by decide +kernel
theorem dX11_time_54 : decode cX11_time 54 = .ok (.iconst 0, 1) := by decide +kernel
theorem dX11_time_55 : decode cX11_time 55 = .ok (.isub, 1) := by decide +kernel
theorem dX11_time_56 : decode cX11_time 56 = .ok (.aload_n 0, 1) := by decide +kernel
theorem dX11_time_57 : decode cX11_time 57 = .ok (.iload_n 2, 1) := by decide +kernel
theorem dX11_time_58 : decode cX11_time 58 = .ok (.aload_n 0, 1) := by decide +kernel
theorem dX11_time_59 : decode cX11_time 59 = .ok (.getfield 43, 3) := by decide +kernel
theorem dX11_time_62 : decode cX11_time 62 = .ok (.iload_n 1, 1) := by decide +kernel
theorem dX11_time_63 : decode cX11_time 63 = .ok (.iaload, 1) := by decide +kernel
theorem dX11_time_64 : decode cX11_time 64 = .ok (.invokevirtual 151, 3) := by decide +kernel
theorem dX11_time_67 : decode cX11_time 67 = .ok (.iadd, 1) := by decide +kernel
theorem dX11_time_68 : decode cX11_time 68 = .ok (.ireturn, 1) := by decide +kernel
set_option maxRecDepth 20000 in
theorem ggX11_look_X11_in : GoodIn wsX11_look wsX11_in := goodIn_r _ [9] (by decide +kernel) (by decide +kernel)
set_option maxRecDepth 20000 in
theorem gX11_look_X11_in : GoodIn wsX11_look (va_wsS RX11 117 yX11_in wsX11_in) := goodIn_app (goodIn_of _ (by decide +kernel)) ggX11_look_X11_in
set_option maxRecDepth 20000 in
theorem ggX11_look_X11_raw : GoodIn wsX11_look wsX11_raw := goodIn_r _ [13, 5, 14, 15, 16, 17, 18, 19, 20, 21, 22, 23, 24, 8, 25, 42, 43, 44, 45, 46, 47, 48, 49, 50, 51, 52, 53, 54, 55, 56, 57, 58, 59, 60, 61, 62, 63, 64, 65, 66, 67, 68, 69, 70, 71, 72, 73, 74, 75, 76, 77, 78, 79, 80, 81, 82, 83] (by decide +kernel) (by decide +kernel)
set_option maxRecDepth 20000 in
theorem gX11_look_X11_raw : GoodIn wsX11_look (wsV RX11 148 RX11 yX11_raw wsX11_raw) := goodIn_app (goodIn_of _ (by decide +kernel)) ggX11_look_X11_raw
set_option maxRecDepth 20000 in
theorem ggX11_look_X11_light : GoodIn wsX11_look wsX11_light := goodIn_r _ [29, 5, 30, 20, 10, 11, 12, 8, 13, 14, 15, 16, 17, 18, 19, 21, 22, 23, 24, 25, 42, 43, 44, 45, 46, 47, 48, 49, 50, 51, 52, 53, 54, 55, 56, 57, 58, 59, 60, 61, 62, 63, 64, 65, 66, 67, 68, 69, 70, 71, 72, 73, 74, 75, 76, 77, 78, 79, 80, 81, 82, 83] (by decide +kernel) (by decide +kernel)
set_option maxRecDepth 20000 in
theorem gX11_look_X11_light : GoodIn wsX11_look (wsV RX11 154 RX11 yX11_light wsX11_light) := goodIn_app (goodIn_of _ (by decide +kernel)) ggX11_look_X11_light
set_option maxRecDepth 20000 in
theorem ggX11_look_X11_time : GoodIn wsX11_look wsX11_time := goodIn_r _ [34, 5, 21, 35, 20, 36, 3, 37, 38, 39, 8, 40, 41, 42, 43, 44, 45, 46, 47, 48, 49, 50, 51, 52, 53, 54, 55, 56, 57, 58, 59, 60, 61, 62, 63, 64, 65, 66, 67, 68, 69, 70, 71, 72, 73, 74, 75, 76, 77, 78, 79, 80, 81, 82, 83] (by decide +kernel) (by decide +kernel)
set_option maxRecDepth 20000 in
theorem gX11_look_X11_time : GoodIn wsX11_look (wsV RX11 157 RX11 yX11_time wsX11_time) := goodIn_app (goodIn_of _ (by decide +kernel)) ggX11_look_X11_time
theorem dX11_look_0 : decode cX11_look 0 = .ok (.aload_n 0, 1) := by decide +kernel
theorem dX11_look_1 : decode cX11_look 1 = .ok (.iload_n 1, 1) := by decide +kernel
theorem dX11_look_2 : decode cX11_look 2 = .ok (.iconst 0, 1) := by decide +kernel
theorem dX11_look_3 : decode cX11_look 3 = .ok (.aload_n 0, 1) := by decide +kernel
theorem dX11_look_4 : decode cX11_look 4 = .ok (.getfield 126, 3) := by decide +kernel
theorem dX11_look_7 : decode cX11_look 7 = .ok (.iconst 1, 1) := by decide +kernel
theorem dX11_look_8 : decode cX11_look 8 = .ok (.isub, 1) := by decide +kernel
theorem dX11_look_9 : decode cX11_look 9 = .ok (.invokestatic 117, 3) := by decide +kernel
theorem dX11_look_12 : decode cX11_look 12 = .ok (.ifCond .ne 7, 3) := by decide +kernel
theorem dX11_look_15 : decode cX11_look 15 = .ok (.iconst 1, 1) := by decide +kernel
theorem dX11_look_16 : decode cX11_look 16 = .ok (.goto 17, 3) := by decide +kernel
theorem dX11_look_19 : decode cX11_look 19 = .ok (.iload_n 2, 1) := by decide +kernel
theorem dX11_look_20 : decode cX11_look 20 = .ok (.iconst 0, 1) := by decide +kernel
theorem dX11_look_21 : decode cX11_look 21 = .ok (.iconst 5, 1) := by decide +kernel
theorem dX11_look_22 : decode cX11_look 22 = .ok (.invokestatic 117, 3) := by decide +kernel
theorem dX11_look_25 : decode cX11_look 25 = .ok (.ifCond .ne 7, 3) := by decide +kernel
theorem dX11_look_28 : decode cX11_look 28 = .ok (.iconst 2, 1) := by decide +kernel
theorem dX11_look_29 : decode cX11_look 29 = .ok (.goto 4, 3) := by decide +kernel
theorem dX11_look_32 : decode cX11_look 32 = .ok (.iconst 0, 1) := by decide +kernel
theorem dX11_look_33 : decode cX11_look 33 = .ok (.putfield 110, 3) := by decide +kernel
theorem dX11_look_36 : decode cX11_look 36 = .ok (.aload_n 0, 1) := by decide +kernel
theorem dX11_look_37 : decode cX11_look 37 = .ok (.getfield 110, 3) := by decide +kernel
theorem dX11_look_40 : decode cX11_look 40 = .ok (.ifCond .le 5, 3) := by decide +kernel
theorem dX11_look_43 : decode cX11_look 43 = .ok (.iconst 0, 1) := by decide +kernel
theorem dX11_look_44 : decode cX11_look 44 = .ok (.ireturn, 1) := by decide +kernel
theorem dX11_look_45 : decode cX11_look 45 = .ok (.iload_n 2, 1) := by decide +kernel
theorem dX11_look_46 : decode cX11_look 46 = .ok (.tableswitch 74 0 4 #[34, 40, 46, 52, 59], 34) := by decide +kernel
theorem dX11_look_80 : decode cX11_look 80 = .ok (.aload_n 0, 1) := by decide +kernel
theorem dX11_look_81 : decode cX11_look 81 = .ok (.iload_n 1, 1) := by decide +kernel
theorem dX11_look_82 : decode cX11_look 82 = .ok (.invokevirtual 148, 3) := by decide +kernel
theorem dX11_look_85 : decode cX11_look 85 = .ok (.ireturn, 1) := by decide +kernel
theorem dX11_look_86 : decode cX11_look 86 = .ok (.aload_n 0, 1) := by decide +kernel
theorem dX11_look_87 : decode cX11_look 87 = .ok (.iload_n 1, 1) := by decide +kernel
theorem dX11_look_88 : decode cX11_look 88 = .ok (.invokevirtual 154, 3) := by decide +kernel
theorem dX11_look_91 : decode cX11_look 91 = .ok (.ireturn, 1) := by decide +kernel
theorem dX11_look_92 : decode cX11_look 92 = .ok (.aload_n 0, 1) := by decide +kernel
theorem dX11_look_93 : decode cX11_look 93 = .ok (.iload_n 1, 1) := by decide +kernel
theorem dX11_look_94 : decode cX11_look 94 = .ok (.invokevirtual 157, 3) := by decide +kernel
theorem dX11_look_97 : decode cX11_look 97 = .ok (.ireturn, 1) := by decide +kernel
theorem dX11_look_98 : decode cX11_look 98 = .ok (.aload_n 0, 1) := by decide +kernel
theorem dX11_look_99 : decode cX11_look 99 = .ok (.getfield 43, 3) := by decide +kernel
theorem dX11_look_102 : decode cX11_look 102 = .ok (.iload_n 1, 1) := by decide +kernel
theorem dX11_look_103 : decode cX11_look 103 = .ok (.iaload, 1) := by decide +kernel
theorem dX11_look_104 : decode cX11_look 104 = .ok (.ireturn, 1) := by decide +kernel
theorem dX11_look_105 : decode cX11_look 105 = .ok (.aload_n 0, 1) := by decide +kernel
theorem dX11_look_106 : decode cX11_look 106 = .ok (.getfield 64, 3) := by decide +kernel
theorem dX11_look_109 : decode cX11_look 109 = .ok (.iload_n 1, 1) := by decide +kernel
theorem dX11_look_110 : decode cX11_look 110 = .ok (.baload, 1) := by decide +kernel
theorem dX11_look_111 : decode cX11_look 111 = .ok (.ifCond .eq 7, 3) := by decide +kernel
theorem dX11_look_114 : decode cX11_look 114 = .ok (.iconst 1, 1) := by decide +kernel
theorem dX11_look_115 : decode cX11_look 115 = .ok (.goto 4, 3) := by decide +kernel
theorem dX11_look_118 : decode cX11_look 118 = .ok (.iconst 0, 1) := by decide +kernel
theorem dX11_look_119 : decode cX11_look 119 = .ok (.ireturn, 1) := by decide +kernel
theorem dX11_look_120 : decode cX11_look 120 = .ok (.aload_n 0, 1) := by decide +kernel
theorem dX11_look_121 : decode cX11_look 121 = .ok (.getfield 40, 3) := by decide +kernel
theorem dX11_look_124 : decode cX11_look 124 = .ok (.iload_n 1, 1) := by decide +kernel
theorem dX11_look_125 : decode cX11_look 125 = .ok (.iaload, 1) := by decide +kernel
theorem dX11_look_126 : decode cX11_look 126 = .ok (.ireturn, 1) := by decide +kernel
set_option maxRecDepth 20000 in
theorem ggX11_gathers_X11_light : GoodIn wsX11_gathers wsX11_light := goodIn_r _ [12, 13, 14, 15, 16, 17, 18, 11, 19, 20, 21, 22, 23, 24, 25, 26, 27, 28, 29, 30, 42, 43, 44, 45, 46, 47, 48, 49, 50, 51, 52, 53, 54, 55, 56, 57, 58, 59, 60, 61, 62, 63, 64, 65, 66, 67, 68, 69, 70, 71, 72, 73, 74, 75, 76, 77, 78, 79, 80, 81, 82, 83] (by decide +kernel) (by decide +kernel)
set_option maxRecDepth 20000 in
theorem gX11_gathers_X11_light : GoodIn wsX11_gathers (wsV RX11 154 RX11 yX11_light wsX11_light) := goodIn_app (goodIn_of _ (by decide +kernel)) ggX11_gathers_X11_light
set_option maxRecDepth 20000 in
theorem ggX11_gathers_X11_time : GoodIn wsX11_gathers wsX11_time := goodIn_r _ [34, 13, 26, 35, 15, 36, 4, 37, 38, 39, 11, 40, 41, 42, 43, 44, 45, 46, 47, 48, 49, 50, 51, 52, 53, 54, 55, 56, 57, 58, 59, 60, 61, 62, 63, 64, 65, 66, 67, 68, 69, 70, 71, 72, 73, 74, 75, 76, 77, 78, 79, 80, 81, 82, 83] (by decide +kernel) (by decide +kernel)
set_option maxRecDepth 20000 in
theorem gX11_gathers_X11_time : GoodIn wsX11_gathers (wsV RX11 157 RX11 yX11_time wsX11_time) := goodIn_app (goodIn_of _ (by decide +kernel)) ggX11_gathers_X11_time
theorem dX11_gathers_0 : decode cX11_gathers 0 = .ok (.aload_n 0, 1) := by decide +kernel
theorem dX11_gathers_1 : decode cX11_gathers 1 = .ok (.iconst 0, 1) := by decide +kernel
theorem dX11_gathers_2 : decode cX11_gathers 2 = .ok (.putfield 160, 3) := by decide +kernel
theorem dX11_gathers_5 : decode cX11_gathers 5 = .ok (.iconst 0, 1) := by decide +kernel
theorem dX11_gathers_6 : decode cX11_gathers 6 = .ok (.istore_n 3, 1) := by decide +kernel
theorem dX11_gathers_7 : decode cX11_gathers 7 = .ok (.iload_n 3, 1) := by decide +kernel
theorem dX11_gathers_8 : decode cX11_gathers 8 = .ok (.aload_n 0, 1) := by decide +kernel
theorem dX11_gathers_9 : decode cX11_gathers 9 = .ok (.getfield 126, 3) := by decide +kernel
theorem dX11_gathers_12 : decode cX11_gathers 12 = .ok (.if_icmp .ge 81, 3) := by decide +kernel
theorem dX11_gathers_15 : decode cX11_gathers 15 = .ok (.aload_n 0, 1) := by decide +kernel
theorem dX11_gathers_16 : decode cX11_gathers 16 = .ok (.getfield 16, 3) := by decide +kernel
theorem dX11_gathers_19 : decode cX11_gathers 19 = .ok (.aload_n 0, 1) := by decide +kernel
theorem dX11_gathers_20 : decode cX11_gathers 20 = .ok (.getfield 43, 3) := by decide +kernel
theorem dX11_gathers_23 : decode cX11_gathers 23 = .ok (.iload_n 3, 1) := by decide +kernel
theorem dX11_gathers_24 : decode cX11_gathers 24 = .ok (.iaload, 1) := by decide +kernel
theorem dX11_gathers_25 : decode cX11_gathers 25 = .ok (.iaload, 1) := by decide +kernel
theorem dX11_gathers_26 : decode cX11_gathers 26 = .ok (.istore 4, 2) := by decide +kernel
theorem dX11_gathers_28 : decode cX11_gathers 28 = .ok (.aload_n 0, 1) := by decide +kernel
theorem dX11_gathers_29 : decode cX11_gathers 29 = .ok (.getfield 64, 3) := by decide +kernel
theorem dX11_gathers_32 : decode cX11_gathers 32 = .ok (.iload_n 3, 1) := by decide +kernel
theorem dX11_gathers_33 : decode cX11_gathers 33 = .ok (.baload, 1) := by decide +kernel
theorem dX11_gathers_34 : decode cX11_gathers 34 = .ok (.ifCond .ne 53, 3) := by decide +kernel
theorem dX11_gathers_37 : decode cX11_gathers 37 = .ok (.iload 4, 2) := by decide +kernel
theorem dX11_gathers_39 : decode cX11_gathers 39 = .ok (.iload_n 1, 1) := by decide +kernel
theorem dX11_gathers_40 : decode cX11_gathers 40 = .ok (.if_icmp .eq 9, 3) := by decide +kernel
theorem dX11_gathers_43 : decode cX11_gathers 43 = .ok (.iload 4, 2) := by decide +kernel
theorem dX11_gathers_45 : decode cX11_gathers 45 = .ok (.iload_n 2, 1) := by decide +kernel
theorem dX11_gathers_46 : decode cX11_gathers 46 = .ok (.if_icmp .ne 41, 3) := by decide +kernel
theorem dX11_gathers_49 : decode cX11_gathers 49 = .ok (.aload_n 0, 1) := by decide +kernel
theorem dX11_gathers_50 : decode cX11_gathers 50 = .ok (.getfield 92, 3) := by decide +kernel
theorem dX11_gathers_53 : decode cX11_gathers 53 = .ok (.aload_n 0, 1) := by decide +kernel
theorem dX11_gathers_54 : decode cX11_gathers 54 = .ok (.getfield 160, 3) := by decide +kernel
theorem dX11_gathers_57 : decode cX11_gathers 57 = .ok (.aload_n 0, 1) := by decide +kernel
theorem dX11_gathers_58 : decode cX11_gathers 58 = .ok (.iload_n 3, 1) := by decide +kernel
theorem dX11_gathers_59 : decode cX11_gathers 59 = .ok (.invokevirtual 154, 3) := by decide +kernel
theorem dX11_gathers_62 : decode cX11_gathers 62 = .ok (.iastore, 1) := by decide +kernel
theorem dX11_gathers_63 : decode cX11_gathers 63 = .ok (.aload_n 0, 1) := by decide +kernel
theorem dX11_gathers_64 : decode cX11_gathers 64 = .ok (.getfield 95, 3) := by decide +kernel
theorem dX11_gathers_67 : decode cX11_gathers 67 = .ok (.aload_n 0, 1) := by decide +kernel
theorem dX11_gathers_68 : decode cX11_gathers 68 = .ok (.getfield 160, 3) := by decide +kernel
theorem dX11_gathers_71 : decode cX11_gathers 71 = .ok (.aload_n 0, 1) := by decide +kernel
theorem dX11_gathers_72 : decode cX11_gathers 72 = .ok (.iload_n 3, 1) := by decide +kernel
theorem dX11_gathers_73 : decode cX11_gathers 73 = .ok (.invokevirtual 157, 3) := by decide +kernel
theorem dX11_gathers_76 : decode cX11_gathers 76 = .ok (.iastore, 1) := by decide +kernel
theorem dX11_gathers_77 : decode cX11_gathers 77 = .ok (.aload_n 0, 1) := by decide +kernel
theorem dX11_gathers_78 : decode cX11_gathers 78 = .ok (.dup, 1) := by decide +kernel
theorem dX11_gathers_79 : decode cX11_gathers 79 = .ok (.getfield 160, 3) := by decide +kernel
theorem dX11_gathers_82 : decode cX11_gathers 82 = .ok (.iconst 1, 1) := by decide +kernel
theorem dX11_gathers_83 : decode cX11_gathers 83 = .ok (.iadd, 1) := by decide +kernel
theorem dX11_gathers_84 : decode cX11_gathers 84 = .ok (.putfield 160, 3) := by decide +kernel
theorem dX11_gathers_87 : decode cX11_gathers 87 = .ok (.iinc 3 1, 3) := by decide +kernel
theorem dX11_gathers_90 : decode cX11_gathers 90 = .ok (.goto (-83), 3) := by decide +kernel
theorem dX11_gathers_93 : decode cX11_gathers 93 = .ok (.return_, 1) := by decide +kernel
set_option maxRecDepth 20000 in
theorem ggX11_gathersOf_X11_gathers : GoodIn wsX11_gathersOf wsX11_gathers := goodIn_r _ [6, 7, 8, 1, 9, 10, 11, 12, 13, 14, 15, 5, 16, 17, 18, 19, 20, 21, 22, 23, 24, 25, 26, 27, 28, 29, 30, 31, 32, 33, 34, 35, 36, 37, 38, 39, 40, 41, 42, 43, 44, 45, 46, 47, 48, 49, 50, 51, 52, 53, 54, 55, 56, 57, 58, 59, 60, 61, 62, 63, 64, 65, 66, 67, 68, 69, 70, 71, 72, 73, 74, 75, 76, 77, 78, 79, 80, 81, 82, 83, 84, 85, 86, 87] (by decide +kernel) (by decide +kernel)
set_option maxRecDepth 20000 in
theorem gX11_gathersOf_X11_gathers : GoodIn wsX11_gathersOf (wsV RX11 163 RX11 yX11_gathers wsX11_gathers) := goodIn_app (goodIn_of _ (by decide +kernel)) ggX11_gathersOf_X11_gathers
theorem dX11_gathersOf_0 : decode cX11_gathersOf 0 = .ok (.aload_n 0, 1) := by decide +kernel
theorem dX11_gathersOf_1 : decode cX11_gathersOf 1 = .ok (.aload_n 0, 1) := by decide +kernel
theorem dX11_gathersOf_2 : decode cX11_gathersOf 2 = .ok (.getfield 16, 3) := by decide +kernel
theorem dX11_gathersOf_5 : decode cX11_gathersOf 5 = .ok (.iload_n 1, 1) := by decide +kernel
theorem dX11_gathersOf_6 : decode cX11_gathersOf 6 = .ok (.iaload, 1) := by decide +kernel
theorem dX11_gathersOf_7 : decode cX11_gathersOf 7 = .ok (.iconst (-1), 1) := by decide +kernel
theorem dX11_gathersOf_8 : decode cX11_gathersOf 8 = .ok (.invokevirtual 163, 3) := by decide +kernel
theorem dX11_gathersOf_11 : decode cX11_gathersOf 11 = .ok (.return_, 1) := by decide +kernel
set_option maxRecDepth 20000 in
theorem ggX11_isAhead_X11_remainder : GoodIn wsX11_isAhead wsX11_remainder := goodIn_r _ [5] (by decide +kernel) (by decide +kernel)
set_option maxRecDepth 20000 in
theorem gX11_isAhead_X11_remainder : GoodIn wsX11_isAhead (va_wsS RX11 167 yX11_remainder wsX11_remainder) := goodIn_app (goodIn_of _ (by decide +kernel)) ggX11_isAhead_X11_remainder
theorem dX11_isAhead_0 : decode cX11_isAhead 0 = .ok (.aload_n 0, 1) := by decide +kernel
theorem dX11_isAhead_1 : decode cX11_isAhead 1 = .ok (.getfield 95, 3) := by decide +kernel
theorem dX11_isAhead_4 : decode cX11_isAhead 4 = .ok (.iload_n 1, 1) := by decide +kernel
theorem dX11_isAhead_5 : decode cX11_isAhead 5 = .ok (.iaload, 1) := by decide +kernel
theorem dX11_isAhead_6 : decode cX11_isAhead 6 = .ok (.iload_n 3, 1) := by decide +kernel
theorem dX11_isAhead_7 : decode cX11_isAhead 7 = .ok (.invokestatic 167, 3) := by decide +kernel
theorem dX11_isAhead_10 : decode cX11_isAhead 10 = .ok (.istore 4, 2) := by decide +kernel
theorem dX11_isAhead_12 : decode cX11_isAhead 12 = .ok (.aload_n 0, 1) := by decide +kernel
theorem dX11_isAhead_13 : decode cX11_isAhead 13 = .ok (.getfield 95, 3) := by decide +kernel
theorem dX11_isAhead_16 : decode cX11_isAhead 16 = .ok (.iload_n 2, 1) := by decide +kernel
theorem dX11_isAhead_17 : decode cX11_isAhead 17 = .ok (.iaload, 1) := by decide +kernel
theorem dX11_isAhead_18 : decode cX11_isAhead 18 = .ok (.iload_n 3, 1) := by decide +kernel
theorem dX11_isAhead_19 : decode cX11_isAhead 19 = .ok (.invokestatic 167, 3) := by decide +kernel
theorem dX11_isAhead_22 : decode cX11_isAhead 22 = .ok (.istore 5, 2) := by decide +kernel
theorem dX11_isAhead_24 : decode cX11_isAhead 24 = .ok (.iload 4, 2) := by decide +kernel
theorem dX11_isAhead_26 : decode cX11_isAhead 26 = .ok (.iload 5, 2) := by decide +kernel
theorem dX11_isAhead_28 : decode cX11_isAhead 28 = .ok (.if_icmp .lt 25, 3) := by decide +kernel
theorem dX11_isAhead_31 : decode cX11_isAhead 31 = .ok (.iload 4, 2) := by decide +kernel
theorem dX11_isAhead_33 : decode cX11_isAhead 33 = .ok (.iload 5, 2) := by decide +kernel
theorem dX11_isAhead_35 : decode cX11_isAhead 35 = .ok (.if_icmp .ne 22, 3) := by decide +kernel
theorem dX11_isAhead_38 : decode cX11_isAhead 38 = .ok (.aload_n 0, 1) := by decide +kernel
theorem dX11_isAhead_39 : decode cX11_isAhead 39 = .ok (.getfield 95, 3) := by decide +kernel
theorem dX11_isAhead_42 : decode cX11_isAhead 42 = .ok (.iload_n 1, 1) := by decide +kernel
theorem dX11_isAhead_43 : decode cX11_isAhead 43 = .ok (.iaload, 1) := by decide +kernel
theorem dX11_isAhead_44 : decode cX11_isAhead 44 = .ok (.aload_n 0, 1) := by decide +kernel
theorem dX11_isAhead_45 : decode cX11_isAhead 45 = .ok (.getfield 95, 3) := by decide +kernel
theorem dX11_isAhead_48 : decode cX11_isAhead 48 = .ok (.iload_n 2, 1) := by decide +kernel
theorem dX11_isAhead_49 : decode cX11_isAhead 49 = .ok (.iaload, 1) := by decide +kernel
theorem dX11_isAhead_50 : decode cX11_isAhead 50 = .ok (.if_icmp .ge 7, 3) := by decide +kernel
theorem dX11_isAhead_53 : decode cX11_isAhead 53 = .ok (.iconst 1, 1) := by decide +kernel
theorem dX11_isAhead_54 : decode cX11_isAhead 54 = .ok (.goto 4, 3) := by decide +kernel
theorem dX11_isAhead_57 : decode cX11_isAhead 57 = .ok (.iconst 0, 1) := by decide +kernel
theorem dX11_isAhead_58 : decode cX11_isAhead 58 = .ok (.ireturn, 1) := by decide +kernel
set_option maxRecDepth 20000 in
theorem ggX11_stringOf_X11_isAhead : GoodIn wsX11_stringOf wsX11_isAhead := goodIn_r _ [8, 9, 10, 11, 7, 12, 13, 14, 15, 16, 17, 18, 19, 20, 21, 22, 23, 24, 25, 26, 27, 28, 29, 30, 31, 32, 33, 34, 35, 36, 37, 38, 39, 40, 41, 42, 43, 44, 45, 46, 47, 48, 49, 50, 51, 52, 53, 54] (by decide +kernel) (by decide +kernel)
set_option maxRecDepth 20000 in
theorem gX11_stringOf_X11_isAhead : GoodIn wsX11_stringOf (wsV RX11 170 RX11 yX11_isAhead wsX11_isAhead) := goodIn_app (goodIn_of _ (by decide +kernel)) ggX11_stringOf_X11_isAhead
theorem dX11_stringOf_0 : decode cX11_stringOf 0 = .ok (.iconst 0, 1) := by decide +kernel
theorem dX11_stringOf_1 : decode cX11_stringOf 1 = .ok (.istore_n 2, 1) := by decide +kernel
theorem dX11_stringOf_2 : decode cX11_stringOf 2 = .ok (.iload_n 2, 1) := by decide +kernel
theorem dX11_stringOf_3 : decode cX11_stringOf 3 = .ok (.aload_n 0, 1) := by decide +kernel
theorem dX11_stringOf_4 : decode cX11_stringOf 4 = .ok (.getfield 160, 3) := by decide +kernel
theorem dX11_stringOf_7 : decode cX11_stringOf 7 = .ok (.if_icmp .ge 59, 3) := by decide +kernel
theorem dX11_stringOf_10 : decode cX11_stringOf 10 = .ok (.iload_n 2, 1) := by decide +kernel
theorem dX11_stringOf_11 : decode cX11_stringOf 11 = .ok (.istore_n 3, 1) := by decide +kernel
theorem dX11_stringOf_12 : decode cX11_stringOf 12 = .ok (.iload_n 3, 1) := by decide +kernel
theorem dX11_stringOf_13 : decode cX11_stringOf 13 = .ok (.ifCond .le 40, 3) := by decide +kernel
theorem dX11_stringOf_16 : decode cX11_stringOf 16 = .ok (.aload_n 0, 1) := by decide +kernel
theorem dX11_stringOf_17 : decode cX11_stringOf 17 = .ok (.iload_n 2, 1) := by decide +kernel
theorem dX11_stringOf_18 : decode cX11_stringOf 18 = .ok (.aload_n 0, 1) := by decide +kernel
theorem dX11_stringOf_19 : decode cX11_stringOf 19 = .ok (.getfield 98, 3) := by decide +kernel
theorem dX11_stringOf_22 : decode cX11_stringOf 22 = .ok (.iload_n 3, 1) := by decide +kernel
theorem dX11_stringOf_23 : decode cX11_stringOf 23 = .ok (.iconst 1, 1) := by decide +kernel
theorem dX11_stringOf_24 : decode cX11_stringOf 24 = .ok (.isub, 1) := by decide +kernel
theorem dX11_stringOf_25 : decode cX11_stringOf 25 = .ok (.iaload, 1) := by decide +kernel
theorem dX11_stringOf_26 : decode cX11_stringOf 26 = .ok (.iload_n 1, 1) := by decide +kernel
theorem dX11_stringOf_27 : decode cX11_stringOf 27 = .ok (.invokevirtual 170, 3) := by decide +kernel
theorem dX11_stringOf_30 : decode cX11_stringOf 30 = .ok (.ifCond .eq 23, 3) := by decide +kernel
theorem dX11_stringOf_33 : decode cX11_stringOf 33 = .ok (.aload_n 0, 1) := by decide +kernel
theorem dX11_stringOf_34 : decode cX11_stringOf 34 = .ok (.getfield 98, 3) := by decide +kernel
theorem dX11_stringOf_37 : decode cX11_stringOf 37 = .ok (.iload_n 3, 1) := by decide +kernel
theorem dX11_stringOf_38 : decode cX11_stringOf 38 = .ok (.aload_n 0, 1) := by decide +kernel
theorem dX11_stringOf_39 : decode cX11_stringOf 39 = .ok (.getfield 98, 3) := by decide +kernel
theorem dX11_stringOf_42 : decode cX11_stringOf 42 = .ok (.iload_n 3, 1) := by decide +kernel
theorem dX11_stringOf_43 : decode cX11_stringOf 43 = .ok (.iconst 1, 1) := by decide +kernel
theorem dX11_stringOf_44 : decode cX11_stringOf 44 = .ok (.isub, 1) := by decide +kernel
theorem dX11_stringOf_45 : decode cX11_stringOf 45 = .ok (.iaload, 1) := by decide +kernel
theorem dX11_stringOf_46 : decode cX11_stringOf 46 = .ok (.iastore, 1) := by decide +kernel
theorem dX11_stringOf_47 : decode cX11_stringOf 47 = .ok (.iinc 3 (-1), 3) := by decide +kernel
theorem dX11_stringOf_50 : decode cX11_stringOf 50 = .ok (.goto (-38), 3) := by decide +kernel
theorem dX11_stringOf_53 : decode cX11_stringOf 53 = .ok (.aload_n 0, 1) := by decide +kernel
theorem dX11_stringOf_54 : decode cX11_stringOf 54 = .ok (.getfield 98, 3) := by decide +kernel
theorem dX11_stringOf_57 : decode cX11_stringOf 57 = .ok (.iload_n 3, 1) := by decide +kernel
theorem dX11_stringOf_58 : decode cX11_stringOf 58 = .ok (.iload_n 2, 1) := by decide +kernel
theorem dX11_stringOf_59 : decode cX11_stringOf 59 = .ok (.iastore, 1) := by decide +kernel
theorem dX11_stringOf_60 : decode cX11_stringOf 60 = .ok (.iinc 2 1, 3) := by decide +kernel
theorem dX11_stringOf_63 : decode cX11_stringOf 63 = .ok (.goto (-61), 3) := by decide +kernel
theorem dX11_stringOf_66 : decode cX11_stringOf 66 = .ok (.iconst 0, 1) := by decide +kernel
theorem dX11_stringOf_67 : decode cX11_stringOf 67 = .ok (.istore_n 2, 1) := by decide +kernel
theorem dX11_stringOf_68 : decode cX11_stringOf 68 = .ok (.iconst 0, 1) := by decide +kernel
theorem dX11_stringOf_69 : decode cX11_stringOf 69 = .ok (.istore_n 3, 1) := by decide +kernel
theorem dX11_stringOf_70 : decode cX11_stringOf 70 = .ok (.iload_n 3, 1) := by decide +kernel
theorem dX11_stringOf_71 : decode cX11_stringOf 71 = .ok (.aload_n 0, 1) := by decide +kernel
theorem dX11_stringOf_72 : decode cX11_stringOf 72 = .ok (.getfield 160, 3) := by decide +kernel
theorem dX11_stringOf_75 : decode cX11_stringOf 75 = .ok (.if_icmp .ge 66, 3) := by decide +kernel
theorem dX11_stringOf_78 : decode cX11_stringOf 78 = .ok (.aload_n 0, 1) := by decide +kernel
theorem dX11_stringOf_79 : decode cX11_stringOf 79 = .ok (.getfield 92, 3) := by decide +kernel
theorem dX11_stringOf_82 : decode cX11_stringOf 82 = .ok (.aload_n 0, 1) := by decide +kernel
theorem dX11_stringOf_83 : decode cX11_stringOf 83 = .ok (.getfield 98, 3) := by decide +kernel
theorem dX11_stringOf_86 : decode cX11_stringOf 86 = .ok (.iload_n 3, 1) := by decide +kernel
theorem dX11_stringOf_87 : decode cX11_stringOf 87 = .ok (.iaload, 1) := by decide +kernel
theorem dX11_stringOf_88 : decode cX11_stringOf 88 = .ok (.iaload, 1) := by decide +kernel
theorem dX11_stringOf_89 : decode cX11_stringOf 89 = .ok (.aload_n 0, 1) := by decide +kernel
theorem dX11_stringOf_90 : decode cX11_stringOf 90 = .ok (.getfield 92, 3) := by decide +kernel
theorem dX11_stringOf_93 : decode cX11_stringOf 93 = .ok (.aload_n 0, 1) := by decide +kernel
theorem dX11_stringOf_94 : decode cX11_stringOf 94 = .ok (.getfield 98, 3) := by decide +kernel
theorem dX11_stringOf_97 : decode cX11_stringOf 97 = .ok (.iload_n 3, 1) := by decide +kernel
theorem dX11_stringOf_98 : decode cX11_stringOf 98 = .ok (.iconst 1, 1) := by decide +kernel
theorem dX11_stringOf_99 : decode cX11_stringOf 99 = .ok (.iadd, 1) := by decide +kernel
theorem dX11_stringOf_100 : decode cX11_stringOf 100 = .ok (.aload_n 0, 1) := by decide +kernel
theorem dX11_stringOf_101 : decode cX11_stringOf 101 = .ok (.getfield 160, 3) := by decide +kernel
theorem dX11_stringOf_104 : decode cX11_stringOf 104 = .ok (.if_icmp .ne 7, 3) := by decide +kernel
theorem dX11_stringOf_107 : decode cX11_stringOf 107 = .ok (.iconst 0, 1) := by decide +kernel
theorem dX11_stringOf_108 : decode cX11_stringOf 108 = .ok (.goto 6, 3) := by decide +kernel
theorem dX11_stringOf_111 : decode cX11_stringOf 111 = .ok (.iload_n 3, 1) := by decide +kernel
theorem dX11_stringOf_112 : decode cX11_stringOf 112 = .ok (.iconst 1, 1) := by decide +kernel
theorem dX11_stringOf_113 : decode cX11_stringOf 113 = .ok (.iadd, 1) := by decide +kernel
theorem dX11_stringOf_114 : decode cX11_stringOf 114 = .ok (.iaload, 1) := by decide +kernel
theorem dX11_stringOf_115 : decode cX11_stringOf 115 = .ok (.iaload, 1) := by decide +kernel
theorem dX11_stringOf_116 : decode cX11_stringOf 116 = .ok (.isub, 1) := by decide +kernel
theorem dX11_stringOf_117 : decode cX11_stringOf 117 = .ok (.istore 4, 2) := by decide +kernel
theorem dX11_stringOf_119 : decode cX11_stringOf 119 = .ok (.iload_n 2, 1) := by decide +kernel
theorem dX11_stringOf_120 : decode cX11_stringOf 120 = .ok (.iload 4, 2) := by decide +kernel
theorem dX11_stringOf_122 : decode cX11_stringOf 122 = .ok (.ifCond .ge 9, 3) := by decide +kernel
theorem dX11_stringOf_125 : decode cX11_stringOf 125 = .ok (.iload 4, 2) := by decide +kernel
theorem dX11_stringOf_127 : decode cX11_stringOf 127 = .ok (.ineg, 1) := by decide +kernel
theorem dX11_stringOf_128 : decode cX11_stringOf 128 = .ok (.goto 5, 3) := by decide +kernel
theorem dX11_stringOf_131 : decode cX11_stringOf 131 = .ok (.iload 4, 2) := by decide +kernel
theorem dX11_stringOf_133 : decode cX11_stringOf 133 = .ok (.iadd, 1) := by decide +kernel
theorem dX11_stringOf_134 : decode cX11_stringOf 134 = .ok (.istore_n 2, 1) := by decide +kernel
theorem dX11_stringOf_135 : decode cX11_stringOf 135 = .ok (.iinc 3 1, 3) := by decide +kernel
theorem dX11_stringOf_138 : decode cX11_stringOf 138 = .ok (.goto (-68), 3) := by decide +kernel
theorem dX11_stringOf_141 : decode cX11_stringOf 141 = .ok (.iload_n 2, 1) := by decide +kernel
theorem dX11_stringOf_142 : decode cX11_stringOf 142 = .ok (.ireturn, 1) := by decide +kernel
set_option maxRecDepth 20000 in
theorem ggX11_string_X11_isStar : GoodIn wsX11_string wsX11_isStar := goodIn_r _ [6, 7, 8, 9, 5, 10, 75, 76, 77, 78, 79, 80, 81, 82, 83, 84, 85, 86, 87, 88, 89, 90, 91, 92, 93, 94, 95, 96, 97, 98, 99, 100, 101, 102, 103, 104, 105, 106, 107, 108, 109, 110, 111, 112, 113, 114, 115, 116] (by decide +kernel) (by decide +kernel)
set_option maxRecDepth 20000 in
theorem gX11_string_X11_isStar : GoodIn wsX11_string (wsV RX11 129 RX11 yX11_isStar wsX11_isStar) := goodIn_app (goodIn_of _ (by decide +kernel)) ggX11_string_X11_isStar
set_option maxRecDepth 20000 in
theorem ggX11_string_X11_isPeriod : GoodIn wsX11_string wsX11_isPeriod := goodIn_r _ [13, 14, 8, 9, 5, 10] (by decide +kernel) (by decide +kernel)
set_option maxRecDepth 20000 in
theorem gX11_string_X11_isPeriod : GoodIn wsX11_string (va_wsS RX11 173 yX11_isPeriod wsX11_isPeriod) := goodIn_app (goodIn_of _ (by decide +kernel)) ggX11_string_X11_isPeriod
set_option maxRecDepth 20000 in
theorem ggX11_string_X11_gathersOf : GoodIn wsX11_string wsX11_gathersOf := goodIn_r _ [18, 19, 20, 21, 22, 5, 23, 24, 25, 26, 27, 28, 29, 30, 31, 32, 33, 34, 35, 36, 37, 38, 39, 40, 41, 42, 43, 44, 45, 46, 47, 48, 49, 50, 51, 52, 53, 54, 55, 56, 57, 58, 59, 60, 61, 62, 75, 76, 77, 78, 79, 80, 81, 82, 83, 84, 85, 86, 87, 88, 89, 90, 91, 92, 93, 94, 95, 96, 97, 98, 99, 100, 101, 102, 103, 104, 105, 106, 107, 108, 109, 110, 111, 112, 113, 114, 115, 116] (by decide +kernel) (by decide +kernel)
set_option maxRecDepth 20000 in
theorem gX11_string_X11_gathersOf : GoodIn wsX11_string (wsV RX11 176 RX11 yX11_gathersOf wsX11_gathersOf) := goodIn_app (goodIn_of _ (by decide +kernel)) ggX11_string_X11_gathersOf
set_option maxRecDepth 20000 in
theorem ggX11_string_X11_stringOf : GoodIn wsX11_string wsX11_stringOf := goodIn_r _ [66, 24, 67, 28, 68, 69, 70, 5, 71, 29, 72, 73, 74, 75, 76, 77, 78, 79, 80, 81, 82, 83, 84, 85, 86, 87, 88, 89, 90, 91, 92, 93, 94, 95, 96, 97, 98, 99, 100, 101, 102, 103, 104, 105, 106, 107, 108, 109, 110, 111, 112, 113, 114, 115, 116] (by decide +kernel) (by decide +kernel)
set_option maxRecDepth 20000 in
theorem gX11_string_X11_stringOf : GoodIn wsX11_string (wsV RX11 180 RX11 yX11_stringOf wsX11_stringOf) := goodIn_app (goodIn_of _ (by decide +kernel)) ggX11_string_X11_stringOf
theorem dX11_string_0 : decode cX11_string 0 = .ok (.aload_n 0, 1) := by decide +kernel
theorem dX11_string_1 : decode cX11_string 1 = .ok (.aload_n 0, 1) := by decide +kernel
theorem dX11_string_2 : decode cX11_string 2 = .ok (.iload_n 1, 1) := by decide +kernel
theorem dX11_string_3 : decode cX11_string 3 = .ok (.invokevirtual 129, 3) := by decide +kernel
theorem dX11_string_6 : decode cX11_string 6 = .ok (.ifCond .ne 7, 3) := by decide +kernel
theorem dX11_string_9 : decode cX11_string 9 = .ok (.iconst 1, 1) := by decide +kernel
theorem dX11_string_10 : decode cX11_string 10 = .ok (.goto 15, 3) := by decide +kernel
theorem dX11_string_13 : decode cX11_string 13 = .ok (.iload_n 2, 1) := by decide +kernel
theorem dX11_string_14 : decode cX11_string 14 = .ok (.invokestatic 173, 3) := by decide +kernel
theorem dX11_string_17 : decode cX11_string 17 = .ok (.ifCond .ne 7, 3) := by decide +kernel
theorem dX11_string_20 : decode cX11_string 20 = .ok (.iconst 2, 1) := by decide +kernel
theorem dX11_string_21 : decode cX11_string 21 = .ok (.goto 4, 3) := by decide +kernel
theorem dX11_string_24 : decode cX11_string 24 = .ok (.iconst 0, 1) := by decide +kernel
theorem dX11_string_25 : decode cX11_string 25 = .ok (.putfield 110, 3) := by decide +kernel
theorem dX11_string_28 : decode cX11_string 28 = .ok (.aload_n 0, 1) := by decide +kernel
theorem dX11_string_29 : decode cX11_string 29 = .ok (.getfield 110, 3) := by decide +kernel
theorem dX11_string_32 : decode cX11_string 32 = .ok (.ifCond .le 5, 3) := by decide +kernel
theorem dX11_string_35 : decode cX11_string 35 = .ok (.iconst 0, 1) := by decide +kernel
theorem dX11_string_36 : decode cX11_string 36 = .ok (.ireturn, 1) := by decide +kernel
theorem dX11_string_37 : decode cX11_string 37 = .ok (.aload_n 0, 1) := by decide +kernel
theorem dX11_string_38 : decode cX11_string 38 = .ok (.iload_n 1, 1) := by decide +kernel
theorem dX11_string_39 : decode cX11_string 39 = .ok (.invokevirtual 176, 3) := by decide +kernel
theorem dX11_string_42 : decode cX11_string 42 = .ok (.aload_n 0, 1) := by decide +kernel
theorem dX11_string_43 : decode cX11_string 43 = .ok (.iload_n 2, 1) := by decide +kernel
theorem dX11_string_44 : decode cX11_string 44 = .ok (.invokevirtual 180, 3) := by decide +kernel
theorem dX11_string_47 : decode cX11_string 47 = .ok (.ireturn, 1) := by decide +kernel
set_option maxRecDepth 20000 in
theorem ggX11_together_X11_isStar : GoodIn wsX11_together wsX11_isStar := goodIn_r _ [7, 8, 9, 10, 6, 11, 71, 72, 73, 74, 75, 76, 77, 78, 79, 80, 81, 82, 83, 84, 85, 86, 87, 88, 89, 90, 91, 92, 93, 94, 95, 96, 97, 98, 99, 100, 101, 102, 103, 104, 105, 106, 107, 108, 109, 110, 111, 112] (by decide +kernel) (by decide +kernel)
set_option maxRecDepth 20000 in
theorem gX11_together_X11_isStar : GoodIn wsX11_together (wsV RX11 129 RX11 yX11_isStar wsX11_isStar) := goodIn_app (goodIn_of _ (by decide +kernel)) ggX11_together_X11_isStar
set_option maxRecDepth 20000 in
theorem ggX11_together_X11_isPeriod : GoodIn wsX11_together wsX11_isPeriod := goodIn_r _ [14, 15, 9, 10, 6, 11] (by decide +kernel) (by decide +kernel)
set_option maxRecDepth 20000 in
theorem gX11_together_X11_isPeriod : GoodIn wsX11_together (va_wsS RX11 173 yX11_isPeriod wsX11_isPeriod) := goodIn_app (goodIn_of _ (by decide +kernel)) ggX11_together_X11_isPeriod
set_option maxRecDepth 20000 in
theorem ggX11_together_X11_gathers : GoodIn wsX11_together wsX11_gathers := goodIn_r _ [19, 20, 21, 2, 22, 23, 24, 25, 26, 27, 28, 6, 29, 30, 31, 32, 33, 34, 35, 36, 37, 38, 39, 40, 41, 42, 43, 44, 45, 46, 47, 48, 49, 50, 51, 52, 53, 54, 55, 56, 57, 58, 71, 72, 73, 74, 75, 76, 77, 78, 79, 80, 81, 82, 83, 84, 85, 86, 87, 88, 89, 90, 91, 92, 93, 94, 95, 96, 97, 98, 99, 100, 101, 102, 103, 104, 105, 106, 107, 108, 109, 110, 111, 112] (by decide +kernel) (by decide +kernel)
set_option maxRecDepth 20000 in
theorem gX11_together_X11_gathers : GoodIn wsX11_together (wsV RX11 163 RX11 yX11_gathers wsX11_gathers) := goodIn_app (goodIn_of _ (by decide +kernel)) ggX11_together_X11_gathers
set_option maxRecDepth 20000 in
theorem ggX11_together_X11_stringOf : GoodIn wsX11_together wsX11_stringOf := goodIn_r _ [62, 20, 63, 24, 64, 65, 66, 6, 67, 25, 68, 69, 70, 71, 72, 73, 74, 75, 76, 77, 78, 79, 80, 81, 82, 83, 84, 85, 86, 87, 88, 89, 90, 91, 92, 93, 94, 95, 96, 97, 98, 99, 100, 101, 102, 103, 104, 105, 106, 107, 108, 109, 110, 111, 112] (by decide +kernel) (by decide +kernel)
set_option maxRecDepth 20000 in
theorem gX11_together_X11_stringOf : GoodIn wsX11_together (wsV RX11 180 RX11 yX11_stringOf wsX11_stringOf) := goodIn_app (goodIn_of _ (by decide +kernel)) ggX11_together_X11_stringOf
theorem dX11_together_0 : decode cX11_together 0 = .ok (.aload_n 0, 1) := by decide +kernel
theorem dX11_together_1 : decode cX11_together 1 = .ok (.aload_n 0, 1) := by decide +kernel
theorem dX11_together_2 : decode cX11_together 2 = .ok (.iload_n 1, 1) := by decide +kernel
theorem dX11_together_3 : decode cX11_together 3 = .ok (.invokevirtual 129, 3) := by decide +kernel
theorem dX11_together_6 : decode cX11_together 6 = .ok (.ifCond .eq 11, 3) := by decide +kernel
theorem dX11_together_9 : decode cX11_together 9 = .ok (.aload_n 0, 1) := by decide +kernel
theorem dX11_together_10 : decode cX11_together 10 = .ok (.iload_n 2, 1) := by decide +kernel
theorem dX11_together_11 : decode cX11_together 11 = .ok (.invokevirtual 129, 3) := by decide +kernel
theorem dX11_together_14 : decode cX11_together 14 = .ok (.ifCond .ne 7, 3) := by decide +kernel
theorem dX11_together_17 : decode cX11_together 17 = .ok (.iconst 1, 1) := by decide +kernel
theorem dX11_together_18 : decode cX11_together 18 = .ok (.goto 15, 3) := by decide +kernel
theorem dX11_together_21 : decode cX11_together 21 = .ok (.iload_n 3, 1) := by decide +kernel
theorem dX11_together_22 : decode cX11_together 22 = .ok (.invokestatic 173, 3) := by decide +kernel
theorem dX11_together_25 : decode cX11_together 25 = .ok (.ifCond .ne 7, 3) := by decide +kernel
theorem dX11_together_28 : decode cX11_together 28 = .ok (.iconst 2, 1) := by decide +kernel
theorem dX11_together_29 : decode cX11_together 29 = .ok (.goto 4, 3) := by decide +kernel
theorem dX11_together_32 : decode cX11_together 32 = .ok (.iconst 0, 1) := by decide +kernel
theorem dX11_together_33 : decode cX11_together 33 = .ok (.putfield 110, 3) := by decide +kernel
theorem dX11_together_36 : decode cX11_together 36 = .ok (.aload_n 0, 1) := by decide +kernel
theorem dX11_together_37 : decode cX11_together 37 = .ok (.getfield 110, 3) := by decide +kernel
theorem dX11_together_40 : decode cX11_together 40 = .ok (.ifCond .le 5, 3) := by decide +kernel
theorem dX11_together_43 : decode cX11_together 43 = .ok (.iconst 0, 1) := by decide +kernel
theorem dX11_together_44 : decode cX11_together 44 = .ok (.ireturn, 1) := by decide +kernel
theorem dX11_together_45 : decode cX11_together 45 = .ok (.aload_n 0, 1) := by decide +kernel
theorem dX11_together_46 : decode cX11_together 46 = .ok (.aload_n 0, 1) := by decide +kernel
theorem dX11_together_47 : decode cX11_together 47 = .ok (.getfield 16, 3) := by decide +kernel
theorem dX11_together_50 : decode cX11_together 50 = .ok (.iload_n 1, 1) := by decide +kernel
theorem dX11_together_51 : decode cX11_together 51 = .ok (.iaload, 1) := by decide +kernel
theorem dX11_together_52 : decode cX11_together 52 = .ok (.aload_n 0, 1) := by decide +kernel
theorem dX11_together_53 : decode cX11_together 53 = .ok (.getfield 16, 3) := by decide +kernel
theorem dX11_together_56 : decode cX11_together 56 = .ok (.iload_n 2, 1) := by decide +kernel
theorem dX11_together_57 : decode cX11_together 57 = .ok (.iaload, 1) := by decide +kernel
theorem dX11_together_58 : decode cX11_together 58 = .ok (.invokevirtual 163, 3) := by decide +kernel
theorem dX11_together_61 : decode cX11_together 61 = .ok (.aload_n 0, 1) := by decide +kernel
theorem dX11_together_62 : decode cX11_together 62 = .ok (.iload_n 3, 1) := by decide +kernel
theorem dX11_together_63 : decode cX11_together 63 = .ok (.invokevirtual 180, 3) := by decide +kernel
theorem dX11_together_66 : decode cX11_together 66 = .ok (.ireturn, 1) := by decide +kernel
set_option maxRecDepth 20000 in
theorem ggX11_areTrials_X11_isStar : GoodIn wsX11_areTrials wsX11_isStar := goodIn_r _ [7, 8, 9, 10, 6, 11, 62, 63, 64, 65, 66, 67, 68, 69, 70, 71, 72, 73, 74, 75, 76, 77, 78, 79, 80, 81, 82, 83, 84, 85, 86, 87, 88, 89, 90, 91, 92, 93, 94, 95, 96, 97, 98, 99, 100, 101, 102, 103] (by decide +kernel) (by decide +kernel)
set_option maxRecDepth 20000 in
theorem gX11_areTrials_X11_isStar : GoodIn wsX11_areTrials (wsV RX11 129 RX11 yX11_isStar wsX11_isStar) := goodIn_app (goodIn_of _ (by decide +kernel)) ggX11_areTrials_X11_isStar
set_option maxRecDepth 20000 in
theorem ggX11_areTrials_X11_isPeriod : GoodIn wsX11_areTrials wsX11_isPeriod := goodIn_r _ [14, 1, 9, 10, 6, 11] (by decide +kernel) (by decide +kernel)
set_option maxRecDepth 20000 in
theorem gX11_areTrials_X11_isPeriod : GoodIn wsX11_areTrials (va_wsS RX11 173 yX11_isPeriod wsX11_isPeriod) := goodIn_app (goodIn_of _ (by decide +kernel)) ggX11_areTrials_X11_isPeriod
set_option maxRecDepth 20000 in
theorem ggX11_areTrials_X11_in : GoodIn wsX11_areTrials wsX11_in := goodIn_r _ [11] (by decide +kernel) (by decide +kernel)
set_option maxRecDepth 20000 in
theorem gX11_areTrials_X11_in : GoodIn wsX11_areTrials (va_wsS RX11 117 yX11_in wsX11_in) := goodIn_app (goodIn_of _ (by decide +kernel)) ggX11_areTrials_X11_in
set_option maxRecDepth 20000 in
theorem ggX11_areTrials_X11_gathersOf : GoodIn wsX11_areTrials wsX11_gathersOf := goodIn_r _ [18, 19, 20, 21, 22, 6, 23, 2, 24, 25, 26, 27, 28, 29, 30, 31, 32, 33, 34, 35, 36, 37, 38, 39, 40, 41, 42, 43, 44, 45, 46, 47, 48, 49, 50, 51, 52, 53, 54, 55, 56, 57, 58, 59, 60, 61, 62, 63, 64, 65, 66, 67, 68, 69, 70, 71, 72, 73, 74, 75, 76, 77, 78, 79, 80, 81, 82, 83, 84, 85, 86, 87, 88, 89, 90, 91, 92, 93, 94, 95, 96, 97, 98, 99, 100, 101, 102, 103] (by decide +kernel) (by decide +kernel)
set_option maxRecDepth 20000 in
theorem gX11_areTrials_X11_gathersOf : GoodIn wsX11_areTrials (wsV RX11 176 RX11 yX11_gathersOf wsX11_gathersOf) := goodIn_app (goodIn_of _ (by decide +kernel)) ggX11_areTrials_X11_gathersOf
theorem dX11_areTrials_0 : decode cX11_areTrials 0 = .ok (.aload_n 0, 1) := by decide +kernel
theorem dX11_areTrials_1 : decode cX11_areTrials 1 = .ok (.iload_n 1, 1) := by decide +kernel
theorem dX11_areTrials_2 : decode cX11_areTrials 2 = .ok (.invokevirtual 129, 3) := by decide +kernel
theorem dX11_areTrials_5 : decode cX11_areTrials 5 = .ok (.ifCond .ne 5, 3) := by decide +kernel
theorem dX11_areTrials_8 : decode cX11_areTrials 8 = .ok (.iconst 1, 1) := by decide +kernel
theorem dX11_areTrials_9 : decode cX11_areTrials 9 = .ok (.ireturn, 1) := by decide +kernel
theorem dX11_areTrials_10 : decode cX11_areTrials 10 = .ok (.iload 5, 2) := by decide +kernel
theorem dX11_areTrials_12 : decode cX11_areTrials 12 = .ok (.ifCond .eq 35, 3) := by decide +kernel
theorem dX11_areTrials_15 : decode cX11_areTrials 15 = .ok (.iload_n 2, 1) := by decide +kernel
theorem dX11_areTrials_16 : decode cX11_areTrials 16 = .ok (.invokestatic 173, 3) := by decide +kernel
theorem dX11_areTrials_19 : decode cX11_areTrials 19 = .ok (.ifCond .eq 28, 3) := by decide +kernel
theorem dX11_areTrials_22 : decode cX11_areTrials 22 = .ok (.iload_n 3, 1) := by decide +kernel
theorem dX11_areTrials_23 : decode cX11_areTrials 23 = .ok (.iload_n 2, 1) := by decide +kernel
theorem dX11_areTrials_24 : decode cX11_areTrials 24 = .ok (.ldc 121, 2) := by decide +kernel
theorem dX11_areTrials_26 : decode cX11_areTrials 26 = .ok (.invokestatic 117, 3) := by decide +kernel
theorem dX11_areTrials_29 : decode cX11_areTrials 29 = .ok (.ifCond .eq 18, 3) := by decide +kernel
theorem dX11_areTrials_32 : decode cX11_areTrials 32 = .ok (.iload 4, 2) := by decide +kernel
theorem dX11_areTrials_34 : decode cX11_areTrials 34 = .ok (.iconst 1, 1) := by decide +kernel
theorem dX11_areTrials_35 : decode cX11_areTrials 35 = .ok (.ldc 121, 2) := by decide +kernel
theorem dX11_areTrials_37 : decode cX11_areTrials 37 = .ok (.invokestatic 117, 3) := by decide +kernel
theorem dX11_areTrials_40 : decode cX11_areTrials 40 = .ok (.ifCond .eq 7, 3) := by decide +kernel
theorem dX11_areTrials_43 : decode cX11_areTrials 43 = .ok (.iconst 1, 1) := by decide +kernel
theorem dX11_areTrials_44 : decode cX11_areTrials 44 = .ok (.goto 4, 3) := by decide +kernel
theorem dX11_areTrials_47 : decode cX11_areTrials 47 = .ok (.iconst 0, 1) := by decide +kernel
theorem dX11_areTrials_48 : decode cX11_areTrials 48 = .ok (.istore 6, 2) := by decide +kernel
theorem dX11_areTrials_50 : decode cX11_areTrials 50 = .ok (.iload 6, 2) := by decide +kernel
theorem dX11_areTrials_52 : decode cX11_areTrials 52 = .ok (.ifCond .eq 17, 3) := by decide +kernel
theorem dX11_areTrials_55 : decode cX11_areTrials 55 = .ok (.iload_n 3, 1) := by decide +kernel
theorem dX11_areTrials_56 : decode cX11_areTrials 56 = .ok (.iload_n 2, 1) := by decide +kernel
theorem dX11_areTrials_57 : decode cX11_areTrials 57 = .ok (.isub, 1) := by decide +kernel
theorem dX11_areTrials_58 : decode cX11_areTrials 58 = .ok (.iload 4, 2) := by decide +kernel
theorem dX11_areTrials_60 : decode cX11_areTrials 60 = .ok (.idiv, 1) := by decide +kernel
theorem dX11_areTrials_61 : decode cX11_areTrials 61 = .ok (.iconst 1, 1) := by decide +kernel
theorem dX11_areTrials_62 : decode cX11_areTrials 62 = .ok (.iadd, 1) := by decide +kernel
theorem dX11_areTrials_63 : decode cX11_areTrials 63 = .ok (.sipush 200, 3) := by decide +kernel
theorem dX11_areTrials_66 : decode cX11_areTrials 66 = .ok (.if_icmp .le 5, 3) := by decide +kernel
theorem dX11_areTrials_69 : decode cX11_areTrials 69 = .ok (.iconst 2, 1) := by decide +kernel
theorem dX11_areTrials_70 : decode cX11_areTrials 70 = .ok (.ireturn, 1) := by decide +kernel
theorem dX11_areTrials_71 : decode cX11_areTrials 71 = .ok (.aload_n 0, 1) := by decide +kernel
theorem dX11_areTrials_72 : decode cX11_areTrials 72 = .ok (.iload_n 1, 1) := by decide +kernel
theorem dX11_areTrials_73 : decode cX11_areTrials 73 = .ok (.invokevirtual 176, 3) := by decide +kernel
theorem dX11_areTrials_76 : decode cX11_areTrials 76 = .ok (.aload_n 0, 1) := by decide +kernel
theorem dX11_areTrials_77 : decode cX11_areTrials 77 = .ok (.getfield 160, 3) := by decide +kernel
theorem dX11_areTrials_80 : decode cX11_areTrials 80 = .ok (.iconst 3, 1) := by decide +kernel
theorem dX11_areTrials_81 : decode cX11_areTrials 81 = .ok (.if_icmp .ge 7, 3) := by decide +kernel
theorem dX11_areTrials_84 : decode cX11_areTrials 84 = .ok (.iconst 3, 1) := by decide +kernel
theorem dX11_areTrials_85 : decode cX11_areTrials 85 = .ok (.goto 4, 3) := by decide +kernel
theorem dX11_areTrials_88 : decode cX11_areTrials 88 = .ok (.iconst 0, 1) := by decide +kernel
theorem dX11_areTrials_89 : decode cX11_areTrials 89 = .ok (.ireturn, 1) := by decide +kernel
set_option maxRecDepth 20000 in
theorem ggX11_best_X11_stringOf : GoodIn wsX11_best wsX11_stringOf := goodIn_r _ [5, 6, 7, 8, 9, 10, 11, 4, 12, 13, 14, 15, 16, 17, 18, 19, 20, 21, 22, 23, 24, 25, 26, 27, 28, 29, 30, 31, 32, 33, 34, 35, 36, 37, 38, 39, 40, 41, 42, 43, 44, 45, 46, 47, 48, 49, 50, 51, 52, 53, 54, 55, 56, 57, 58] (by decide +kernel) (by decide +kernel)
set_option maxRecDepth 20000 in
theorem gX11_best_X11_stringOf : GoodIn wsX11_best (wsV RX11 180 RX11 yX11_stringOf wsX11_stringOf) := goodIn_app (goodIn_of _ (by decide +kernel)) ggX11_best_X11_stringOf
theorem dX11_best_0 : decode cX11_best 0 = .ok (.iload_n 1, 1) := by decide +kernel
theorem dX11_best_1 : decode cX11_best 1 = .ok (.istore 4, 2) := by decide +kernel
theorem dX11_best_3 : decode cX11_best 3 = .ok (.aload_n 0, 1) := by decide +kernel
theorem dX11_best_4 : decode cX11_best 4 = .ok (.iload_n 1, 1) := by decide +kernel
theorem dX11_best_5 : decode cX11_best 5 = .ok (.invokevirtual 180, 3) := by decide +kernel
theorem dX11_best_8 : decode cX11_best 8 = .ok (.istore 5, 2) := by decide +kernel
theorem dX11_best_10 : decode cX11_best 10 = .ok (.iload_n 1, 1) := by decide +kernel
theorem dX11_best_11 : decode cX11_best 11 = .ok (.istore 6, 2) := by decide +kernel
theorem dX11_best_13 : decode cX11_best 13 = .ok (.iload 6, 2) := by decide +kernel
theorem dX11_best_15 : decode cX11_best 15 = .ok (.iload_n 2, 1) := by decide +kernel
theorem dX11_best_16 : decode cX11_best 16 = .ok (.if_icmp .gt 52, 3) := by decide +kernel
theorem dX11_best_19 : decode cX11_best 19 = .ok (.aload_n 0, 1) := by decide +kernel
theorem dX11_best_20 : decode cX11_best 20 = .ok (.iload 6, 2) := by decide +kernel
theorem dX11_best_22 : decode cX11_best 22 = .ok (.invokevirtual 180, 3) := by decide +kernel
theorem dX11_best_25 : decode cX11_best 25 = .ok (.istore 7, 2) := by decide +kernel
theorem dX11_best_27 : decode cX11_best 27 = .ok (.iload 7, 2) := by decide +kernel
theorem dX11_best_29 : decode cX11_best 29 = .ok (.iload 5, 2) := by decide +kernel
theorem dX11_best_31 : decode cX11_best 31 = .ok (.if_icmp .ge 8, 3) := by decide +kernel
theorem dX11_best_34 : decode cX11_best 34 = .ok (.iload 6, 2) := by decide +kernel
theorem dX11_best_36 : decode cX11_best 36 = .ok (.goto 5, 3) := by decide +kernel
theorem dX11_best_39 : decode cX11_best 39 = .ok (.iload 4, 2) := by decide +kernel
theorem dX11_best_41 : decode cX11_best 41 = .ok (.istore 4, 2) := by decide +kernel
theorem dX11_best_43 : decode cX11_best 43 = .ok (.iload 7, 2) := by decide +kernel
theorem dX11_best_45 : decode cX11_best 45 = .ok (.iload 5, 2) := by decide +kernel
theorem dX11_best_47 : decode cX11_best 47 = .ok (.if_icmp .ge 8, 3) := by decide +kernel
theorem dX11_best_50 : decode cX11_best 50 = .ok (.iload 7, 2) := by decide +kernel
theorem dX11_best_52 : decode cX11_best 52 = .ok (.goto 5, 3) := by decide +kernel
theorem dX11_best_55 : decode cX11_best 55 = .ok (.iload 5, 2) := by decide +kernel
theorem dX11_best_57 : decode cX11_best 57 = .ok (.istore 5, 2) := by decide +kernel
theorem dX11_best_59 : decode cX11_best 59 = .ok (.iload 6, 2) := by decide +kernel
theorem dX11_best_61 : decode cX11_best 61 = .ok (.iload_n 3, 1) := by decide +kernel
theorem dX11_best_62 : decode cX11_best 62 = .ok (.iadd, 1) := by decide +kernel
theorem dX11_best_63 : decode cX11_best 63 = .ok (.istore 6, 2) := by decide +kernel
theorem dX11_best_65 : decode cX11_best 65 = .ok (.goto (-52), 3) := by decide +kernel
theorem dX11_best_68 : decode cX11_best 68 = .ok (.iload 4, 2) := by decide +kernel
theorem dX11_best_70 : decode cX11_best 70 = .ok (.ireturn, 1) := by decide +kernel
set_option maxRecDepth 20000 in
theorem ggX11_period_X11_areTrials : GoodIn wsX11_period wsX11_areTrials := goodIn_r _ [6, 7, 8, 9, 10, 11, 5, 12, 13, 14, 15, 16, 17, 18, 19, 20, 21, 22, 23, 24, 25, 26, 27, 28, 29, 30, 31, 32, 33, 34, 35, 36, 37, 38, 39, 40, 41, 42, 43, 44, 45, 46, 47, 48, 49, 50, 51, 52, 53, 54, 55, 56, 57, 58, 59, 60, 61, 62, 63, 64, 65, 66, 83, 84, 85, 86, 87, 88, 89, 90, 91, 92, 93, 94, 95, 96, 97, 98, 99, 100, 101, 102, 103, 104, 105, 106, 107, 108, 109, 110, 111, 112, 113, 114, 115, 116, 117, 118, 119, 120, 121, 122, 123, 124] (by decide +kernel) (by decide +kernel)
set_option maxRecDepth 20000 in
theorem gX11_period_X11_areTrials : GoodIn wsX11_period (wsV RX11 183 RX11 yX11_areTrials wsX11_areTrials) := goodIn_app (goodIn_of _ (by decide +kernel)) ggX11_period_X11_areTrials
set_option maxRecDepth 20000 in
theorem ggX11_period_X11_best : GoodIn wsX11_period wsX11_best := goodIn_r _ [70, 71, 72, 73, 5, 74, 8, 75, 32, 76, 77, 78, 79, 33, 80, 81, 82, 83, 84, 85, 86, 87, 88, 89, 90, 91, 92, 93, 94, 95, 96, 97, 98, 99, 100, 101, 102, 103, 104, 105, 106, 107, 108, 109, 110, 111, 112, 113, 114, 115, 116, 117, 118, 119, 120, 121, 122, 123, 124] (by decide +kernel) (by decide +kernel)
set_option maxRecDepth 20000 in
theorem gX11_period_X11_best : GoodIn wsX11_period (wsV RX11 187 RX11 yX11_best wsX11_best) := goodIn_app (goodIn_of _ (by decide +kernel)) ggX11_period_X11_best
theorem dX11_period_0 : decode cX11_period 0 = .ok (.aload_n 0, 1) := by decide +kernel
theorem dX11_period_1 : decode cX11_period 1 = .ok (.aload_n 0, 1) := by decide +kernel
theorem dX11_period_2 : decode cX11_period 2 = .ok (.iload_n 1, 1) := by decide +kernel
theorem dX11_period_3 : decode cX11_period 3 = .ok (.iload_n 2, 1) := by decide +kernel
theorem dX11_period_4 : decode cX11_period 4 = .ok (.iload_n 3, 1) := by decide +kernel
theorem dX11_period_5 : decode cX11_period 5 = .ok (.iload 4, 2) := by decide +kernel
theorem dX11_period_7 : decode cX11_period 7 = .ok (.iconst 1, 1) := by decide +kernel
theorem dX11_period_8 : decode cX11_period 8 = .ok (.invokevirtual 183, 3) := by decide +kernel
theorem dX11_period_11 : decode cX11_period 11 = .ok (.putfield 110, 3) := by decide +kernel
theorem dX11_period_14 : decode cX11_period 14 = .ok (.aload_n 0, 1) := by decide +kernel
theorem dX11_period_15 : decode cX11_period 15 = .ok (.getfield 110, 3) := by decide +kernel
theorem dX11_period_18 : decode cX11_period 18 = .ok (.ifCond .le 7, 3) := by decide +kernel
theorem dX11_period_21 : decode cX11_period 21 = .ok (.iconst 0, 1) := by decide +kernel
theorem dX11_period_22 : decode cX11_period 22 = .ok (.goto 11, 3) := by decide +kernel
theorem dX11_period_25 : decode cX11_period 25 = .ok (.aload_n 0, 1) := by decide +kernel
theorem dX11_period_26 : decode cX11_period 26 = .ok (.iload_n 2, 1) := by decide +kernel
theorem dX11_period_27 : decode cX11_period 27 = .ok (.iload_n 3, 1) := by decide +kernel
theorem dX11_period_28 : decode cX11_period 28 = .ok (.iload 4, 2) := by decide +kernel
theorem dX11_period_30 : decode cX11_period 30 = .ok (.invokevirtual 187, 3) := by decide +kernel
theorem dX11_period_33 : decode cX11_period 33 = .ok (.ireturn, 1) := by decide +kernel
set_option maxRecDepth 20000 in
theorem ggX11_aliases_X11_in : GoodIn wsX11_aliases wsX11_in := goodIn_r _ [6] (by decide +kernel) (by decide +kernel)
set_option maxRecDepth 20000 in
theorem gX11_aliases_X11_in : GoodIn wsX11_aliases (va_wsS RX11 117 yX11_in wsX11_in) := goodIn_app (goodIn_of _ (by decide +kernel)) ggX11_aliases_X11_in
set_option maxRecDepth 20000 in
theorem ggX11_aliases_X11_areTrials : GoodIn wsX11_aliases wsX11_areTrials := goodIn_r _ [10, 11, 12, 13, 14, 15, 5, 16, 17, 3, 4, 6, 18, 19, 20, 21, 22, 23, 24, 25, 26, 27, 28, 29, 30, 31, 32, 33, 34, 35, 36, 37, 38, 39, 40, 41, 42, 43, 44, 45, 46, 47, 48, 49, 50, 51, 52, 53, 54, 55, 56, 57, 58, 59, 60, 61, 62, 63, 64, 65, 66, 67, 84, 85, 86, 87, 88, 89, 90, 91, 92, 93, 94, 95, 96, 97, 98, 99, 100, 101, 102, 103, 104, 105, 106, 107, 108, 109, 110, 111, 112, 113, 114, 115, 116, 117, 118, 119, 120, 121, 122, 123, 124, 125] (by decide +kernel) (by decide +kernel)
set_option maxRecDepth 20000 in
theorem gX11_aliases_X11_areTrials : GoodIn wsX11_aliases (wsV RX11 183 RX11 yX11_areTrials wsX11_areTrials) := goodIn_app (goodIn_of _ (by decide +kernel)) ggX11_aliases_X11_areTrials
set_option maxRecDepth 20000 in
theorem ggX11_aliases_X11_best : GoodIn wsX11_aliases wsX11_best := goodIn_r _ [71, 72, 73, 74, 5, 75, 12, 76, 33, 77, 78, 79, 80, 34, 81, 82, 83, 84, 85, 86, 87, 88, 89, 90, 91, 92, 93, 94, 95, 96, 97, 98, 99, 100, 101, 102, 103, 104, 105, 106, 107, 108, 109, 110, 111, 112, 113, 114, 115, 116, 117, 118, 119, 120, 121, 122, 123, 124, 125] (by decide +kernel) (by decide +kernel)
set_option maxRecDepth 20000 in
theorem gX11_aliases_X11_best : GoodIn wsX11_aliases (wsV RX11 187 RX11 yX11_best wsX11_best) := goodIn_app (goodIn_of _ (by decide +kernel)) ggX11_aliases_X11_best
set_option maxRecDepth 20000 in
theorem ggX11_aliases_X11_stringOf : GoodIn wsX11_aliases wsX11_stringOf := goodIn_r _ [75, 12, 76, 33, 77, 78, 79, 5, 80, 34, 81, 82, 83, 84, 85, 86, 87, 88, 89, 90, 91, 92, 93, 94, 95, 96, 97, 98, 99, 100, 101, 102, 103, 104, 105, 106, 107, 108, 109, 110, 111, 112, 113, 114, 115, 116, 117, 118, 119, 120, 121, 122, 123, 124, 125] (by decide +kernel) (by decide +kernel)
set_option maxRecDepth 20000 in
theorem gX11_aliases_X11_stringOf : GoodIn wsX11_aliases (wsV RX11 180 RX11 yX11_stringOf wsX11_stringOf) := goodIn_app (goodIn_of _ (by decide +kernel)) ggX11_aliases_X11_stringOf
theorem dX11_aliases_0 : decode cX11_aliases 0 = .ok (.aload_n 0, 1) := by decide +kernel
theorem dX11_aliases_1 : decode cX11_aliases 1 = .ok (.aload_n 0, 1) := by decide +kernel
theorem dX11_aliases_2 : decode cX11_aliases 2 = .ok (.iload_n 1, 1) := by decide +kernel
theorem dX11_aliases_3 : decode cX11_aliases 3 = .ok (.iload_n 2, 1) := by decide +kernel
theorem dX11_aliases_4 : decode cX11_aliases 4 = .ok (.iload_n 3, 1) := by decide +kernel
theorem dX11_aliases_5 : decode cX11_aliases 5 = .ok (.iload 4, 2) := by decide +kernel
theorem dX11_aliases_7 : decode cX11_aliases 7 = .ok (.iload 5, 2) := by decide +kernel
theorem dX11_aliases_9 : decode cX11_aliases 9 = .ok (.iconst 0, 1) := by decide +kernel
theorem dX11_aliases_10 : decode cX11_aliases 10 = .ok (.bipush 50, 2) := by decide +kernel
theorem dX11_aliases_12 : decode cX11_aliases 12 = .ok (.invokestatic 117, 3) := by decide +kernel
theorem dX11_aliases_15 : decode cX11_aliases 15 = .ok (.invokevirtual 183, 3) := by decide +kernel
theorem dX11_aliases_18 : decode cX11_aliases 18 = .ok (.putfield 110, 3) := by decide +kernel
theorem dX11_aliases_21 : decode cX11_aliases 21 = .ok (.aload_n 0, 1) := by decide +kernel
theorem dX11_aliases_22 : decode cX11_aliases 22 = .ok (.getfield 110, 3) := by decide +kernel
theorem dX11_aliases_25 : decode cX11_aliases 25 = .ok (.ifCond .le 5, 3) := by decide +kernel
theorem dX11_aliases_28 : decode cX11_aliases 28 = .ok (.iconst 0, 1) := by decide +kernel
theorem dX11_aliases_29 : decode cX11_aliases 29 = .ok (.ireturn, 1) := by decide +kernel
theorem dX11_aliases_30 : decode cX11_aliases 30 = .ok (.aload_n 0, 1) := by decide +kernel
theorem dX11_aliases_31 : decode cX11_aliases 31 = .ok (.iload_n 2, 1) := by decide +kernel
theorem dX11_aliases_32 : decode cX11_aliases 32 = .ok (.iload_n 3, 1) := by decide +kernel
theorem dX11_aliases_33 : decode cX11_aliases 33 = .ok (.iload 4, 2) := by decide +kernel
theorem dX11_aliases_35 : decode cX11_aliases 35 = .ok (.invokevirtual 187, 3) := by decide +kernel
theorem dX11_aliases_38 : decode cX11_aliases 38 = .ok (.istore 6, 2) := by decide +kernel
theorem dX11_aliases_40 : decode cX11_aliases 40 = .ok (.aload_n 0, 1) := by decide +kernel
theorem dX11_aliases_41 : decode cX11_aliases 41 = .ok (.iload 6, 2) := by decide +kernel
theorem dX11_aliases_43 : decode cX11_aliases 43 = .ok (.invokevirtual 180, 3) := by decide +kernel
theorem dX11_aliases_46 : decode cX11_aliases 46 = .ok (.i2l, 1) := by decide +kernel
theorem dX11_aliases_47 : decode cX11_aliases 47 = .ok (.lstore 7, 2) := by decide +kernel
theorem dX11_aliases_49 : decode cX11_aliases 49 = .ok (.iconst 0, 1) := by decide +kernel
theorem dX11_aliases_50 : decode cX11_aliases 50 = .ok (.istore 9, 2) := by decide +kernel
theorem dX11_aliases_52 : decode cX11_aliases 52 = .ok (.iload_n 2, 1) := by decide +kernel
theorem dX11_aliases_53 : decode cX11_aliases 53 = .ok (.istore 10, 2) := by decide +kernel
theorem dX11_aliases_55 : decode cX11_aliases 55 = .ok (.iload 10, 2) := by decide +kernel
theorem dX11_aliases_57 : decode cX11_aliases 57 = .ok (.iload_n 3, 1) := by decide +kernel
theorem dX11_aliases_58 : decode cX11_aliases 58 = .ok (.if_icmp .gt 54, 3) := by decide +kernel
theorem dX11_aliases_61 : decode cX11_aliases 61 = .ok (.iload 9, 2) := by decide +kernel
theorem dX11_aliases_63 : decode cX11_aliases 63 = .ok (.iload 10, 2) := by decide +kernel
theorem dX11_aliases_65 : decode cX11_aliases 65 = .ok (.iload 6, 2) := by decide +kernel
theorem dX11_aliases_67 : decode cX11_aliases 67 = .ok (.if_icmp .eq 31, 3) := by decide +kernel
theorem dX11_aliases_70 : decode cX11_aliases 70 = .ok (.ldc2_w 191, 3) := by decide +kernel
theorem dX11_aliases_73 : decode cX11_aliases 73 = .ok (.aload_n 0, 1) := by decide +kernel
theorem dX11_aliases_74 : decode cX11_aliases 74 = .ok (.iload 10, 2) := by decide +kernel
theorem dX11_aliases_76 : decode cX11_aliases 76 = .ok (.invokevirtual 180, 3) := by decide +kernel
theorem dX11_aliases_79 : decode cX11_aliases 79 = .ok (.i2l, 1) := by decide +kernel
theorem dX11_aliases_80 : decode cX11_aliases 80 = .ok (.lmul, 1) := by decide +kernel
theorem dX11_aliases_81 : decode cX11_aliases 81 = .ok (.bipush 100, 2) := by decide +kernel
theorem dX11_aliases_83 : decode cX11_aliases 83 = .ok (.iload 5, 2) := by decide +kernel
theorem dX11_aliases_85 : decode cX11_aliases 85 = .ok (.iadd, 1) := by decide +kernel
theorem dX11_aliases_86 : decode cX11_aliases 86 = .ok (.i2l, 1) := by decide +kernel
theorem dX11_aliases_87 : decode cX11_aliases 87 = .ok (.lload 7, 2) := by decide +kernel
theorem dX11_aliases_89 : decode cX11_aliases 89 = .ok (.lmul, 1) := by decide +kernel
theorem dX11_aliases_90 : decode cX11_aliases 90 = .ok (.lcmp, 1) := by decide +kernel
theorem dX11_aliases_91 : decode cX11_aliases 91 = .ok (.ifCond .gt 7, 3) := by decide +kernel
theorem dX11_aliases_94 : decode cX11_aliases 94 = .ok (.iconst 1, 1) := by decide +kernel
theorem dX11_aliases_95 : decode cX11_aliases 95 = .ok (.goto 4, 3) := by decide +kernel
theorem dX11_aliases_98 : decode cX11_aliases 98 = .ok (.iconst 0, 1) := by decide +kernel
theorem dX11_aliases_99 : decode cX11_aliases 99 = .ok (.iadd, 1) := by decide +kernel
theorem dX11_aliases_100 : decode cX11_aliases 100 = .ok (.istore 9, 2) := by decide +kernel
theorem dX11_aliases_102 : decode cX11_aliases 102 = .ok (.iload 10, 2) := by decide +kernel
theorem dX11_aliases_104 : decode cX11_aliases 104 = .ok (.iload 4, 2) := by decide +kernel
theorem dX11_aliases_106 : decode cX11_aliases 106 = .ok (.iadd, 1) := by decide +kernel
theorem dX11_aliases_107 : decode cX11_aliases 107 = .ok (.istore 10, 2) := by decide +kernel
theorem dX11_aliases_109 : decode cX11_aliases 109 = .ok (.goto (-54), 3) := by decide +kernel
theorem dX11_aliases_112 : decode cX11_aliases 112 = .ok (.iload 9, 2) := by decide +kernel
theorem dX11_aliases_114 : decode cX11_aliases 114 = .ok (.ireturn, 1) := by decide +kernel
set_option maxRecDepth 20000 in
theorem ggX11_claim_X11_isStar : GoodIn wsX11_claim wsX11_isStar := goodIn_r _ [7, 8, 9, 10, 6, 11, 16, 17, 18, 19, 20, 21, 22, 23, 24, 25, 26, 27, 28, 29, 30, 31, 32, 33, 34, 35, 36, 37, 38, 39, 40, 41, 42, 43, 44, 45, 46, 47, 48, 49, 50, 51, 52, 53, 54, 55, 56, 57] (by decide +kernel) (by decide +kernel)
set_option maxRecDepth 20000 in
theorem gX11_claim_X11_isStar : GoodIn wsX11_claim (wsV RX11 129 RX11 yX11_isStar wsX11_isStar) := goodIn_app (goodIn_of _ (by decide +kernel)) ggX11_claim_X11_isStar
set_option maxRecDepth 20000 in
theorem ggX11_claim_X11_isPeriod : GoodIn wsX11_claim wsX11_isPeriod := goodIn_r _ [14, 15, 9, 10, 6, 11] (by decide +kernel) (by decide +kernel)
set_option maxRecDepth 20000 in
theorem gX11_claim_X11_isPeriod : GoodIn wsX11_claim (va_wsS RX11 173 yX11_isPeriod wsX11_isPeriod) := goodIn_app (goodIn_of _ (by decide +kernel)) ggX11_claim_X11_isPeriod
theorem dX11_claim_0 : decode cX11_claim 0 = .ok (.aload_n 0, 1) := by decide +kernel
theorem dX11_claim_1 : decode cX11_claim 1 = .ok (.aload_n 0, 1) := by decide +kernel
theorem dX11_claim_2 : decode cX11_claim 2 = .ok (.iload_n 1, 1) := by decide +kernel
theorem dX11_claim_3 : decode cX11_claim 3 = .ok (.invokevirtual 129, 3) := by decide +kernel
theorem dX11_claim_6 : decode cX11_claim 6 = .ok (.ifCond .ne 7, 3) := by decide +kernel
theorem dX11_claim_9 : decode cX11_claim 9 = .ok (.iconst 1, 1) := by decide +kernel
theorem dX11_claim_10 : decode cX11_claim 10 = .ok (.goto 19, 3) := by decide +kernel
theorem dX11_claim_13 : decode cX11_claim 13 = .ok (.iload_n 2, 1) := by decide +kernel
theorem dX11_claim_14 : decode cX11_claim 14 = .ok (.ifCond .eq 14, 3) := by decide +kernel
theorem dX11_claim_17 : decode cX11_claim 17 = .ok (.iload_n 2, 1) := by decide +kernel
theorem dX11_claim_18 : decode cX11_claim 18 = .ok (.invokestatic 173, 3) := by decide +kernel
theorem dX11_claim_21 : decode cX11_claim 21 = .ok (.ifCond .ne 7, 3) := by decide +kernel
theorem dX11_claim_24 : decode cX11_claim 24 = .ok (.iconst 2, 1) := by decide +kernel
theorem dX11_claim_25 : decode cX11_claim 25 = .ok (.goto 4, 3) := by decide +kernel
theorem dX11_claim_28 : decode cX11_claim 28 = .ok (.iconst 0, 1) := by decide +kernel
theorem dX11_claim_29 : decode cX11_claim 29 = .ok (.putfield 110, 3) := by decide +kernel
theorem dX11_claim_32 : decode cX11_claim 32 = .ok (.aload_n 0, 1) := by decide +kernel
theorem dX11_claim_33 : decode cX11_claim 33 = .ok (.getfield 110, 3) := by decide +kernel
theorem dX11_claim_36 : decode cX11_claim 36 = .ok (.ifCond .le 5, 3) := by decide +kernel
theorem dX11_claim_39 : decode cX11_claim 39 = .ok (.iconst 0, 1) := by decide +kernel
theorem dX11_claim_40 : decode cX11_claim 40 = .ok (.ireturn, 1) := by decide +kernel
theorem dX11_claim_41 : decode cX11_claim 41 = .ok (.aload_n 0, 1) := by decide +kernel
theorem dX11_claim_42 : decode cX11_claim 42 = .ok (.getfield 19, 3) := by decide +kernel
theorem dX11_claim_45 : decode cX11_claim 45 = .ok (.iload_n 1, 1) := by decide +kernel
theorem dX11_claim_46 : decode cX11_claim 46 = .ok (.iaload, 1) := by decide +kernel
theorem dX11_claim_47 : decode cX11_claim 47 = .ok (.istore_n 3, 1) := by decide +kernel
theorem dX11_claim_48 : decode cX11_claim 48 = .ok (.aload_n 0, 1) := by decide +kernel
theorem dX11_claim_49 : decode cX11_claim 49 = .ok (.getfield 19, 3) := by decide +kernel
theorem dX11_claim_52 : decode cX11_claim 52 = .ok (.iload_n 1, 1) := by decide +kernel
theorem dX11_claim_53 : decode cX11_claim 53 = .ok (.iload_n 2, 1) := by decide +kernel
theorem dX11_claim_54 : decode cX11_claim 54 = .ok (.iastore, 1) := by decide +kernel
theorem dX11_claim_55 : decode cX11_claim 55 = .ok (.iload_n 3, 1) := by decide +kernel
theorem dX11_claim_56 : decode cX11_claim 56 = .ok (.ireturn, 1) := by decide +kernel
theorem dX11_claimOf_0 : decode cX11_claimOf 0 = .ok (.iconst 0, 1) := by decide +kernel
theorem dX11_claimOf_1 : decode cX11_claimOf 1 = .ok (.istore_n 2, 1) := by decide +kernel
theorem dX11_claimOf_2 : decode cX11_claimOf 2 = .ok (.aload_n 0, 1) := by decide +kernel
theorem dX11_claimOf_3 : decode cX11_claimOf 3 = .ok (.getfield 114, 3) := by decide +kernel
theorem dX11_claimOf_6 : decode cX11_claimOf 6 = .ok (.iconst 1, 1) := by decide +kernel
theorem dX11_claimOf_7 : decode cX11_claimOf 7 = .ok (.isub, 1) := by decide +kernel
theorem dX11_claimOf_8 : decode cX11_claimOf 8 = .ok (.istore_n 3, 1) := by decide +kernel
theorem dX11_claimOf_9 : decode cX11_claimOf 9 = .ok (.iload_n 3, 1) := by decide +kernel
theorem dX11_claimOf_10 : decode cX11_claimOf 10 = .ok (.ifCond .lt 39, 3) := by decide +kernel
theorem dX11_claimOf_13 : decode cX11_claimOf 13 = .ok (.aload_n 0, 1) := by decide +kernel
theorem dX11_claimOf_14 : decode cX11_claimOf 14 = .ok (.getfield 16, 3) := by decide +kernel
theorem dX11_claimOf_17 : decode cX11_claimOf 17 = .ok (.iload_n 3, 1) := by decide +kernel
theorem dX11_claimOf_18 : decode cX11_claimOf 18 = .ok (.iaload, 1) := by decide +kernel
theorem dX11_claimOf_19 : decode cX11_claimOf 19 = .ok (.iload_n 1, 1) := by decide +kernel
theorem dX11_claimOf_20 : decode cX11_claimOf 20 = .ok (.if_icmp .ne 21, 3) := by decide +kernel
theorem dX11_claimOf_23 : decode cX11_claimOf 23 = .ok (.aload_n 0, 1) := by decide +kernel
theorem dX11_claimOf_24 : decode cX11_claimOf 24 = .ok (.getfield 19, 3) := by decide +kernel
theorem dX11_claimOf_27 : decode cX11_claimOf 27 = .ok (.iload_n 3, 1) := by decide +kernel
theorem dX11_claimOf_28 : decode cX11_claimOf 28 = .ok (.iaload, 1) := by decide +kernel
theorem dX11_claimOf_29 : decode cX11_claimOf 29 = .ok (.ifCond .le 12, 3) := by decide +kernel
theorem dX11_claimOf_32 : decode cX11_claimOf 32 = .ok (.aload_n 0, 1) := by decide +kernel
theorem dX11_claimOf_33 : decode cX11_claimOf 33 = .ok (.getfield 19, 3) := by decide +kernel
theorem dX11_claimOf_36 : decode cX11_claimOf 36 = .ok (.iload_n 3, 1) := by decide +kernel
theorem dX11_claimOf_37 : decode cX11_claimOf 37 = .ok (.iaload, 1) := by decide +kernel
theorem dX11_claimOf_38 : decode cX11_claimOf 38 = .ok (.goto 4, 3) := by decide +kernel
theorem dX11_claimOf_41 : decode cX11_claimOf 41 = .ok (.iload_n 2, 1) := by decide +kernel
theorem dX11_claimOf_42 : decode cX11_claimOf 42 = .ok (.istore_n 2, 1) := by decide +kernel
theorem dX11_claimOf_43 : decode cX11_claimOf 43 = .ok (.iinc 3 (-1), 3) := by decide +kernel
theorem dX11_claimOf_46 : decode cX11_claimOf 46 = .ok (.goto (-37), 3) := by decide +kernel
theorem dX11_claimOf_49 : decode cX11_claimOf 49 = .ok (.iload_n 2, 1) := by decide +kernel
theorem dX11_claimOf_50 : decode cX11_claimOf 50 = .ok (.ireturn, 1) := by decide +kernel
set_option maxRecDepth 20000 in
theorem ggX11_hasFeatures_X11_gathers : GoodIn wsX11_hasFeatures wsX11_gathers := goodIn_r _ [6, 1, 7, 8, 9, 10, 11, 12, 13, 14, 15, 5, 16, 17, 18, 19, 20, 21, 22, 23, 24, 25, 26, 27, 28, 29, 30, 31, 32, 33, 34, 35, 36, 37, 38, 39, 40, 41, 42, 43, 44, 45, 52, 53, 54, 55, 56, 57, 58, 59, 60, 61, 62, 63, 64, 65, 66, 67, 68, 69, 70, 71, 72, 73, 74, 75, 76, 77, 78, 79, 80, 81, 82, 83, 84, 85, 86, 87, 88, 89, 90, 91, 92, 93] (by decide +kernel) (by decide +kernel)
set_option maxRecDepth 20000 in
theorem gX11_hasFeatures_X11_gathers : GoodIn wsX11_hasFeatures (wsV RX11 163 RX11 yX11_gathers wsX11_gathers) := goodIn_app (goodIn_of _ (by decide +kernel)) ggX11_hasFeatures_X11_gathers
set_option maxRecDepth 20000 in
theorem ggX11_hasFeatures_X11_claimOf : GoodIn wsX11_hasFeatures wsX11_claimOf := goodIn_r _ [49, 50, 8, 51, 52, 53, 54, 55, 56, 57, 58, 59, 60, 61, 62, 63, 64, 65, 66, 67, 68, 69, 70, 71, 72, 73, 74, 75, 76, 77, 78, 79, 80, 81, 82, 83, 84, 85, 86, 87, 88, 89, 90, 91, 92, 93] (by decide +kernel) (by decide +kernel)
set_option maxRecDepth 20000 in
theorem gX11_hasFeatures_X11_claimOf : GoodIn wsX11_hasFeatures (wsV RX11 193 RX11 yX11_claimOf wsX11_claimOf) := goodIn_app (goodIn_of _ (by decide +kernel)) ggX11_hasFeatures_X11_claimOf
theorem dX11_hasFeatures_0 : decode cX11_hasFeatures 0 = .ok (.aload_n 0, 1) := by decide +kernel
theorem dX11_hasFeatures_1 : decode cX11_hasFeatures 1 = .ok (.iload_n 1, 1) := by decide +kernel
theorem dX11_hasFeatures_2 : decode cX11_hasFeatures 2 = .ok (.iconst (-1), 1) := by decide +kernel
theorem dX11_hasFeatures_3 : decode cX11_hasFeatures 3 = .ok (.invokevirtual 163, 3) := by decide +kernel
theorem dX11_hasFeatures_6 : decode cX11_hasFeatures 6 = .ok (.aload_n 0, 1) := by decide +kernel
theorem dX11_hasFeatures_7 : decode cX11_hasFeatures 7 = .ok (.getfield 160, 3) := by decide +kernel
theorem dX11_hasFeatures_10 : decode cX11_hasFeatures 10 = .ok (.ifCond .le 15, 3) := by decide +kernel
theorem dX11_hasFeatures_13 : decode cX11_hasFeatures 13 = .ok (.aload_n 0, 1) := by decide +kernel
theorem dX11_hasFeatures_14 : decode cX11_hasFeatures 14 = .ok (.iload_n 1, 1) := by decide +kernel
theorem dX11_hasFeatures_15 : decode cX11_hasFeatures 15 = .ok (.invokevirtual 193, 3) := by decide +kernel
theorem dX11_hasFeatures_18 : decode cX11_hasFeatures 18 = .ok (.ifCond .le 7, 3) := by decide +kernel
theorem dX11_hasFeatures_21 : decode cX11_hasFeatures 21 = .ok (.iconst 1, 1) := by decide +kernel
theorem dX11_hasFeatures_22 : decode cX11_hasFeatures 22 = .ok (.goto 4, 3) := by decide +kernel
theorem dX11_hasFeatures_25 : decode cX11_hasFeatures 25 = .ok (.iconst 0, 1) := by decide +kernel
theorem dX11_hasFeatures_26 : decode cX11_hasFeatures 26 = .ok (.ireturn, 1) := by decide +kernel
set_option maxRecDepth 20000 in
theorem ggX11_featureOf_X11_claimOf : GoodIn wsX11_featureOf wsX11_claimOf := goodIn_r _ [8, 9, 10, 11, 15, 16, 17, 18, 19, 20, 21, 22, 23, 24, 25, 26, 27, 28, 29, 30, 31, 32, 33, 34, 35, 36, 37, 38, 39, 40, 41, 42, 43, 44, 45, 46, 47, 48, 49, 50, 51, 52, 53, 54, 55, 56] (by decide +kernel) (by decide +kernel)
set_option maxRecDepth 20000 in
theorem gX11_featureOf_X11_claimOf : GoodIn wsX11_featureOf (wsV RX11 193 RX11 yX11_claimOf wsX11_claimOf) := goodIn_app (goodIn_of _ (by decide +kernel)) ggX11_featureOf_X11_claimOf
set_option maxRecDepth 20000 in
theorem ggX11_featureOf_X11_remainder : GoodIn wsX11_featureOf wsX11_remainder := goodIn_r _ [14] (by decide +kernel) (by decide +kernel)
set_option maxRecDepth 20000 in
theorem gX11_featureOf_X11_remainder : GoodIn wsX11_featureOf (va_wsS RX11 167 yX11_remainder wsX11_remainder) := goodIn_app (goodIn_of _ (by decide +kernel)) ggX11_featureOf_X11_remainder
theorem dX11_featureOf_0 : decode cX11_featureOf 0 = .ok (.iconst 0, 1) := by decide +kernel
theorem dX11_featureOf_1 : decode cX11_featureOf 1 = .ok (.istore_n 3, 1) := by decide +kernel
theorem dX11_featureOf_2 : decode cX11_featureOf 2 = .ok (.iconst 0, 1) := by decide +kernel
theorem dX11_featureOf_3 : decode cX11_featureOf 3 = .ok (.istore 4, 2) := by decide +kernel
theorem dX11_featureOf_5 : decode cX11_featureOf 5 = .ok (.iconst 1, 1) := by decide +kernel
theorem dX11_featureOf_6 : decode cX11_featureOf 6 = .ok (.istore 5, 2) := by decide +kernel
theorem dX11_featureOf_8 : decode cX11_featureOf 8 = .ok (.iload 5, 2) := by decide +kernel
theorem dX11_featureOf_10 : decode cX11_featureOf 10 = .ok (.aload_n 0, 1) := by decide +kernel
theorem dX11_featureOf_11 : decode cX11_featureOf 11 = .ok (.getfield 160, 3) := by decide +kernel
theorem dX11_featureOf_14 : decode cX11_featureOf 14 = .ok (.if_icmp .ge 111, 3) := by decide +kernel
theorem dX11_featureOf_17 : decode cX11_featureOf 17 = .ok (.aload_n 0, 1) := by decide +kernel
theorem dX11_featureOf_18 : decode cX11_featureOf 18 = .ok (.getfield 92, 3) := by decide +kernel
theorem dX11_featureOf_21 : decode cX11_featureOf 21 = .ok (.iload 5, 2) := by decide +kernel
theorem dX11_featureOf_23 : decode cX11_featureOf 23 = .ok (.iaload, 1) := by decide +kernel
theorem dX11_featureOf_24 : decode cX11_featureOf 24 = .ok (.aload_n 0, 1) := by decide +kernel
theorem dX11_featureOf_25 : decode cX11_featureOf 25 = .ok (.getfield 92, 3) := by decide +kernel
theorem dX11_featureOf_28 : decode cX11_featureOf 28 = .ok (.iload_n 3, 1) := by decide +kernel
theorem dX11_featureOf_29 : decode cX11_featureOf 29 = .ok (.iaload, 1) := by decide +kernel
theorem dX11_featureOf_30 : decode cX11_featureOf 30 = .ok (.isub, 1) := by decide +kernel
theorem dX11_featureOf_31 : decode cX11_featureOf 31 = .ok (.istore 6, 2) := by decide +kernel
theorem dX11_featureOf_33 : decode cX11_featureOf 33 = .ok (.aload_n 0, 1) := by decide +kernel
theorem dX11_featureOf_34 : decode cX11_featureOf 34 = .ok (.getfield 92, 3) := by decide +kernel
theorem dX11_featureOf_37 : decode cX11_featureOf 37 = .ok (.iload 4, 2) := by decide +kernel
theorem dX11_featureOf_39 : decode cX11_featureOf 39 = .ok (.iaload, 1) := by decide +kernel
theorem dX11_featureOf_40 : decode cX11_featureOf 40 = .ok (.aload_n 0, 1) := by decide +kernel
theorem dX11_featureOf_41 : decode cX11_featureOf 41 = .ok (.getfield 92, 3) := by decide +kernel
theorem dX11_featureOf_44 : decode cX11_featureOf 44 = .ok (.iload 5, 2) := by decide +kernel
theorem dX11_featureOf_46 : decode cX11_featureOf 46 = .ok (.iaload, 1) := by decide +kernel
theorem dX11_featureOf_47 : decode cX11_featureOf 47 = .ok (.isub, 1) := by decide +kernel
theorem dX11_featureOf_48 : decode cX11_featureOf 48 = .ok (.istore 7, 2) := by decide +kernel
theorem dX11_featureOf_50 : decode cX11_featureOf 50 = .ok (.iload 6, 2) := by decide +kernel
theorem dX11_featureOf_52 : decode cX11_featureOf 52 = .ok (.ifCond .lt 24, 3) := by decide +kernel
theorem dX11_featureOf_55 : decode cX11_featureOf 55 = .ok (.iload 6, 2) := by decide +kernel
theorem dX11_featureOf_57 : decode cX11_featureOf 57 = .ok (.ifCond .ne 24, 3) := by decide +kernel
theorem dX11_featureOf_60 : decode cX11_featureOf 60 = .ok (.aload_n 0, 1) := by decide +kernel
theorem dX11_featureOf_61 : decode cX11_featureOf 61 = .ok (.getfield 95, 3) := by decide +kernel
theorem dX11_featureOf_64 : decode cX11_featureOf 64 = .ok (.iload 5, 2) := by decide +kernel
theorem dX11_featureOf_66 : decode cX11_featureOf 66 = .ok (.iaload, 1) := by decide +kernel
theorem dX11_featureOf_67 : decode cX11_featureOf 67 = .ok (.aload_n 0, 1) := by decide +kernel
theorem dX11_featureOf_68 : decode cX11_featureOf 68 = .ok (.getfield 95, 3) := by decide +kernel
theorem dX11_featureOf_71 : decode cX11_featureOf 71 = .ok (.iload_n 3, 1) := by decide +kernel
theorem dX11_featureOf_72 : decode cX11_featureOf 72 = .ok (.iaload, 1) := by decide +kernel
theorem dX11_featureOf_73 : decode cX11_featureOf 73 = .ok (.if_icmp .ge 8, 3) := by decide +kernel
theorem dX11_featureOf_76 : decode cX11_featureOf 76 = .ok (.iload 5, 2) := by decide +kernel
theorem dX11_featureOf_78 : decode cX11_featureOf 78 = .ok (.goto 4, 3) := by decide +kernel
theorem dX11_featureOf_81 : decode cX11_featureOf 81 = .ok (.iload_n 3, 1) := by decide +kernel
theorem dX11_featureOf_82 : decode cX11_featureOf 82 = .ok (.istore_n 3, 1) := by decide +kernel
theorem dX11_featureOf_83 : decode cX11_featureOf 83 = .ok (.iload 7, 2) := by decide +kernel
theorem dX11_featureOf_85 : decode cX11_featureOf 85 = .ok (.ifCond .lt 25, 3) := by decide +kernel
theorem dX11_featureOf_88 : decode cX11_featureOf 88 = .ok (.iload 7, 2) := by decide +kernel
theorem dX11_featureOf_90 : decode cX11_featureOf 90 = .ok (.ifCond .ne 25, 3) := by decide +kernel
theorem dX11_featureOf_93 : decode cX11_featureOf 93 = .ok (.aload_n 0, 1) := by decide +kernel
theorem dX11_featureOf_94 : decode cX11_featureOf 94 = .ok (.getfield 95, 3) := by decide +kernel
theorem dX11_featureOf_97 : decode cX11_featureOf 97 = .ok (.iload 5, 2) := by decide +kernel
theorem dX11_featureOf_99 : decode cX11_featureOf 99 = .ok (.iaload, 1) := by decide +kernel
theorem dX11_featureOf_100 : decode cX11_featureOf 100 = .ok (.aload_n 0, 1) := by decide +kernel
theorem dX11_featureOf_101 : decode cX11_featureOf 101 = .ok (.getfield 95, 3) := by decide +kernel
theorem dX11_featureOf_104 : decode cX11_featureOf 104 = .ok (.iload 4, 2) := by decide +kernel
theorem dX11_featureOf_106 : decode cX11_featureOf 106 = .ok (.iaload, 1) := by decide +kernel
theorem dX11_featureOf_107 : decode cX11_featureOf 107 = .ok (.if_icmp .ge 8, 3) := by decide +kernel
theorem dX11_featureOf_110 : decode cX11_featureOf 110 = .ok (.iload 5, 2) := by decide +kernel
theorem dX11_featureOf_112 : decode cX11_featureOf 112 = .ok (.goto 5, 3) := by decide +kernel
theorem dX11_featureOf_115 : decode cX11_featureOf 115 = .ok (.iload 4, 2) := by decide +kernel
theorem dX11_featureOf_117 : decode cX11_featureOf 117 = .ok (.istore 4, 2) := by decide +kernel
theorem dX11_featureOf_119 : decode cX11_featureOf 119 = .ok (.iinc 5 1, 3) := by decide +kernel
theorem dX11_featureOf_122 : decode cX11_featureOf 122 = .ok (.goto (-114), 3) := by decide +kernel
theorem dX11_featureOf_125 : decode cX11_featureOf 125 = .ok (.aload_n 0, 1) := by decide +kernel
theorem dX11_featureOf_126 : decode cX11_featureOf 126 = .ok (.iload_n 1, 1) := by decide +kernel
theorem dX11_featureOf_127 : decode cX11_featureOf 127 = .ok (.invokevirtual 193, 3) := by decide +kernel
theorem dX11_featureOf_130 : decode cX11_featureOf 130 = .ok (.istore 5, 2) := by decide +kernel
theorem dX11_featureOf_132 : decode cX11_featureOf 132 = .ok (.iload_n 2, 1) := by decide +kernel
theorem dX11_featureOf_133 : decode cX11_featureOf 133 = .ok (.ifCond .ne 20, 3) := by decide +kernel
theorem dX11_featureOf_136 : decode cX11_featureOf 136 = .ok (.aload_n 0, 1) := by decide +kernel
theorem dX11_featureOf_137 : decode cX11_featureOf 137 = .ok (.getfield 92, 3) := by decide +kernel
theorem dX11_featureOf_140 : decode cX11_featureOf 140 = .ok (.iload 4, 2) := by decide +kernel
theorem dX11_featureOf_142 : decode cX11_featureOf 142 = .ok (.iaload, 1) := by decide +kernel
theorem dX11_featureOf_143 : decode cX11_featureOf 143 = .ok (.aload_n 0, 1) := by decide +kernel
theorem dX11_featureOf_144 : decode cX11_featureOf 144 = .ok (.getfield 92, 3) := by decide +kernel
theorem dX11_featureOf_147 : decode cX11_featureOf 147 = .ok (.iload_n 3, 1) := by decide +kernel
theorem dX11_featureOf_148 : decode cX11_featureOf 148 = .ok (.iaload, 1) := by decide +kernel
theorem dX11_featureOf_149 : decode cX11_featureOf 149 = .ok (.isub, 1) := by decide +kernel
theorem dX11_featureOf_150 : decode cX11_featureOf 150 = .ok (.goto 38, 3) := by decide +kernel
theorem dX11_featureOf_153 : decode cX11_featureOf 153 = .ok (.iload_n 2, 1) := by decide +kernel
theorem dX11_featureOf_154 : decode cX11_featureOf 154 = .ok (.iconst 1, 1) := by decide +kernel
theorem dX11_featureOf_155 : decode cX11_featureOf 155 = .ok (.if_icmp .ne 8, 3) := by decide +kernel
theorem dX11_featureOf_158 : decode cX11_featureOf 158 = .ok (.iload 5, 2) := by decide +kernel
theorem dX11_featureOf_160 : decode cX11_featureOf 160 = .ok (.goto 28, 3) := by decide +kernel
theorem dX11_featureOf_163 : decode cX11_featureOf 163 = .ok (.aload_n 0, 1) := by decide +kernel
theorem dX11_featureOf_164 : decode cX11_featureOf 164 = .ok (.getfield 95, 3) := by decide +kernel
theorem dX11_featureOf_167 : decode cX11_featureOf 167 = .ok (.iload_n 3, 1) := by decide +kernel
theorem dX11_featureOf_168 : decode cX11_featureOf 168 = .ok (.iaload, 1) := by decide +kernel
theorem dX11_featureOf_169 : decode cX11_featureOf 169 = .ok (.aload_n 0, 1) := by decide +kernel
theorem dX11_featureOf_170 : decode cX11_featureOf 170 = .ok (.getfield 95, 3) := by decide +kernel
theorem dX11_featureOf_173 : decode cX11_featureOf 173 = .ok (.iload 4, 2) := by decide +kernel
theorem dX11_featureOf_175 : decode cX11_featureOf 175 = .ok (.iaload, 1) := by decide +kernel
theorem dX11_featureOf_176 : decode cX11_featureOf 176 = .ok (.isub, 1) := by decide +kernel
theorem dX11_featureOf_177 : decode cX11_featureOf 177 = .ok (.iload 5, 2) := by decide +kernel
theorem dX11_featureOf_179 : decode cX11_featureOf 179 = .ok (.invokestatic 167, 3) := by decide +kernel
theorem dX11_featureOf_182 : decode cX11_featureOf 182 = .ok (.bipush 100, 2) := by decide +kernel
theorem dX11_featureOf_184 : decode cX11_featureOf 184 = .ok (.imul, 1) := by decide +kernel
theorem dX11_featureOf_185 : decode cX11_featureOf 185 = .ok (.iload 5, 2) := by decide +kernel
theorem dX11_featureOf_187 : decode cX11_featureOf 187 = .ok (.idiv, 1) := by decide +kernel
theorem dX11_featureOf_188 : decode cX11_featureOf 188 = .ok (.ireturn, 1) := by decide +kernel
set_option maxRecDepth 20000 in
theorem ggX11_feature_X11_isStar : GoodIn wsX11_feature wsX11_isStar := goodIn_r _ [7, 8, 9, 10, 6, 11, 71, 72, 73, 74, 75, 76, 77, 78, 79, 80, 81, 82, 83, 84, 85, 86, 87, 88, 89, 90, 91, 92, 93, 94, 95, 96, 97, 98, 99, 100, 101, 102, 103, 104, 105, 106, 107, 108, 109, 110, 111, 112] (by decide +kernel) (by decide +kernel)
set_option maxRecDepth 20000 in
theorem gX11_feature_X11_isStar : GoodIn wsX11_feature (wsV RX11 129 RX11 yX11_isStar wsX11_isStar) := goodIn_app (goodIn_of _ (by decide +kernel)) ggX11_feature_X11_isStar
set_option maxRecDepth 20000 in
theorem ggX11_feature_X11_in : GoodIn wsX11_feature wsX11_in := goodIn_r _ [11] (by decide +kernel) (by decide +kernel)
set_option maxRecDepth 20000 in
theorem gX11_feature_X11_in : GoodIn wsX11_feature (va_wsS RX11 117 yX11_in wsX11_in) := goodIn_app (goodIn_of _ (by decide +kernel)) ggX11_feature_X11_in
set_option maxRecDepth 20000 in
theorem ggX11_feature_X11_hasFeatures : GoodIn wsX11_feature wsX11_hasFeatures := goodIn_r _ [15, 16, 17, 18, 19, 6, 20, 21, 1, 22, 23, 24, 25, 26, 27, 28, 29, 30, 31, 32, 33, 34, 35, 36, 37, 38, 39, 40, 41, 42, 43, 44, 45, 46, 47, 48, 49, 50, 51, 52, 53, 54, 55, 56, 57, 58, 59, 60, 61, 62, 8, 63, 71, 72, 73, 74, 75, 76, 77, 78, 79, 80, 81, 82, 83, 84, 85, 86, 87, 88, 89, 90, 91, 92, 93, 94, 95, 96, 97, 98, 99, 100, 101, 102, 103, 104, 105, 106, 107, 108, 109, 110, 111, 112] (by decide +kernel) (by decide +kernel)
set_option maxRecDepth 20000 in
theorem gX11_feature_X11_hasFeatures : GoodIn wsX11_feature (wsV RX11 196 RX11 yX11_hasFeatures wsX11_hasFeatures) := goodIn_app (goodIn_of _ (by decide +kernel)) ggX11_feature_X11_hasFeatures
set_option maxRecDepth 20000 in
theorem ggX11_feature_X11_featureOf : GoodIn wsX11_feature wsX11_featureOf := goodIn_r _ [67, 16, 24, 25, 59, 60, 61, 6, 62, 8, 1, 63, 68, 69, 70, 71, 72, 73, 74, 75, 76, 77, 78, 79, 80, 81, 82, 83, 84, 85, 86, 87, 88, 89, 90, 91, 92, 93, 94, 95, 96, 97, 98, 99, 100, 101, 102, 103, 104, 105, 106, 107, 108, 109, 110, 111, 112] (by decide +kernel) (by decide +kernel)
set_option maxRecDepth 20000 in
theorem gX11_feature_X11_featureOf : GoodIn wsX11_feature (wsV RX11 199 RX11 yX11_featureOf wsX11_featureOf) := goodIn_app (goodIn_of _ (by decide +kernel)) ggX11_feature_X11_featureOf
theorem dX11_feature_0 : decode cX11_feature 0 = .ok (.aload_n 0, 1) := by decide +kernel
theorem dX11_feature_1 : decode cX11_feature 1 = .ok (.aload_n 0, 1) := by decide +kernel
theorem dX11_feature_2 : decode cX11_feature 2 = .ok (.iload_n 1, 1) := by decide +kernel
theorem dX11_feature_3 : decode cX11_feature 3 = .ok (.invokevirtual 129, 3) := by decide +kernel
theorem dX11_feature_6 : decode cX11_feature 6 = .ok (.ifCond .ne 7, 3) := by decide +kernel
theorem dX11_feature_9 : decode cX11_feature 9 = .ok (.iconst 1, 1) := by decide +kernel
theorem dX11_feature_10 : decode cX11_feature 10 = .ok (.goto 34, 3) := by decide +kernel
theorem dX11_feature_13 : decode cX11_feature 13 = .ok (.iload_n 2, 1) := by decide +kernel
theorem dX11_feature_14 : decode cX11_feature 14 = .ok (.iconst 0, 1) := by decide +kernel
theorem dX11_feature_15 : decode cX11_feature 15 = .ok (.iconst 2, 1) := by decide +kernel
theorem dX11_feature_16 : decode cX11_feature 16 = .ok (.invokestatic 117, 3) := by decide +kernel
theorem dX11_feature_19 : decode cX11_feature 19 = .ok (.ifCond .ne 7, 3) := by decide +kernel
theorem dX11_feature_22 : decode cX11_feature 22 = .ok (.iconst 2, 1) := by decide +kernel
theorem dX11_feature_23 : decode cX11_feature 23 = .ok (.goto 21, 3) := by decide +kernel
theorem dX11_feature_26 : decode cX11_feature 26 = .ok (.aload_n 0, 1) := by decide +kernel
theorem dX11_feature_27 : decode cX11_feature 27 = .ok (.aload_n 0, 1) := by decide +kernel
theorem dX11_feature_28 : decode cX11_feature 28 = .ok (.getfield 16, 3) := by decide +kernel
theorem dX11_feature_31 : decode cX11_feature 31 = .ok (.iload_n 1, 1) := by decide +kernel
theorem dX11_feature_32 : decode cX11_feature 32 = .ok (.iaload, 1) := by decide +kernel
theorem dX11_feature_33 : decode cX11_feature 33 = .ok (.invokevirtual 196, 3) := by decide +kernel
theorem dX11_feature_36 : decode cX11_feature 36 = .ok (.ifCond .ne 7, 3) := by decide +kernel
theorem dX11_feature_39 : decode cX11_feature 39 = .ok (.iconst 3, 1) := by decide +kernel
theorem dX11_feature_40 : decode cX11_feature 40 = .ok (.goto 4, 3) := by decide +kernel
theorem dX11_feature_43 : decode cX11_feature 43 = .ok (.iconst 0, 1) := by decide +kernel
theorem dX11_feature_44 : decode cX11_feature 44 = .ok (.putfield 110, 3) := by decide +kernel
theorem dX11_feature_47 : decode cX11_feature 47 = .ok (.aload_n 0, 1) := by decide +kernel
theorem dX11_feature_48 : decode cX11_feature 48 = .ok (.getfield 110, 3) := by decide +kernel
theorem dX11_feature_51 : decode cX11_feature 51 = .ok (.ifCond .le 7, 3) := by decide +kernel
theorem dX11_feature_54 : decode cX11_feature 54 = .ok (.iconst 0, 1) := by decide +kernel
theorem dX11_feature_55 : decode cX11_feature 55 = .ok (.goto 14, 3) := by decide +kernel
theorem dX11_feature_58 : decode cX11_feature 58 = .ok (.aload_n 0, 1) := by decide +kernel
theorem dX11_feature_59 : decode cX11_feature 59 = .ok (.aload_n 0, 1) := by decide +kernel
theorem dX11_feature_60 : decode cX11_feature 60 = .ok (.getfield 16, 3) := by decide +kernel
theorem dX11_feature_63 : decode cX11_feature 63 = .ok (.iload_n 1, 1) := by decide +kernel
theorem dX11_feature_64 : decode cX11_feature 64 = .ok (.iaload, 1) := by decide +kernel
theorem dX11_feature_65 : decode cX11_feature 65 = .ok (.iload_n 2, 1) := by decide +kernel
theorem dX11_feature_66 : decode cX11_feature 66 = .ok (.invokevirtual 199, 3) := by decide +kernel
theorem dX11_feature_69 : decode cX11_feature 69 = .ok (.ireturn, 1) := by decide +kernel
set_option maxRecDepth 20000 in
theorem ggX11_rule_X11_in : GoodIn wsX11_rule wsX11_in := goodIn_r _ [12] (by decide +kernel) (by decide +kernel)
set_option maxRecDepth 20000 in
theorem gX11_rule_X11_in : GoodIn wsX11_rule (va_wsS RX11 117 yX11_in wsX11_in) := goodIn_app (goodIn_of _ (by decide +kernel)) ggX11_rule_X11_in
theorem dX11_rule_0 : decode cX11_rule 0 = .ok (.iload_n 1, 1) := by decide +kernel
theorem dX11_rule_1 : decode cX11_rule 1 = .ok (.iconst 0, 1) := by decide +kernel
theorem dX11_rule_2 : decode cX11_rule 2 = .ok (.iconst 4, 1) := by decide +kernel
theorem dX11_rule_3 : decode cX11_rule 3 = .ok (.invokestatic 117, 3) := by decide +kernel
theorem dX11_rule_6 : decode cX11_rule 6 = .ok (.ifCond .eq 54, 3) := by decide +kernel
theorem dX11_rule_9 : decode cX11_rule 9 = .ok (.iload_n 2, 1) := by decide +kernel
theorem dX11_rule_10 : decode cX11_rule 10 = .ok (.iconst 0, 1) := by decide +kernel
theorem dX11_rule_11 : decode cX11_rule 11 = .ok (.iconst 2, 1) := by decide +kernel
theorem dX11_rule_12 : decode cX11_rule 12 = .ok (.invokestatic 117, 3) := by decide +kernel
theorem dX11_rule_15 : decode cX11_rule 15 = .ok (.ifCond .eq 45, 3) := by decide +kernel
theorem dX11_rule_18 : decode cX11_rule 18 = .ok (.iload_n 3, 1) := by decide +kernel
theorem dX11_rule_19 : decode cX11_rule 19 = .ok (.iconst 0, 1) := by decide +kernel
theorem dX11_rule_20 : decode cX11_rule 20 = .ok (.ldc 121, 2) := by decide +kernel
theorem dX11_rule_22 : decode cX11_rule 22 = .ok (.invokestatic 117, 3) := by decide +kernel
theorem dX11_rule_25 : decode cX11_rule 25 = .ok (.ifCond .eq 35, 3) := by decide +kernel
theorem dX11_rule_28 : decode cX11_rule 28 = .ok (.iload 4, 2) := by decide +kernel
theorem dX11_rule_30 : decode cX11_rule 30 = .ok (.iload_n 3, 1) := by decide +kernel
theorem dX11_rule_31 : decode cX11_rule 31 = .ok (.ldc 121, 2) := by decide +kernel
theorem dX11_rule_33 : decode cX11_rule 33 = .ok (.invokestatic 117, 3) := by decide +kernel
theorem dX11_rule_36 : decode cX11_rule 36 = .ok (.ifCond .eq 24, 3) := by decide +kernel
theorem dX11_rule_39 : decode cX11_rule 39 = .ok (.iload 5, 2) := by decide +kernel
theorem dX11_rule_41 : decode cX11_rule 41 = .ok (.bipush (-9), 2) := by decide +kernel
theorem dX11_rule_43 : decode cX11_rule 43 = .ok (.bipush 9, 2) := by decide +kernel
theorem dX11_rule_45 : decode cX11_rule 45 = .ok (.invokestatic 117, 3) := by decide +kernel
theorem dX11_rule_48 : decode cX11_rule 48 = .ok (.ifCond .eq 12, 3) := by decide +kernel
theorem dX11_rule_51 : decode cX11_rule 51 = .ok (.iload 5, 2) := by decide +kernel
theorem dX11_rule_53 : decode cX11_rule 53 = .ok (.ifCond .eq 7, 3) := by decide +kernel
theorem dX11_rule_56 : decode cX11_rule 56 = .ok (.iconst 1, 1) := by decide +kernel
theorem dX11_rule_57 : decode cX11_rule 57 = .ok (.goto 4, 3) := by decide +kernel
theorem dX11_rule_60 : decode cX11_rule 60 = .ok (.iconst 0, 1) := by decide +kernel
theorem dX11_rule_61 : decode cX11_rule 61 = .ok (.istore 6, 2) := by decide +kernel
theorem dX11_rule_63 : decode cX11_rule 63 = .ok (.aload_n 0, 1) := by decide +kernel
theorem dX11_rule_64 : decode cX11_rule 64 = .ok (.iload 6, 2) := by decide +kernel
theorem dX11_rule_66 : decode cX11_rule 66 = .ok (.ifCond .ne 7, 3) := by decide +kernel
theorem dX11_rule_69 : decode cX11_rule 69 = .ok (.iconst 1, 1) := by decide +kernel
theorem dX11_rule_70 : decode cX11_rule 70 = .ok (.goto 17, 3) := by decide +kernel
theorem dX11_rule_73 : decode cX11_rule 73 = .ok (.aload_n 0, 1) := by decide +kernel
theorem dX11_rule_74 : decode cX11_rule 74 = .ok (.getfield 202, 3) := by decide +kernel
theorem dX11_rule_77 : decode cX11_rule 77 = .ok (.bipush 8, 2) := by decide +kernel
theorem dX11_rule_79 : decode cX11_rule 79 = .ok (.if_icmp .ne 7, 3) := by decide +kernel
theorem dX11_rule_82 : decode cX11_rule 82 = .ok (.iconst 2, 1) := by decide +kernel
theorem dX11_rule_83 : decode cX11_rule 83 = .ok (.goto 4, 3) := by decide +kernel
theorem dX11_rule_86 : decode cX11_rule 86 = .ok (.iconst 0, 1) := by decide +kernel
theorem dX11_rule_87 : decode cX11_rule 87 = .ok (.putfield 110, 3) := by decide +kernel
theorem dX11_rule_90 : decode cX11_rule 90 = .ok (.aload_n 0, 1) := by decide +kernel
theorem dX11_rule_91 : decode cX11_rule 91 = .ok (.getfield 110, 3) := by decide +kernel
theorem dX11_rule_94 : decode cX11_rule 94 = .ok (.ifCond .le 5, 3) := by decide +kernel
theorem dX11_rule_97 : decode cX11_rule 97 = .ok (.iconst 0, 1) := by decide +kernel
theorem dX11_rule_98 : decode cX11_rule 98 = .ok (.ireturn, 1) := by decide +kernel
theorem dX11_rule_99 : decode cX11_rule 99 = .ok (.aload_n 0, 1) := by decide +kernel
theorem dX11_rule_100 : decode cX11_rule 100 = .ok (.getfield 68, 3) := by decide +kernel
theorem dX11_rule_103 : decode cX11_rule 103 = .ok (.aload_n 0, 1) := by decide +kernel
theorem dX11_rule_104 : decode cX11_rule 104 = .ok (.getfield 202, 3) := by decide +kernel
theorem dX11_rule_107 : decode cX11_rule 107 = .ok (.iload_n 1, 1) := by decide +kernel
theorem dX11_rule_108 : decode cX11_rule 108 = .ok (.iastore, 1) := by decide +kernel
theorem dX11_rule_109 : decode cX11_rule 109 = .ok (.aload_n 0, 1) := by decide +kernel
theorem dX11_rule_110 : decode cX11_rule 110 = .ok (.getfield 71, 3) := by decide +kernel
theorem dX11_rule_113 : decode cX11_rule 113 = .ok (.aload_n 0, 1) := by decide +kernel
theorem dX11_rule_114 : decode cX11_rule 114 = .ok (.getfield 202, 3) := by decide +kernel
theorem dX11_rule_117 : decode cX11_rule 117 = .ok (.iload_n 2, 1) := by decide +kernel
theorem dX11_rule_118 : decode cX11_rule 118 = .ok (.iastore, 1) := by decide +kernel
theorem dX11_rule_119 : decode cX11_rule 119 = .ok (.aload_n 0, 1) := by decide +kernel
theorem dX11_rule_120 : decode cX11_rule 120 = .ok (.getfield 74, 3) := by decide +kernel
theorem dX11_rule_123 : decode cX11_rule 123 = .ok (.aload_n 0, 1) := by decide +kernel
theorem dX11_rule_124 : decode cX11_rule 124 = .ok (.getfield 202, 3) := by decide +kernel
theorem dX11_rule_127 : decode cX11_rule 127 = .ok (.iload_n 3, 1) := by decide +kernel
theorem dX11_rule_128 : decode cX11_rule 128 = .ok (.iastore, 1) := by decide +kernel
theorem dX11_rule_129 : decode cX11_rule 129 = .ok (.aload_n 0, 1) := by decide +kernel
theorem dX11_rule_130 : decode cX11_rule 130 = .ok (.getfield 77, 3) := by decide +kernel
theorem dX11_rule_133 : decode cX11_rule 133 = .ok (.aload_n 0, 1) := by decide +kernel
theorem dX11_rule_134 : decode cX11_rule 134 = .ok (.getfield 202, 3) := by decide +kernel
theorem dX11_rule_137 : decode cX11_rule 137 = .ok (.iload 4, 2) := by decide +kernel
theorem dX11_rule_139 : decode cX11_rule 139 = .ok (.iastore, 1) := by decide +kernel
theorem dX11_rule_140 : decode cX11_rule 140 = .ok (.aload_n 0, 1) := by decide +kernel
theorem dX11_rule_141 : decode cX11_rule 141 = .ok (.getfield 80, 3) := by decide +kernel
theorem dX11_rule_144 : decode cX11_rule 144 = .ok (.aload_n 0, 1) := by decide +kernel
theorem dX11_rule_145 : decode cX11_rule 145 = .ok (.getfield 202, 3) := by decide +kernel
theorem dX11_rule_148 : decode cX11_rule 148 = .ok (.iload 5, 2) := by decide +kernel
theorem dX11_rule_150 : decode cX11_rule 150 = .ok (.iastore, 1) := by decide +kernel
theorem dX11_rule_151 : decode cX11_rule 151 = .ok (.aload_n 0, 1) := by decide +kernel
theorem dX11_rule_152 : decode cX11_rule 152 = .ok (.dup, 1) := by decide +kernel
theorem dX11_rule_153 : decode cX11_rule 153 = .ok (.getfield 202, 3) := by decide +kernel
theorem dX11_rule_156 : decode cX11_rule 156 = .ok (.iconst 1, 1) := by decide +kernel
theorem dX11_rule_157 : decode cX11_rule 157 = .ok (.iadd, 1) := by decide +kernel
theorem dX11_rule_158 : decode cX11_rule 158 = .ok (.putfield 202, 3) := by decide +kernel
theorem dX11_rule_161 : decode cX11_rule 161 = .ok (.aload_n 0, 1) := by decide +kernel
theorem dX11_rule_162 : decode cX11_rule 162 = .ok (.getfield 202, 3) := by decide +kernel
theorem dX11_rule_165 : decode cX11_rule 165 = .ok (.iconst 1, 1) := by decide +kernel
theorem dX11_rule_166 : decode cX11_rule 166 = .ok (.isub, 1) := by decide +kernel
theorem dX11_rule_167 : decode cX11_rule 167 = .ok (.ireturn, 1) := by decide +kernel
set_option maxRecDepth 20000 in
theorem ggX11_withdraw_X11_in : GoodIn wsX11_withdraw wsX11_in := goodIn_r _ [7] (by decide +kernel) (by decide +kernel)
set_option maxRecDepth 20000 in
theorem gX11_withdraw_X11_in : GoodIn wsX11_withdraw (va_wsS RX11 117 yX11_in wsX11_in) := goodIn_app (goodIn_of _ (by decide +kernel)) ggX11_withdraw_X11_in
theorem dX11_withdraw_0 : decode cX11_withdraw 0 = .ok (.aload_n 0, 1) := by decide +kernel
theorem dX11_withdraw_1 : decode cX11_withdraw 1 = .ok (.iload_n 1, 1) := by decide +kernel
theorem dX11_withdraw_2 : decode cX11_withdraw 2 = .ok (.iconst 0, 1) := by decide +kernel
theorem dX11_withdraw_3 : decode cX11_withdraw 3 = .ok (.aload_n 0, 1) := by decide +kernel
theorem dX11_withdraw_4 : decode cX11_withdraw 4 = .ok (.getfield 202, 3) := by decide +kernel
theorem dX11_withdraw_7 : decode cX11_withdraw 7 = .ok (.iconst 1, 1) := by decide +kernel
theorem dX11_withdraw_8 : decode cX11_withdraw 8 = .ok (.isub, 1) := by decide +kernel
theorem dX11_withdraw_9 : decode cX11_withdraw 9 = .ok (.invokestatic 117, 3) := by decide +kernel
theorem dX11_withdraw_12 : decode cX11_withdraw 12 = .ok (.ifCond .eq 7, 3) := by decide +kernel
theorem dX11_withdraw_15 : decode cX11_withdraw 15 = .ok (.iconst 0, 1) := by decide +kernel
theorem dX11_withdraw_16 : decode cX11_withdraw 16 = .ok (.goto 4, 3) := by decide +kernel
theorem dX11_withdraw_19 : decode cX11_withdraw 19 = .ok (.iconst 1, 1) := by decide +kernel
theorem dX11_withdraw_20 : decode cX11_withdraw 20 = .ok (.putfield 110, 3) := by decide +kernel
theorem dX11_withdraw_23 : decode cX11_withdraw 23 = .ok (.aload_n 0, 1) := by decide +kernel
theorem dX11_withdraw_24 : decode cX11_withdraw 24 = .ok (.getfield 110, 3) := by decide +kernel
theorem dX11_withdraw_27 : decode cX11_withdraw 27 = .ok (.ifCond .le 5, 3) := by decide +kernel
theorem dX11_withdraw_30 : decode cX11_withdraw 30 = .ok (.iconst 0, 1) := by decide +kernel
theorem dX11_withdraw_31 : decode cX11_withdraw 31 = .ok (.ireturn, 1) := by decide +kernel
theorem dX11_withdraw_32 : decode cX11_withdraw 32 = .ok (.aload_n 0, 1) := by decide +kernel
theorem dX11_withdraw_33 : decode cX11_withdraw 33 = .ok (.getfield 83, 3) := by decide +kernel
theorem dX11_withdraw_36 : decode cX11_withdraw 36 = .ok (.iload_n 1, 1) := by decide +kernel
theorem dX11_withdraw_37 : decode cX11_withdraw 37 = .ok (.baload, 1) := by decide +kernel
theorem dX11_withdraw_38 : decode cX11_withdraw 38 = .ok (.istore_n 3, 1) := by decide +kernel
theorem dX11_withdraw_39 : decode cX11_withdraw 39 = .ok (.aload_n 0, 1) := by decide +kernel
theorem dX11_withdraw_40 : decode cX11_withdraw 40 = .ok (.getfield 83, 3) := by decide +kernel
theorem dX11_withdraw_43 : decode cX11_withdraw 43 = .ok (.iload_n 1, 1) := by decide +kernel
theorem dX11_withdraw_44 : decode cX11_withdraw 44 = .ok (.iload_n 2, 1) := by decide +kernel
theorem dX11_withdraw_45 : decode cX11_withdraw 45 = .ok (.bastore, 1) := by decide +kernel
theorem dX11_withdraw_46 : decode cX11_withdraw 46 = .ok (.iload_n 3, 1) := by decide +kernel
theorem dX11_withdraw_47 : decode cX11_withdraw 47 = .ok (.ireturn, 1) := by decide +kernel
set_option maxRecDepth 20000 in
theorem ggX11_votesFor_X11_featureOf : GoodIn wsX11_votesFor wsX11_featureOf := goodIn_r _ [12, 13, 14, 15, 16, 17, 18, 11, 19, 20, 21, 22, 23, 24, 25, 29, 30, 31, 32, 33, 34, 35, 36, 37, 38, 39, 40, 41, 42, 43, 44, 45, 46, 47, 48, 49, 50, 51, 52, 53, 54, 55, 56, 57, 58, 59, 60, 61, 62, 63, 64, 65, 66, 67, 68, 69, 70] (by decide +kernel) (by decide +kernel)
set_option maxRecDepth 20000 in
theorem gX11_votesFor_X11_featureOf : GoodIn wsX11_votesFor (wsV RX11 199 RX11 yX11_featureOf wsX11_featureOf) := goodIn_app (goodIn_of _ (by decide +kernel)) ggX11_votesFor_X11_featureOf
set_option maxRecDepth 20000 in
theorem ggX11_votesFor_X11_in : GoodIn wsX11_votesFor wsX11_in := goodIn_r _ [28] (by decide +kernel) (by decide +kernel)
set_option maxRecDepth 20000 in
theorem gX11_votesFor_X11_in : GoodIn wsX11_votesFor (va_wsS RX11 117 yX11_in wsX11_in) := goodIn_app (goodIn_of _ (by decide +kernel)) ggX11_votesFor_X11_in
theorem dX11_votesFor_0 : decode cX11_votesFor 0 = .ok (.iconst 0, 1) := by decide +kernel
theorem dX11_votesFor_1 : decode cX11_votesFor 1 = .ok (.istore_n 3, 1) := by decide +kernel
theorem dX11_votesFor_2 : decode cX11_votesFor 2 = .ok (.iconst 0, 1) := by decide +kernel
theorem dX11_votesFor_3 : decode cX11_votesFor 3 = .ok (.istore 4, 2) := by decide +kernel
theorem dX11_votesFor_5 : decode cX11_votesFor 5 = .ok (.iload 4, 2) := by decide +kernel
theorem dX11_votesFor_7 : decode cX11_votesFor 7 = .ok (.aload_n 0, 1) := by decide +kernel
theorem dX11_votesFor_8 : decode cX11_votesFor 8 = .ok (.getfield 202, 3) := by decide +kernel
theorem dX11_votesFor_11 : decode cX11_votesFor 11 = .ok (.if_icmp .ge 88, 3) := by decide +kernel
theorem dX11_votesFor_14 : decode cX11_votesFor 14 = .ok (.aload_n 0, 1) := by decide +kernel
theorem dX11_votesFor_15 : decode cX11_votesFor 15 = .ok (.getfield 68, 3) := by decide +kernel
theorem dX11_votesFor_18 : decode cX11_votesFor 18 = .ok (.iload 4, 2) := by decide +kernel
theorem dX11_votesFor_20 : decode cX11_votesFor 20 = .ok (.iaload, 1) := by decide +kernel
theorem dX11_votesFor_21 : decode cX11_votesFor 21 = .ok (.iload_n 2, 1) := by decide +kernel
theorem dX11_votesFor_22 : decode cX11_votesFor 22 = .ok (.if_icmp .ne 49, 3) := by decide +kernel
theorem dX11_votesFor_25 : decode cX11_votesFor 25 = .ok (.aload_n 0, 1) := by decide +kernel
theorem dX11_votesFor_26 : decode cX11_votesFor 26 = .ok (.getfield 83, 3) := by decide +kernel
theorem dX11_votesFor_29 : decode cX11_votesFor 29 = .ok (.iload 4, 2) := by decide +kernel
theorem dX11_votesFor_31 : decode cX11_votesFor 31 = .ok (.baload, 1) := by decide +kernel
theorem dX11_votesFor_32 : decode cX11_votesFor 32 = .ok (.ifCond .ne 39, 3) := by decide +kernel
theorem dX11_votesFor_35 : decode cX11_votesFor 35 = .ok (.aload_n 0, 1) := by decide +kernel
theorem dX11_votesFor_36 : decode cX11_votesFor 36 = .ok (.iload_n 1, 1) := by decide +kernel
theorem dX11_votesFor_37 : decode cX11_votesFor 37 = .ok (.aload_n 0, 1) := by decide +kernel
theorem dX11_votesFor_38 : decode cX11_votesFor 38 = .ok (.getfield 71, 3) := by decide +kernel
theorem dX11_votesFor_41 : decode cX11_votesFor 41 = .ok (.iload 4, 2) := by decide +kernel
theorem dX11_votesFor_43 : decode cX11_votesFor 43 = .ok (.iaload, 1) := by decide +kernel
theorem dX11_votesFor_44 : decode cX11_votesFor 44 = .ok (.invokevirtual 199, 3) := by decide +kernel
theorem dX11_votesFor_47 : decode cX11_votesFor 47 = .ok (.aload_n 0, 1) := by decide +kernel
theorem dX11_votesFor_48 : decode cX11_votesFor 48 = .ok (.getfield 74, 3) := by decide +kernel
theorem dX11_votesFor_51 : decode cX11_votesFor 51 = .ok (.iload 4, 2) := by decide +kernel
theorem dX11_votesFor_53 : decode cX11_votesFor 53 = .ok (.iaload, 1) := by decide +kernel
theorem dX11_votesFor_54 : decode cX11_votesFor 54 = .ok (.aload_n 0, 1) := by decide +kernel
theorem dX11_votesFor_55 : decode cX11_votesFor 55 = .ok (.getfield 77, 3) := by decide +kernel
theorem dX11_votesFor_58 : decode cX11_votesFor 58 = .ok (.iload 4, 2) := by decide +kernel
theorem dX11_votesFor_60 : decode cX11_votesFor 60 = .ok (.iaload, 1) := by decide +kernel
theorem dX11_votesFor_61 : decode cX11_votesFor 61 = .ok (.invokestatic 117, 3) := by decide +kernel
theorem dX11_votesFor_64 : decode cX11_votesFor 64 = .ok (.ifCond .eq 7, 3) := by decide +kernel
theorem dX11_votesFor_67 : decode cX11_votesFor 67 = .ok (.iconst 1, 1) := by decide +kernel
theorem dX11_votesFor_68 : decode cX11_votesFor 68 = .ok (.goto 4, 3) := by decide +kernel
theorem dX11_votesFor_71 : decode cX11_votesFor 71 = .ok (.iconst 0, 1) := by decide +kernel
theorem dX11_votesFor_72 : decode cX11_votesFor 72 = .ok (.istore 5, 2) := by decide +kernel
theorem dX11_votesFor_74 : decode cX11_votesFor 74 = .ok (.iload_n 3, 1) := by decide +kernel
theorem dX11_votesFor_75 : decode cX11_votesFor 75 = .ok (.iload 5, 2) := by decide +kernel
theorem dX11_votesFor_77 : decode cX11_votesFor 77 = .ok (.ifCond .eq 13, 3) := by decide +kernel
theorem dX11_votesFor_80 : decode cX11_votesFor 80 = .ok (.aload_n 0, 1) := by decide +kernel
theorem dX11_votesFor_81 : decode cX11_votesFor 81 = .ok (.getfield 80, 3) := by decide +kernel
theorem dX11_votesFor_84 : decode cX11_votesFor 84 = .ok (.iload 4, 2) := by decide +kernel
theorem dX11_votesFor_86 : decode cX11_votesFor 86 = .ok (.iaload, 1) := by decide +kernel
theorem dX11_votesFor_87 : decode cX11_votesFor 87 = .ok (.goto 4, 3) := by decide +kernel
theorem dX11_votesFor_90 : decode cX11_votesFor 90 = .ok (.iconst 0, 1) := by decide +kernel
theorem dX11_votesFor_91 : decode cX11_votesFor 91 = .ok (.iadd, 1) := by decide +kernel
theorem dX11_votesFor_92 : decode cX11_votesFor 92 = .ok (.istore_n 3, 1) := by decide +kernel
theorem dX11_votesFor_93 : decode cX11_votesFor 93 = .ok (.iinc 4 1, 3) := by decide +kernel
theorem dX11_votesFor_96 : decode cX11_votesFor 96 = .ok (.goto (-91), 3) := by decide +kernel
theorem dX11_votesFor_99 : decode cX11_votesFor 99 = .ok (.iload_n 3, 1) := by decide +kernel
theorem dX11_votesFor_100 : decode cX11_votesFor 100 = .ok (.ireturn, 1) := by decide +kernel
set_option maxRecDepth 20000 in
theorem ggX11_votes_X11_isStar : GoodIn wsX11_votes wsX11_isStar := goodIn_r _ [7, 8, 9, 10, 6, 11, 82, 83, 84, 85, 86, 87, 88, 89, 90, 91, 92, 93, 94, 95, 96, 97, 98, 99, 100, 101, 102, 103, 104, 105, 106, 107, 108, 109, 110, 111, 112, 113, 114, 115, 116, 117, 118, 119, 120, 121, 122, 123] (by decide +kernel) (by decide +kernel)
set_option maxRecDepth 20000 in
theorem gX11_votes_X11_isStar : GoodIn wsX11_votes (wsV RX11 129 RX11 yX11_isStar wsX11_isStar) := goodIn_app (goodIn_of _ (by decide +kernel)) ggX11_votes_X11_isStar
set_option maxRecDepth 20000 in
theorem ggX11_votes_X11_in : GoodIn wsX11_votes wsX11_in := goodIn_r _ [11] (by decide +kernel) (by decide +kernel)
set_option maxRecDepth 20000 in
theorem gX11_votes_X11_in : GoodIn wsX11_votes (va_wsS RX11 117 yX11_in wsX11_in) := goodIn_app (goodIn_of _ (by decide +kernel)) ggX11_votes_X11_in
set_option maxRecDepth 20000 in
theorem ggX11_votes_X11_hasFeatures : GoodIn wsX11_votes wsX11_hasFeatures := goodIn_r _ [15, 16, 17, 18, 19, 6, 20, 21, 1, 22, 23, 24, 25, 26, 27, 28, 29, 30, 31, 32, 33, 34, 35, 36, 37, 38, 39, 40, 41, 42, 43, 44, 45, 46, 47, 48, 49, 50, 51, 52, 53, 54, 55, 56, 57, 58, 59, 60, 61, 62, 8, 63, 82, 83, 84, 85, 86, 87, 88, 89, 90, 91, 92, 93, 94, 95, 96, 97, 98, 99, 100, 101, 102, 103, 104, 105, 106, 107, 108, 109, 110, 111, 112, 113, 114, 115, 116, 117, 118, 119, 120, 121, 122, 123] (by decide +kernel) (by decide +kernel)
set_option maxRecDepth 20000 in
theorem gX11_votes_X11_hasFeatures : GoodIn wsX11_votes (wsV RX11 196 RX11 yX11_hasFeatures wsX11_hasFeatures) := goodIn_app (goodIn_of _ (by decide +kernel)) ggX11_votes_X11_hasFeatures
set_option maxRecDepth 20000 in
theorem ggX11_votes_X11_votesFor : GoodIn wsX11_votes wsX11_votesFor := goodIn_r _ [67, 68, 69, 70, 71, 72, 73, 74, 75, 76, 77, 6, 78, 16, 24, 25, 59, 60, 61, 62, 8, 1, 63, 79, 80, 81, 9, 10, 11, 82, 83, 84, 85, 86, 87, 88, 89, 90, 91, 92, 93, 94, 95, 96, 97, 98, 99, 100, 101, 102, 103, 104, 105, 106, 107, 108, 109, 110, 111, 112, 113, 114, 115, 116, 117, 118, 119, 120, 121, 122, 123] (by decide +kernel) (by decide +kernel)
set_option maxRecDepth 20000 in
theorem gX11_votes_X11_votesFor : GoodIn wsX11_votes (wsV RX11 205 RX11 yX11_votesFor wsX11_votesFor) := goodIn_app (goodIn_of _ (by decide +kernel)) ggX11_votes_X11_votesFor
theorem dX11_votes_0 : decode cX11_votes 0 = .ok (.aload_n 0, 1) := by decide +kernel
theorem dX11_votes_1 : decode cX11_votes 1 = .ok (.aload_n 0, 1) := by decide +kernel
theorem dX11_votes_2 : decode cX11_votes 2 = .ok (.iload_n 1, 1) := by decide +kernel
theorem dX11_votes_3 : decode cX11_votes 3 = .ok (.invokevirtual 129, 3) := by decide +kernel
theorem dX11_votes_6 : decode cX11_votes 6 = .ok (.ifCond .ne 7, 3) := by decide +kernel
theorem dX11_votes_9 : decode cX11_votes 9 = .ok (.iconst 1, 1) := by decide +kernel
theorem dX11_votes_10 : decode cX11_votes 10 = .ok (.goto 34, 3) := by decide +kernel
theorem dX11_votes_13 : decode cX11_votes 13 = .ok (.iload_n 2, 1) := by decide +kernel
theorem dX11_votes_14 : decode cX11_votes 14 = .ok (.iconst 0, 1) := by decide +kernel
theorem dX11_votes_15 : decode cX11_votes 15 = .ok (.iconst 4, 1) := by decide +kernel
theorem dX11_votes_16 : decode cX11_votes 16 = .ok (.invokestatic 117, 3) := by decide +kernel
theorem dX11_votes_19 : decode cX11_votes 19 = .ok (.ifCond .ne 7, 3) := by decide +kernel
theorem dX11_votes_22 : decode cX11_votes 22 = .ok (.iconst 2, 1) := by decide +kernel
theorem dX11_votes_23 : decode cX11_votes 23 = .ok (.goto 21, 3) := by decide +kernel
theorem dX11_votes_26 : decode cX11_votes 26 = .ok (.aload_n 0, 1) := by decide +kernel
theorem dX11_votes_27 : decode cX11_votes 27 = .ok (.aload_n 0, 1) := by decide +kernel
theorem dX11_votes_28 : decode cX11_votes 28 = .ok (.getfield 16, 3) := by decide +kernel
theorem dX11_votes_31 : decode cX11_votes 31 = .ok (.iload_n 1, 1) := by decide +kernel
theorem dX11_votes_32 : decode cX11_votes 32 = .ok (.iaload, 1) := by decide +kernel
theorem dX11_votes_33 : decode cX11_votes 33 = .ok (.invokevirtual 196, 3) := by decide +kernel
theorem dX11_votes_36 : decode cX11_votes 36 = .ok (.ifCond .ne 7, 3) := by decide +kernel
theorem dX11_votes_39 : decode cX11_votes 39 = .ok (.iconst 3, 1) := by decide +kernel
theorem dX11_votes_40 : decode cX11_votes 40 = .ok (.goto 4, 3) := by decide +kernel
theorem dX11_votes_43 : decode cX11_votes 43 = .ok (.iconst 0, 1) := by decide +kernel
theorem dX11_votes_44 : decode cX11_votes 44 = .ok (.putfield 110, 3) := by decide +kernel
theorem dX11_votes_47 : decode cX11_votes 47 = .ok (.aload_n 0, 1) := by decide +kernel
theorem dX11_votes_48 : decode cX11_votes 48 = .ok (.getfield 110, 3) := by decide +kernel
theorem dX11_votes_51 : decode cX11_votes 51 = .ok (.ifCond .le 7, 3) := by decide +kernel
theorem dX11_votes_54 : decode cX11_votes 54 = .ok (.iconst 0, 1) := by decide +kernel
theorem dX11_votes_55 : decode cX11_votes 55 = .ok (.goto 14, 3) := by decide +kernel
theorem dX11_votes_58 : decode cX11_votes 58 = .ok (.aload_n 0, 1) := by decide +kernel
theorem dX11_votes_59 : decode cX11_votes 59 = .ok (.aload_n 0, 1) := by decide +kernel
theorem dX11_votes_60 : decode cX11_votes 60 = .ok (.getfield 16, 3) := by decide +kernel
theorem dX11_votes_63 : decode cX11_votes 63 = .ok (.iload_n 1, 1) := by decide +kernel
theorem dX11_votes_64 : decode cX11_votes 64 = .ok (.iaload, 1) := by decide +kernel
theorem dX11_votes_65 : decode cX11_votes 65 = .ok (.iload_n 2, 1) := by decide +kernel
theorem dX11_votes_66 : decode cX11_votes 66 = .ok (.invokevirtual 205, 3) := by decide +kernel
theorem dX11_votes_69 : decode cX11_votes 69 = .ok (.ireturn, 1) := by decide +kernel
set_option maxRecDepth 20000 in
theorem ggX11_kind_X11_isStar : GoodIn wsX11_kind wsX11_isStar := goodIn_r _ [7, 8, 9, 10, 6, 11, 82, 83, 84, 85, 86, 87, 88, 89, 90, 91, 92, 93, 94, 95, 96, 97, 98, 99, 100, 101, 102, 103, 104, 105, 106, 107, 108, 109, 110, 111, 112, 113, 114, 115, 116, 117, 118, 119, 120, 121, 122, 123] (by decide +kernel) (by decide +kernel)
set_option maxRecDepth 20000 in
theorem gX11_kind_X11_isStar : GoodIn wsX11_kind (wsV RX11 129 RX11 yX11_isStar wsX11_isStar) := goodIn_app (goodIn_of _ (by decide +kernel)) ggX11_kind_X11_isStar
set_option maxRecDepth 20000 in
theorem ggX11_kind_X11_hasFeatures : GoodIn wsX11_kind wsX11_hasFeatures := goodIn_r _ [15, 16, 17, 18, 19, 6, 20, 21, 1, 22, 23, 24, 25, 26, 27, 28, 29, 30, 31, 32, 33, 34, 35, 36, 37, 38, 39, 40, 41, 42, 43, 44, 45, 46, 47, 48, 49, 50, 51, 52, 53, 54, 55, 56, 57, 58, 59, 60, 61, 62, 8, 63, 82, 83, 84, 85, 86, 87, 88, 89, 90, 91, 92, 93, 94, 95, 96, 97, 98, 99, 100, 101, 102, 103, 104, 105, 106, 107, 108, 109, 110, 111, 112, 113, 114, 115, 116, 117, 118, 119, 120, 121, 122, 123] (by decide +kernel) (by decide +kernel)
set_option maxRecDepth 20000 in
theorem gX11_kind_X11_hasFeatures : GoodIn wsX11_kind (wsV RX11 196 RX11 yX11_hasFeatures wsX11_hasFeatures) := goodIn_app (goodIn_of _ (by decide +kernel)) ggX11_kind_X11_hasFeatures
set_option maxRecDepth 20000 in
theorem ggX11_kind_X11_votesFor : GoodIn wsX11_kind wsX11_votesFor := goodIn_r _ [67, 68, 69, 70, 71, 72, 73, 74, 75, 76, 77, 6, 78, 16, 24, 25, 59, 60, 61, 62, 8, 1, 63, 79, 80, 81, 9, 10, 11, 82, 83, 84, 85, 86, 87, 88, 89, 90, 91, 92, 93, 94, 95, 96, 97, 98, 99, 100, 101, 102, 103, 104, 105, 106, 107, 108, 109, 110, 111, 112, 113, 114, 115, 116, 117, 118, 119, 120, 121, 122, 123] (by decide +kernel) (by decide +kernel)
set_option maxRecDepth 20000 in
theorem gX11_kind_X11_votesFor : GoodIn wsX11_kind (wsV RX11 205 RX11 yX11_votesFor wsX11_votesFor) := goodIn_app (goodIn_of _ (by decide +kernel)) ggX11_kind_X11_votesFor
theorem dX11_kind_0 : decode cX11_kind 0 = .ok (.aload_n 0, 1) := by decide +kernel
theorem dX11_kind_1 : decode cX11_kind 1 = .ok (.aload_n 0, 1) := by decide +kernel
theorem dX11_kind_2 : decode cX11_kind 2 = .ok (.iload_n 1, 1) := by decide +kernel
theorem dX11_kind_3 : decode cX11_kind 3 = .ok (.invokevirtual 129, 3) := by decide +kernel
theorem dX11_kind_6 : decode cX11_kind 6 = .ok (.ifCond .ne 7, 3) := by decide +kernel
theorem dX11_kind_9 : decode cX11_kind 9 = .ok (.iconst 1, 1) := by decide +kernel
theorem dX11_kind_10 : decode cX11_kind 10 = .ok (.goto 21, 3) := by decide +kernel
theorem dX11_kind_13 : decode cX11_kind 13 = .ok (.aload_n 0, 1) := by decide +kernel
theorem dX11_kind_14 : decode cX11_kind 14 = .ok (.aload_n 0, 1) := by decide +kernel
theorem dX11_kind_15 : decode cX11_kind 15 = .ok (.getfield 16, 3) := by decide +kernel
theorem dX11_kind_18 : decode cX11_kind 18 = .ok (.iload_n 1, 1) := by decide +kernel
theorem dX11_kind_19 : decode cX11_kind 19 = .ok (.iaload, 1) := by decide +kernel
theorem dX11_kind_20 : decode cX11_kind 20 = .ok (.invokevirtual 196, 3) := by decide +kernel
theorem dX11_kind_23 : decode cX11_kind 23 = .ok (.ifCond .ne 7, 3) := by decide +kernel
theorem dX11_kind_26 : decode cX11_kind 26 = .ok (.iconst 2, 1) := by decide +kernel
theorem dX11_kind_27 : decode cX11_kind 27 = .ok (.goto 4, 3) := by decide +kernel
theorem dX11_kind_30 : decode cX11_kind 30 = .ok (.iconst 0, 1) := by decide +kernel
theorem dX11_kind_31 : decode cX11_kind 31 = .ok (.putfield 110, 3) := by decide +kernel
theorem dX11_kind_34 : decode cX11_kind 34 = .ok (.iconst (-1), 1) := by decide +kernel
theorem dX11_kind_35 : decode cX11_kind 35 = .ok (.istore_n 2, 1) := by decide +kernel
theorem dX11_kind_36 : decode cX11_kind 36 = .ok (.iconst 0, 1) := by decide +kernel
theorem dX11_kind_37 : decode cX11_kind 37 = .ok (.istore_n 3, 1) := by decide +kernel
theorem dX11_kind_38 : decode cX11_kind 38 = .ok (.iconst 0, 1) := by decide +kernel
theorem dX11_kind_39 : decode cX11_kind 39 = .ok (.istore 4, 2) := by decide +kernel
theorem dX11_kind_41 : decode cX11_kind 41 = .ok (.iload 4, 2) := by decide +kernel
theorem dX11_kind_43 : decode cX11_kind 43 = .ok (.iconst 5, 1) := by decide +kernel
theorem dX11_kind_44 : decode cX11_kind 44 = .ok (.if_icmp .ge 56, 3) := by decide +kernel
theorem dX11_kind_47 : decode cX11_kind 47 = .ok (.aload_n 0, 1) := by decide +kernel
theorem dX11_kind_48 : decode cX11_kind 48 = .ok (.getfield 110, 3) := by decide +kernel
theorem dX11_kind_51 : decode cX11_kind 51 = .ok (.ifCond .ne 49, 3) := by decide +kernel
theorem dX11_kind_54 : decode cX11_kind 54 = .ok (.aload_n 0, 1) := by decide +kernel
theorem dX11_kind_55 : decode cX11_kind 55 = .ok (.aload_n 0, 1) := by decide +kernel
theorem dX11_kind_56 : decode cX11_kind 56 = .ok (.getfield 16, 3) := by decide +kernel
theorem dX11_kind_59 : decode cX11_kind 59 = .ok (.iload_n 1, 1) := by decide +kernel
theorem dX11_kind_60 : decode cX11_kind 60 = .ok (.iaload, 1) := by decide +kernel
theorem dX11_kind_61 : decode cX11_kind 61 = .ok (.iload 4, 2) := by decide +kernel
theorem dX11_kind_63 : decode cX11_kind 63 = .ok (.invokevirtual 205, 3) := by decide +kernel
theorem dX11_kind_66 : decode cX11_kind 66 = .ok (.istore 5, 2) := by decide +kernel
theorem dX11_kind_68 : decode cX11_kind 68 = .ok (.iload 5, 2) := by decide +kernel
theorem dX11_kind_70 : decode cX11_kind 70 = .ok (.iload_n 3, 1) := by decide +kernel
theorem dX11_kind_71 : decode cX11_kind 71 = .ok (.if_icmp .le 8, 3) := by decide +kernel
theorem dX11_kind_74 : decode cX11_kind 74 = .ok (.iload 4, 2) := by decide +kernel
theorem dX11_kind_76 : decode cX11_kind 76 = .ok (.goto 4, 3) := by decide +kernel
theorem dX11_kind_79 : decode cX11_kind 79 = .ok (.iload_n 2, 1) := by decide +kernel
theorem dX11_kind_80 : decode cX11_kind 80 = .ok (.istore_n 2, 1) := by decide +kernel
theorem dX11_kind_81 : decode cX11_kind 81 = .ok (.iload 5, 2) := by decide +kernel
theorem dX11_kind_83 : decode cX11_kind 83 = .ok (.iload_n 3, 1) := by decide +kernel
theorem dX11_kind_84 : decode cX11_kind 84 = .ok (.if_icmp .le 8, 3) := by decide +kernel
theorem dX11_kind_87 : decode cX11_kind 87 = .ok (.iload 5, 2) := by decide +kernel
theorem dX11_kind_89 : decode cX11_kind 89 = .ok (.goto 4, 3) := by decide +kernel
theorem dX11_kind_92 : decode cX11_kind 92 = .ok (.iload_n 3, 1) := by decide +kernel
theorem dX11_kind_93 : decode cX11_kind 93 = .ok (.istore_n 3, 1) := by decide +kernel
theorem dX11_kind_94 : decode cX11_kind 94 = .ok (.iinc 4 1, 3) := by decide +kernel
theorem dX11_kind_97 : decode cX11_kind 97 = .ok (.goto (-56), 3) := by decide +kernel
theorem dX11_kind_100 : decode cX11_kind 100 = .ok (.aload_n 0, 1) := by decide +kernel
theorem dX11_kind_101 : decode cX11_kind 101 = .ok (.getfield 110, 3) := by decide +kernel
theorem dX11_kind_104 : decode cX11_kind 104 = .ok (.ifCond .ne 7, 3) := by decide +kernel
theorem dX11_kind_107 : decode cX11_kind 107 = .ok (.iload_n 2, 1) := by decide +kernel
theorem dX11_kind_108 : decode cX11_kind 108 = .ok (.goto 4, 3) := by decide +kernel
theorem dX11_kind_111 : decode cX11_kind 111 = .ok (.iconst 0, 1) := by decide +kernel
theorem dX11_kind_112 : decode cX11_kind 112 = .ok (.ireturn, 1) := by decide +kernel
set_option maxRecDepth 20000 in
theorem ggX11_lays_X11_late : GoodIn wsX11_lays wsX11_late := goodIn_r _ [11, 12, 13, 14, 15, 16, 17, 18, 19, 20, 21, 22, 23, 24, 25, 26, 27, 28, 29, 30, 31, 32, 33, 34, 35, 36, 37, 38, 39, 40, 41, 42, 43, 44, 45, 46, 47, 48, 49, 50, 51, 52, 53, 54] (by decide +kernel) (by decide +kernel)
set_option maxRecDepth 20000 in
theorem gX11_lays_X11_late : GoodIn wsX11_lays (wsV RX11 151 RX11 yX11_late wsX11_late) := goodIn_app (goodIn_of _ (by decide +kernel)) ggX11_lays_X11_late
theorem dX11_lays_0 : decode cX11_lays 0 = .ok (.aload_n 0, 1) := by decide +kernel
theorem dX11_lays_1 : decode cX11_lays 1 = .ok (.iconst 0, 1) := by decide +kernel
theorem dX11_lays_2 : decode cX11_lays 2 = .ok (.putfield 208, 3) := by decide +kernel
theorem dX11_lays_5 : decode cX11_lays 5 = .ok (.iconst 0, 1) := by decide +kernel
theorem dX11_lays_6 : decode cX11_lays 6 = .ok (.istore_n 2, 1) := by decide +kernel
theorem dX11_lays_7 : decode cX11_lays 7 = .ok (.iload_n 2, 1) := by decide +kernel
theorem dX11_lays_8 : decode cX11_lays 8 = .ok (.aload_n 0, 1) := by decide +kernel
theorem dX11_lays_9 : decode cX11_lays 9 = .ok (.getfield 137, 3) := by decide +kernel
theorem dX11_lays_12 : decode cX11_lays 12 = .ok (.if_icmp .ge 112, 3) := by decide +kernel
theorem dX11_lays_15 : decode cX11_lays 15 = .ok (.aload_n 0, 1) := by decide +kernel
theorem dX11_lays_16 : decode cX11_lays 16 = .ok (.getfield 16, 3) := by decide +kernel
theorem dX11_lays_19 : decode cX11_lays 19 = .ok (.aload_n 0, 1) := by decide +kernel
theorem dX11_lays_20 : decode cX11_lays 20 = .ok (.getfield 86, 3) := by decide +kernel
theorem dX11_lays_23 : decode cX11_lays 23 = .ok (.iload_n 2, 1) := by decide +kernel
theorem dX11_lays_24 : decode cX11_lays 24 = .ok (.iaload, 1) := by decide +kernel
theorem dX11_lays_25 : decode cX11_lays 25 = .ok (.iaload, 1) := by decide +kernel
theorem dX11_lays_26 : decode cX11_lays 26 = .ok (.iload_n 1, 1) := by decide +kernel
theorem dX11_lays_27 : decode cX11_lays 27 = .ok (.if_icmp .ne 91, 3) := by decide +kernel
theorem dX11_lays_30 : decode cX11_lays 30 = .ok (.aload_n 0, 1) := by decide +kernel
theorem dX11_lays_31 : decode cX11_lays 31 = .ok (.getfield 89, 3) := by decide +kernel
theorem dX11_lays_34 : decode cX11_lays 34 = .ok (.iload_n 2, 1) := by decide +kernel
theorem dX11_lays_35 : decode cX11_lays 35 = .ok (.iaload, 1) := by decide +kernel
theorem dX11_lays_36 : decode cX11_lays 36 = .ok (.aload_n 0, 1) := by decide +kernel
theorem dX11_lays_37 : decode cX11_lays 37 = .ok (.aload_n 0, 1) := by decide +kernel
theorem dX11_lays_38 : decode cX11_lays 38 = .ok (.getfield 89, 3) := by decide +kernel
theorem dX11_lays_41 : decode cX11_lays 41 = .ok (.iload_n 2, 1) := by decide +kernel
theorem dX11_lays_42 : decode cX11_lays 42 = .ok (.iaload, 1) := by decide +kernel
theorem dX11_lays_43 : decode cX11_lays 43 = .ok (.aload_n 0, 1) := by decide +kernel
theorem dX11_lays_44 : decode cX11_lays 44 = .ok (.getfield 86, 3) := by decide +kernel
theorem dX11_lays_47 : decode cX11_lays 47 = .ok (.iload_n 2, 1) := by decide +kernel
theorem dX11_lays_48 : decode cX11_lays 48 = .ok (.iaload, 1) := by decide +kernel
theorem dX11_lays_49 : decode cX11_lays 49 = .ok (.invokevirtual 151, 3) := by decide +kernel
theorem dX11_lays_52 : decode cX11_lays 52 = .ok (.iadd, 1) := by decide +kernel
theorem dX11_lays_53 : decode cX11_lays 53 = .ok (.istore_n 3, 1) := by decide +kernel
theorem dX11_lays_54 : decode cX11_lays 54 = .ok (.aload_n 0, 1) := by decide +kernel
theorem dX11_lays_55 : decode cX11_lays 55 = .ok (.getfield 208, 3) := by decide +kernel
theorem dX11_lays_58 : decode cX11_lays 58 = .ok (.istore 4, 2) := by decide +kernel
theorem dX11_lays_60 : decode cX11_lays 60 = .ok (.iload 4, 2) := by decide +kernel
theorem dX11_lays_62 : decode cX11_lays 62 = .ok (.ifCond .le 38, 3) := by decide +kernel
theorem dX11_lays_65 : decode cX11_lays 65 = .ok (.aload_n 0, 1) := by decide +kernel
theorem dX11_lays_66 : decode cX11_lays 66 = .ok (.getfield 101, 3) := by decide +kernel
theorem dX11_lays_69 : decode cX11_lays 69 = .ok (.iload 4, 2) := by decide +kernel
theorem dX11_lays_71 : decode cX11_lays 71 = .ok (.iconst 1, 1) := by decide +kernel
theorem dX11_lays_72 : decode cX11_lays 72 = .ok (.isub, 1) := by decide +kernel
theorem dX11_lays_73 : decode cX11_lays 73 = .ok (.iaload, 1) := by decide +kernel
theorem dX11_lays_74 : decode cX11_lays 74 = .ok (.iload_n 3, 1) := by decide +kernel
theorem dX11_lays_75 : decode cX11_lays 75 = .ok (.if_icmp .le 25, 3) := by decide +kernel
theorem dX11_lays_78 : decode cX11_lays 78 = .ok (.aload_n 0, 1) := by decide +kernel
theorem dX11_lays_79 : decode cX11_lays 79 = .ok (.getfield 101, 3) := by decide +kernel
theorem dX11_lays_82 : decode cX11_lays 82 = .ok (.iload 4, 2) := by decide +kernel
theorem dX11_lays_84 : decode cX11_lays 84 = .ok (.aload_n 0, 1) := by decide +kernel
theorem dX11_lays_85 : decode cX11_lays 85 = .ok (.getfield 101, 3) := by decide +kernel
theorem dX11_lays_88 : decode cX11_lays 88 = .ok (.iload 4, 2) := by decide +kernel
theorem dX11_lays_90 : decode cX11_lays 90 = .ok (.iconst 1, 1) := by decide +kernel
theorem dX11_lays_91 : decode cX11_lays 91 = .ok (.isub, 1) := by decide +kernel
theorem dX11_lays_92 : decode cX11_lays 92 = .ok (.iaload, 1) := by decide +kernel
theorem dX11_lays_93 : decode cX11_lays 93 = .ok (.iastore, 1) := by decide +kernel
theorem dX11_lays_94 : decode cX11_lays 94 = .ok (.iinc 4 (-1), 3) := by decide +kernel
theorem dX11_lays_97 : decode cX11_lays 97 = .ok (.goto (-37), 3) := by decide +kernel
theorem dX11_lays_100 : decode cX11_lays 100 = .ok (.aload_n 0, 1) := by decide +kernel
theorem dX11_lays_101 : decode cX11_lays 101 = .ok (.getfield 101, 3) := by decide +kernel
theorem dX11_lays_104 : decode cX11_lays 104 = .ok (.iload 4, 2) := by decide +kernel
theorem dX11_lays_106 : decode cX11_lays 106 = .ok (.iload_n 3, 1) := by decide +kernel
theorem dX11_lays_107 : decode cX11_lays 107 = .ok (.iastore, 1) := by decide +kernel
theorem dX11_lays_108 : decode cX11_lays 108 = .ok (.aload_n 0, 1) := by decide +kernel
theorem dX11_lays_109 : decode cX11_lays 109 = .ok (.dup, 1) := by decide +kernel
theorem dX11_lays_110 : decode cX11_lays 110 = .ok (.getfield 208, 3) := by decide +kernel
theorem dX11_lays_113 : decode cX11_lays 113 = .ok (.iconst 1, 1) := by decide +kernel
theorem dX11_lays_114 : decode cX11_lays 114 = .ok (.iadd, 1) := by decide +kernel
theorem dX11_lays_115 : decode cX11_lays 115 = .ok (.putfield 208, 3) := by decide +kernel
theorem dX11_lays_118 : decode cX11_lays 118 = .ok (.iinc 2 1, 3) := by decide +kernel
theorem dX11_lays_121 : decode cX11_lays 121 = .ok (.goto (-114), 3) := by decide +kernel
theorem dX11_lays_124 : decode cX11_lays 124 = .ok (.return_, 1) := by decide +kernel
theorem dX11_cycleOf_0 : decode cX11_cycleOf 0 = .ok (.aload_n 0, 1) := by decide +kernel
theorem dX11_cycleOf_1 : decode cX11_cycleOf 1 = .ok (.getfield 101, 3) := by decide +kernel
theorem dX11_cycleOf_4 : decode cX11_cycleOf 4 = .ok (.iload_n 1, 1) := by decide +kernel
theorem dX11_cycleOf_5 : decode cX11_cycleOf 5 = .ok (.iaload, 1) := by decide +kernel
theorem dX11_cycleOf_6 : decode cX11_cycleOf 6 = .ok (.aload_n 0, 1) := by decide +kernel
theorem dX11_cycleOf_7 : decode cX11_cycleOf 7 = .ok (.getfield 101, 3) := by decide +kernel
theorem dX11_cycleOf_10 : decode cX11_cycleOf 10 = .ok (.iconst 0, 1) := by decide +kernel
theorem dX11_cycleOf_11 : decode cX11_cycleOf 11 = .ok (.iaload, 1) := by decide +kernel
theorem dX11_cycleOf_12 : decode cX11_cycleOf 12 = .ok (.isub, 1) := by decide +kernel
theorem dX11_cycleOf_13 : decode cX11_cycleOf 13 = .ok (.istore_n 3, 1) := by decide +kernel
theorem dX11_cycleOf_14 : decode cX11_cycleOf 14 = .ok (.iconst 2, 1) := by decide +kernel
theorem dX11_cycleOf_15 : decode cX11_cycleOf 15 = .ok (.iload_n 3, 1) := by decide +kernel
theorem dX11_cycleOf_16 : decode cX11_cycleOf 16 = .ok (.imul, 1) := by decide +kernel
theorem dX11_cycleOf_17 : decode cX11_cycleOf 17 = .ok (.iload_n 2, 1) := by decide +kernel
theorem dX11_cycleOf_18 : decode cX11_cycleOf 18 = .ok (.iadd, 1) := by decide +kernel
theorem dX11_cycleOf_19 : decode cX11_cycleOf 19 = .ok (.iconst 2, 1) := by decide +kernel
theorem dX11_cycleOf_20 : decode cX11_cycleOf 20 = .ok (.iload_n 2, 1) := by decide +kernel
theorem dX11_cycleOf_21 : decode cX11_cycleOf 21 = .ok (.imul, 1) := by decide +kernel
theorem dX11_cycleOf_22 : decode cX11_cycleOf 22 = .ok (.idiv, 1) := by decide +kernel
theorem dX11_cycleOf_23 : decode cX11_cycleOf 23 = .ok (.ireturn, 1) := by decide +kernel
set_option maxRecDepth 20000 in
theorem ggX11_offsetOf_X11_cycleOf : GoodIn wsX11_offsetOf wsX11_cycleOf := goodIn_r _ [6, 1, 7, 8, 9, 10, 11, 12, 13, 14, 15, 16, 17, 18, 19, 20, 21, 22, 23, 24, 25, 26, 27, 28, 29, 30, 31, 32, 33, 34, 35, 36, 37, 38, 39, 40, 41, 42, 43, 44, 45, 46, 47, 48] (by decide +kernel) (by decide +kernel)
set_option maxRecDepth 20000 in
theorem gX11_offsetOf_X11_cycleOf : GoodIn wsX11_offsetOf (wsV RX11 211 RX11 yX11_cycleOf wsX11_cycleOf) := goodIn_app (goodIn_of _ (by decide +kernel)) ggX11_offsetOf_X11_cycleOf
theorem dX11_offsetOf_0 : decode cX11_offsetOf 0 = .ok (.aload_n 0, 1) := by decide +kernel
theorem dX11_offsetOf_1 : decode cX11_offsetOf 1 = .ok (.getfield 101, 3) := by decide +kernel
theorem dX11_offsetOf_4 : decode cX11_offsetOf 4 = .ok (.iload_n 1, 1) := by decide +kernel
theorem dX11_offsetOf_5 : decode cX11_offsetOf 5 = .ok (.iaload, 1) := by decide +kernel
theorem dX11_offsetOf_6 : decode cX11_offsetOf 6 = .ok (.aload_n 0, 1) := by decide +kernel
theorem dX11_offsetOf_7 : decode cX11_offsetOf 7 = .ok (.getfield 101, 3) := by decide +kernel
theorem dX11_offsetOf_10 : decode cX11_offsetOf 10 = .ok (.iconst 0, 1) := by decide +kernel
theorem dX11_offsetOf_11 : decode cX11_offsetOf 11 = .ok (.iaload, 1) := by decide +kernel
theorem dX11_offsetOf_12 : decode cX11_offsetOf 12 = .ok (.isub, 1) := by decide +kernel
theorem dX11_offsetOf_13 : decode cX11_offsetOf 13 = .ok (.aload_n 0, 1) := by decide +kernel
theorem dX11_offsetOf_14 : decode cX11_offsetOf 14 = .ok (.iload_n 1, 1) := by decide +kernel
theorem dX11_offsetOf_15 : decode cX11_offsetOf 15 = .ok (.iload_n 2, 1) := by decide +kernel
theorem dX11_offsetOf_16 : decode cX11_offsetOf 16 = .ok (.invokevirtual 211, 3) := by decide +kernel
theorem dX11_offsetOf_19 : decode cX11_offsetOf 19 = .ok (.iload_n 2, 1) := by decide +kernel
theorem dX11_offsetOf_20 : decode cX11_offsetOf 20 = .ok (.imul, 1) := by decide +kernel
theorem dX11_offsetOf_21 : decode cX11_offsetOf 21 = .ok (.isub, 1) := by decide +kernel
theorem dX11_offsetOf_22 : decode cX11_offsetOf 22 = .ok (.ireturn, 1) := by decide +kernel
set_option maxRecDepth 20000 in
theorem ggX11_cycle_X11_isStar : GoodIn wsX11_cycle wsX11_isStar := goodIn_r _ [8, 9, 10, 11, 7, 12, 38, 39, 40, 41, 42, 43, 44, 45, 46, 47, 48, 49, 50, 51, 52, 53, 54, 55, 56, 57, 58, 59, 60, 61, 62, 63, 64, 65, 66, 67, 68, 69, 70, 71, 72, 73, 74, 75, 76, 77, 78, 79] (by decide +kernel) (by decide +kernel)
set_option maxRecDepth 20000 in
theorem gX11_cycle_X11_isStar : GoodIn wsX11_cycle (wsV RX11 129 RX11 yX11_isStar wsX11_isStar) := goodIn_app (goodIn_of _ (by decide +kernel)) ggX11_cycle_X11_isStar
set_option maxRecDepth 20000 in
theorem ggX11_cycle_X11_lays : GoodIn wsX11_cycle wsX11_lays := goodIn_r _ [16, 3, 17, 2, 18, 19, 20, 21, 22, 23, 7, 24, 25, 38, 39, 40, 41, 42, 43, 44, 45, 46, 47, 48, 49, 50, 51, 52, 53, 54, 55, 56, 57, 58, 59, 60, 61, 62, 63, 64, 65, 66, 67, 68, 69, 70, 71, 72, 73, 74, 75, 76, 77, 78, 79] (by decide +kernel) (by decide +kernel)
set_option maxRecDepth 20000 in
theorem gX11_cycle_X11_lays : GoodIn wsX11_cycle (wsV RX11 214 RX11 yX11_lays wsX11_lays) := goodIn_app (goodIn_of _ (by decide +kernel)) ggX11_cycle_X11_lays
set_option maxRecDepth 20000 in
theorem ggX11_cycle_X11_in : GoodIn wsX11_cycle wsX11_in := goodIn_r _ [12] (by decide +kernel) (by decide +kernel)
set_option maxRecDepth 20000 in
theorem gX11_cycle_X11_in : GoodIn wsX11_cycle (va_wsS RX11 117 yX11_in wsX11_in) := goodIn_app (goodIn_of _ (by decide +kernel)) ggX11_cycle_X11_in
set_option maxRecDepth 20000 in
theorem ggX11_cycle_X11_isPeriod : GoodIn wsX11_cycle wsX11_isPeriod := goodIn_r _ [28, 29, 10, 11, 7, 12] (by decide +kernel) (by decide +kernel)
set_option maxRecDepth 20000 in
theorem gX11_cycle_X11_isPeriod : GoodIn wsX11_cycle (va_wsS RX11 173 yX11_isPeriod wsX11_isPeriod) := goodIn_app (goodIn_of _ (by decide +kernel)) ggX11_cycle_X11_isPeriod
set_option maxRecDepth 20000 in
theorem ggX11_cycle_X11_offsetOf : GoodIn wsX11_cycle wsX11_offsetOf := goodIn_r _ [33, 20, 34, 35, 36, 7, 37, 38, 39, 40, 41, 42, 43, 44, 45, 46, 47, 48, 49, 50, 51, 52, 53, 54, 55, 56, 57, 58, 59, 60, 61, 62, 63, 64, 65, 66, 67, 68, 69, 70, 71, 72, 73, 74, 75, 76, 77, 78, 79] (by decide +kernel) (by decide +kernel)
set_option maxRecDepth 20000 in
theorem gX11_cycle_X11_offsetOf : GoodIn wsX11_cycle (wsV RX11 217 RX11 yX11_offsetOf wsX11_offsetOf) := goodIn_app (goodIn_of _ (by decide +kernel)) ggX11_cycle_X11_offsetOf
set_option maxRecDepth 20000 in
theorem ggX11_cycle_X11_cycleOf : GoodIn wsX11_cycle wsX11_cycleOf := goodIn_r _ [37, 20, 38, 39, 40, 41, 42, 43, 44, 45, 46, 47, 48, 49, 50, 51, 52, 53, 54, 55, 56, 57, 58, 59, 60, 61, 62, 63, 64, 65, 66, 67, 68, 69, 70, 71, 72, 73, 74, 75, 76, 77, 78, 79] (by decide +kernel) (by decide +kernel)
set_option maxRecDepth 20000 in
theorem gX11_cycle_X11_cycleOf : GoodIn wsX11_cycle (wsV RX11 211 RX11 yX11_cycleOf wsX11_cycleOf) := goodIn_app (goodIn_of _ (by decide +kernel)) ggX11_cycle_X11_cycleOf
theorem dX11_cycle_0 : decode cX11_cycle 0 = .ok (.aload_n 0, 1) := by decide +kernel
theorem dX11_cycle_1 : decode cX11_cycle 1 = .ok (.aload_n 0, 1) := by decide +kernel
theorem dX11_cycle_2 : decode cX11_cycle 2 = .ok (.iload_n 1, 1) := by decide +kernel
theorem dX11_cycle_3 : decode cX11_cycle 3 = .ok (.invokevirtual 129, 3) := by decide +kernel
theorem dX11_cycle_6 : decode cX11_cycle 6 = .ok (.ifCond .eq 7, 3) := by decide +kernel
theorem dX11_cycle_9 : decode cX11_cycle 9 = .ok (.iconst 0, 1) := by decide +kernel
theorem dX11_cycle_10 : decode cX11_cycle 10 = .ok (.goto 4, 3) := by decide +kernel
theorem dX11_cycle_13 : decode cX11_cycle 13 = .ok (.iconst 1, 1) := by decide +kernel
theorem dX11_cycle_14 : decode cX11_cycle 14 = .ok (.putfield 110, 3) := by decide +kernel
theorem dX11_cycle_17 : decode cX11_cycle 17 = .ok (.aload_n 0, 1) := by decide +kernel
theorem dX11_cycle_18 : decode cX11_cycle 18 = .ok (.getfield 110, 3) := by decide +kernel
theorem dX11_cycle_21 : decode cX11_cycle 21 = .ok (.ifCond .ne 47, 3) := by decide +kernel
theorem dX11_cycle_24 : decode cX11_cycle 24 = .ok (.aload_n 0, 1) := by decide +kernel
theorem dX11_cycle_25 : decode cX11_cycle 25 = .ok (.aload_n 0, 1) := by decide +kernel
theorem dX11_cycle_26 : decode cX11_cycle 26 = .ok (.getfield 16, 3) := by decide +kernel
theorem dX11_cycle_29 : decode cX11_cycle 29 = .ok (.iload_n 1, 1) := by decide +kernel
theorem dX11_cycle_30 : decode cX11_cycle 30 = .ok (.iaload, 1) := by decide +kernel
theorem dX11_cycle_31 : decode cX11_cycle 31 = .ok (.invokevirtual 214, 3) := by decide +kernel
theorem dX11_cycle_34 : decode cX11_cycle 34 = .ok (.aload_n 0, 1) := by decide +kernel
theorem dX11_cycle_35 : decode cX11_cycle 35 = .ok (.iload_n 3, 1) := by decide +kernel
theorem dX11_cycle_36 : decode cX11_cycle 36 = .ok (.iconst 0, 1) := by decide +kernel
theorem dX11_cycle_37 : decode cX11_cycle 37 = .ok (.aload_n 0, 1) := by decide +kernel
theorem dX11_cycle_38 : decode cX11_cycle 38 = .ok (.getfield 208, 3) := by decide +kernel
theorem dX11_cycle_41 : decode cX11_cycle 41 = .ok (.iconst 1, 1) := by decide +kernel
theorem dX11_cycle_42 : decode cX11_cycle 42 = .ok (.isub, 1) := by decide +kernel
theorem dX11_cycle_43 : decode cX11_cycle 43 = .ok (.invokestatic 117, 3) := by decide +kernel
theorem dX11_cycle_46 : decode cX11_cycle 46 = .ok (.ifCond .ne 7, 3) := by decide +kernel
theorem dX11_cycle_49 : decode cX11_cycle 49 = .ok (.iconst 1, 1) := by decide +kernel
theorem dX11_cycle_50 : decode cX11_cycle 50 = .ok (.goto 15, 3) := by decide +kernel
theorem dX11_cycle_53 : decode cX11_cycle 53 = .ok (.iload_n 2, 1) := by decide +kernel
theorem dX11_cycle_54 : decode cX11_cycle 54 = .ok (.invokestatic 173, 3) := by decide +kernel
theorem dX11_cycle_57 : decode cX11_cycle 57 = .ok (.ifCond .ne 7, 3) := by decide +kernel
theorem dX11_cycle_60 : decode cX11_cycle 60 = .ok (.iconst 2, 1) := by decide +kernel
theorem dX11_cycle_61 : decode cX11_cycle 61 = .ok (.goto 4, 3) := by decide +kernel
theorem dX11_cycle_64 : decode cX11_cycle 64 = .ok (.iconst 0, 1) := by decide +kernel
theorem dX11_cycle_65 : decode cX11_cycle 65 = .ok (.putfield 110, 3) := by decide +kernel
theorem dX11_cycle_68 : decode cX11_cycle 68 = .ok (.aload_n 0, 1) := by decide +kernel
theorem dX11_cycle_69 : decode cX11_cycle 69 = .ok (.getfield 110, 3) := by decide +kernel
theorem dX11_cycle_72 : decode cX11_cycle 72 = .ok (.ifCond .le 7, 3) := by decide +kernel
theorem dX11_cycle_75 : decode cX11_cycle 75 = .ok (.iconst 0, 1) := by decide +kernel
theorem dX11_cycle_76 : decode cX11_cycle 76 = .ok (.goto 23, 3) := by decide +kernel
theorem dX11_cycle_79 : decode cX11_cycle 79 = .ok (.iload 4, 2) := by decide +kernel
theorem dX11_cycle_81 : decode cX11_cycle 81 = .ok (.ifCond .eq 12, 3) := by decide +kernel
theorem dX11_cycle_84 : decode cX11_cycle 84 = .ok (.aload_n 0, 1) := by decide +kernel
theorem dX11_cycle_85 : decode cX11_cycle 85 = .ok (.iload_n 3, 1) := by decide +kernel
theorem dX11_cycle_86 : decode cX11_cycle 86 = .ok (.iload_n 2, 1) := by decide +kernel
theorem dX11_cycle_87 : decode cX11_cycle 87 = .ok (.invokevirtual 217, 3) := by decide +kernel
theorem dX11_cycle_90 : decode cX11_cycle 90 = .ok (.goto 9, 3) := by decide +kernel
theorem dX11_cycle_93 : decode cX11_cycle 93 = .ok (.aload_n 0, 1) := by decide +kernel
theorem dX11_cycle_94 : decode cX11_cycle 94 = .ok (.iload_n 3, 1) := by decide +kernel
theorem dX11_cycle_95 : decode cX11_cycle 95 = .ok (.iload_n 2, 1) := by decide +kernel
theorem dX11_cycle_96 : decode cX11_cycle 96 = .ok (.invokevirtual 211, 3) := by decide +kernel
theorem dX11_cycle_99 : decode cX11_cycle 99 = .ok (.ireturn, 1) := by decide +kernel
set_option maxRecDepth 20000 in
theorem ggX11_lost_X11_isStar : GoodIn wsX11_lost wsX11_isStar := goodIn_r _ [8, 9, 10, 11, 7, 12, 38, 39, 40, 41, 42, 43, 44, 45, 46, 47, 48, 49, 50, 51, 52, 53, 54, 55, 56, 57, 58, 59, 60, 61, 62, 63, 64, 65, 66, 67, 68, 69, 70, 71, 72, 73, 74, 75, 76, 77, 78, 79] (by decide +kernel) (by decide +kernel)
set_option maxRecDepth 20000 in
theorem gX11_lost_X11_isStar : GoodIn wsX11_lost (wsV RX11 129 RX11 yX11_isStar wsX11_isStar) := goodIn_app (goodIn_of _ (by decide +kernel)) ggX11_lost_X11_isStar
set_option maxRecDepth 20000 in
theorem ggX11_lost_X11_isPeriod : GoodIn wsX11_lost wsX11_isPeriod := goodIn_r _ [15, 16, 10, 11, 7, 12] (by decide +kernel) (by decide +kernel)
set_option maxRecDepth 20000 in
theorem gX11_lost_X11_isPeriod : GoodIn wsX11_lost (va_wsS RX11 173 yX11_isPeriod wsX11_isPeriod) := goodIn_app (goodIn_of _ (by decide +kernel)) ggX11_lost_X11_isPeriod
set_option maxRecDepth 20000 in
theorem ggX11_lost_X11_lays : GoodIn wsX11_lost wsX11_lays := goodIn_r _ [20, 3, 21, 2, 22, 23, 24, 25, 26, 27, 7, 28, 29, 38, 39, 40, 41, 42, 43, 44, 45, 46, 47, 48, 49, 50, 51, 52, 53, 54, 55, 56, 57, 58, 59, 60, 61, 62, 63, 64, 65, 66, 67, 68, 69, 70, 71, 72, 73, 74, 75, 76, 77, 78, 79] (by decide +kernel) (by decide +kernel)
set_option maxRecDepth 20000 in
theorem gX11_lost_X11_lays : GoodIn wsX11_lost (wsV RX11 214 RX11 yX11_lays wsX11_lays) := goodIn_app (goodIn_of _ (by decide +kernel)) ggX11_lost_X11_lays
set_option maxRecDepth 20000 in
theorem ggX11_lost_X11_offsetOf : GoodIn wsX11_lost wsX11_offsetOf := goodIn_r _ [33, 24, 34, 35, 36, 7, 37, 38, 39, 40, 41, 42, 43, 44, 45, 46, 47, 48, 49, 50, 51, 52, 53, 54, 55, 56, 57, 58, 59, 60, 61, 62, 63, 64, 65, 66, 67, 68, 69, 70, 71, 72, 73, 74, 75, 76, 77, 78, 79] (by decide +kernel) (by decide +kernel)
set_option maxRecDepth 20000 in
theorem gX11_lost_X11_offsetOf : GoodIn wsX11_lost (wsV RX11 217 RX11 yX11_offsetOf wsX11_offsetOf) := goodIn_app (goodIn_of _ (by decide +kernel)) ggX11_lost_X11_offsetOf
theorem dX11_lost_0 : decode cX11_lost 0 = .ok (.aload_n 0, 1) := by decide +kernel
theorem dX11_lost_1 : decode cX11_lost 1 = .ok (.aload_n 0, 1) := by decide +kernel
theorem dX11_lost_2 : decode cX11_lost 2 = .ok (.iload_n 1, 1) := by decide +kernel
theorem dX11_lost_3 : decode cX11_lost 3 = .ok (.invokevirtual 129, 3) := by decide +kernel
theorem dX11_lost_6 : decode cX11_lost 6 = .ok (.ifCond .ne 7, 3) := by decide +kernel
theorem dX11_lost_9 : decode cX11_lost 9 = .ok (.iconst 1, 1) := by decide +kernel
theorem dX11_lost_10 : decode cX11_lost 10 = .ok (.goto 15, 3) := by decide +kernel
theorem dX11_lost_13 : decode cX11_lost 13 = .ok (.iload_n 2, 1) := by decide +kernel
theorem dX11_lost_14 : decode cX11_lost 14 = .ok (.invokestatic 173, 3) := by decide +kernel
theorem dX11_lost_17 : decode cX11_lost 17 = .ok (.ifCond .ne 7, 3) := by decide +kernel
theorem dX11_lost_20 : decode cX11_lost 20 = .ok (.iconst 2, 1) := by decide +kernel
theorem dX11_lost_21 : decode cX11_lost 21 = .ok (.goto 4, 3) := by decide +kernel
theorem dX11_lost_24 : decode cX11_lost 24 = .ok (.iconst 0, 1) := by decide +kernel
theorem dX11_lost_25 : decode cX11_lost 25 = .ok (.putfield 110, 3) := by decide +kernel
theorem dX11_lost_28 : decode cX11_lost 28 = .ok (.aload_n 0, 1) := by decide +kernel
theorem dX11_lost_29 : decode cX11_lost 29 = .ok (.getfield 110, 3) := by decide +kernel
theorem dX11_lost_32 : decode cX11_lost 32 = .ok (.ifCond .le 5, 3) := by decide +kernel
theorem dX11_lost_35 : decode cX11_lost 35 = .ok (.iconst 0, 1) := by decide +kernel
theorem dX11_lost_36 : decode cX11_lost 36 = .ok (.ireturn, 1) := by decide +kernel
theorem dX11_lost_37 : decode cX11_lost 37 = .ok (.aload_n 0, 1) := by decide +kernel
theorem dX11_lost_38 : decode cX11_lost 38 = .ok (.aload_n 0, 1) := by decide +kernel
theorem dX11_lost_39 : decode cX11_lost 39 = .ok (.getfield 16, 3) := by decide +kernel
theorem dX11_lost_42 : decode cX11_lost 42 = .ok (.iload_n 1, 1) := by decide +kernel
theorem dX11_lost_43 : decode cX11_lost 43 = .ok (.iaload, 1) := by decide +kernel
theorem dX11_lost_44 : decode cX11_lost 44 = .ok (.invokevirtual 214, 3) := by decide +kernel
theorem dX11_lost_47 : decode cX11_lost 47 = .ok (.iconst 0, 1) := by decide +kernel
theorem dX11_lost_48 : decode cX11_lost 48 = .ok (.istore_n 3, 1) := by decide +kernel
theorem dX11_lost_49 : decode cX11_lost 49 = .ok (.iconst 1, 1) := by decide +kernel
theorem dX11_lost_50 : decode cX11_lost 50 = .ok (.istore 4, 2) := by decide +kernel
theorem dX11_lost_52 : decode cX11_lost 52 = .ok (.iload 4, 2) := by decide +kernel
theorem dX11_lost_54 : decode cX11_lost 54 = .ok (.aload_n 0, 1) := by decide +kernel
theorem dX11_lost_55 : decode cX11_lost 55 = .ok (.getfield 208, 3) := by decide +kernel
theorem dX11_lost_58 : decode cX11_lost 58 = .ok (.if_icmp .ge 55, 3) := by decide +kernel
theorem dX11_lost_61 : decode cX11_lost 61 = .ok (.aload_n 0, 1) := by decide +kernel
theorem dX11_lost_62 : decode cX11_lost 62 = .ok (.iload 4, 2) := by decide +kernel
theorem dX11_lost_64 : decode cX11_lost 64 = .ok (.iload_n 2, 1) := by decide +kernel
theorem dX11_lost_65 : decode cX11_lost 65 = .ok (.invokevirtual 217, 3) := by decide +kernel
theorem dX11_lost_68 : decode cX11_lost 68 = .ok (.aload_n 0, 1) := by decide +kernel
theorem dX11_lost_69 : decode cX11_lost 69 = .ok (.iload 4, 2) := by decide +kernel
theorem dX11_lost_71 : decode cX11_lost 71 = .ok (.iconst 1, 1) := by decide +kernel
theorem dX11_lost_72 : decode cX11_lost 72 = .ok (.isub, 1) := by decide +kernel
theorem dX11_lost_73 : decode cX11_lost 73 = .ok (.iload_n 2, 1) := by decide +kernel
theorem dX11_lost_74 : decode cX11_lost 74 = .ok (.invokevirtual 217, 3) := by decide +kernel
theorem dX11_lost_77 : decode cX11_lost 77 = .ok (.isub, 1) := by decide +kernel
theorem dX11_lost_78 : decode cX11_lost 78 = .ok (.istore 5, 2) := by decide +kernel
theorem dX11_lost_80 : decode cX11_lost 80 = .ok (.iload_n 3, 1) := by decide +kernel
theorem dX11_lost_81 : decode cX11_lost 81 = .ok (.iconst 4, 1) := by decide +kernel
theorem dX11_lost_82 : decode cX11_lost 82 = .ok (.iload 5, 2) := by decide +kernel
theorem dX11_lost_84 : decode cX11_lost 84 = .ok (.ifCond .ge 9, 3) := by decide +kernel
theorem dX11_lost_87 : decode cX11_lost 87 = .ok (.iload 5, 2) := by decide +kernel
theorem dX11_lost_89 : decode cX11_lost 89 = .ok (.ineg, 1) := by decide +kernel
theorem dX11_lost_90 : decode cX11_lost 90 = .ok (.goto 5, 3) := by decide +kernel
theorem dX11_lost_93 : decode cX11_lost 93 = .ok (.iload 5, 2) := by decide +kernel
theorem dX11_lost_95 : decode cX11_lost 95 = .ok (.imul, 1) := by decide +kernel
theorem dX11_lost_96 : decode cX11_lost 96 = .ok (.iload_n 2, 1) := by decide +kernel
theorem dX11_lost_97 : decode cX11_lost 97 = .ok (.if_icmp .le 7, 3) := by decide +kernel
theorem dX11_lost_100 : decode cX11_lost 100 = .ok (.iconst 1, 1) := by decide +kernel
theorem dX11_lost_101 : decode cX11_lost 101 = .ok (.goto 4, 3) := by decide +kernel
theorem dX11_lost_104 : decode cX11_lost 104 = .ok (.iconst 0, 1) := by decide +kernel
theorem dX11_lost_105 : decode cX11_lost 105 = .ok (.iadd, 1) := by decide +kernel
theorem dX11_lost_106 : decode cX11_lost 106 = .ok (.istore_n 3, 1) := by decide +kernel
theorem dX11_lost_107 : decode cX11_lost 107 = .ok (.iinc 4 1, 3) := by decide +kernel
theorem dX11_lost_110 : decode cX11_lost 110 = .ok (.goto (-58), 3) := by decide +kernel
theorem dX11_lost_113 : decode cX11_lost 113 = .ok (.iload_n 3, 1) := by decide +kernel
theorem dX11_lost_114 : decode cX11_lost 114 = .ok (.ireturn, 1) := by decide +kernel
set_option maxRecDepth 20000 in
theorem ggX11_dust_X11_isStar : GoodIn wsX11_dust wsX11_isStar := goodIn_r _ [7, 8, 9, 10, 6, 11, 12, 13, 14, 15, 16, 17, 18, 19, 20, 21, 22, 23, 24, 25, 26, 27, 28, 29, 30, 31, 32, 33, 34, 35, 36, 37, 38, 39, 40, 41, 42, 43, 44, 45, 46, 47, 48, 49, 50, 51, 52, 53] (by decide +kernel) (by decide +kernel)
set_option maxRecDepth 20000 in
theorem gX11_dust_X11_isStar : GoodIn wsX11_dust (wsV RX11 129 RX11 yX11_isStar wsX11_isStar) := goodIn_app (goodIn_of _ (by decide +kernel)) ggX11_dust_X11_isStar
set_option maxRecDepth 20000 in
theorem ggX11_dust_X11_in : GoodIn wsX11_dust wsX11_in := goodIn_r _ [11] (by decide +kernel) (by decide +kernel)
set_option maxRecDepth 20000 in
theorem gX11_dust_X11_in : GoodIn wsX11_dust (va_wsS RX11 117 yX11_in wsX11_in) := goodIn_app (goodIn_of _ (by decide +kernel)) ggX11_dust_X11_in
theorem dX11_dust_0 : decode cX11_dust 0 = .ok (.aload_n 0, 1) := by decide +kernel
theorem dX11_dust_1 : decode cX11_dust 1 = .ok (.aload_n 0, 1) := by decide +kernel
theorem dX11_dust_2 : decode cX11_dust 2 = .ok (.iload_n 1, 1) := by decide +kernel
theorem dX11_dust_3 : decode cX11_dust 3 = .ok (.invokevirtual 129, 3) := by decide +kernel
theorem dX11_dust_6 : decode cX11_dust 6 = .ok (.ifCond .ne 7, 3) := by decide +kernel
theorem dX11_dust_9 : decode cX11_dust 9 = .ok (.iconst 1, 1) := by decide +kernel
theorem dX11_dust_10 : decode cX11_dust 10 = .ok (.goto 19, 3) := by decide +kernel
theorem dX11_dust_13 : decode cX11_dust 13 = .ok (.iload_n 2, 1) := by decide +kernel
theorem dX11_dust_14 : decode cX11_dust 14 = .ok (.iconst 0, 1) := by decide +kernel
theorem dX11_dust_15 : decode cX11_dust 15 = .ok (.sipush 500, 3) := by decide +kernel
theorem dX11_dust_18 : decode cX11_dust 18 = .ok (.invokestatic 117, 3) := by decide +kernel
theorem dX11_dust_21 : decode cX11_dust 21 = .ok (.ifCond .ne 7, 3) := by decide +kernel
theorem dX11_dust_24 : decode cX11_dust 24 = .ok (.iconst 2, 1) := by decide +kernel
theorem dX11_dust_25 : decode cX11_dust 25 = .ok (.goto 4, 3) := by decide +kernel
theorem dX11_dust_28 : decode cX11_dust 28 = .ok (.iconst 0, 1) := by decide +kernel
theorem dX11_dust_29 : decode cX11_dust 29 = .ok (.putfield 110, 3) := by decide +kernel
theorem dX11_dust_32 : decode cX11_dust 32 = .ok (.aload_n 0, 1) := by decide +kernel
theorem dX11_dust_33 : decode cX11_dust 33 = .ok (.getfield 110, 3) := by decide +kernel
theorem dX11_dust_36 : decode cX11_dust 36 = .ok (.ifCond .le 5, 3) := by decide +kernel
theorem dX11_dust_39 : decode cX11_dust 39 = .ok (.iconst 0, 1) := by decide +kernel
theorem dX11_dust_40 : decode cX11_dust 40 = .ok (.ireturn, 1) := by decide +kernel
theorem dX11_dust_41 : decode cX11_dust 41 = .ok (.aload_n 0, 1) := by decide +kernel
theorem dX11_dust_42 : decode cX11_dust 42 = .ok (.getfield 22, 3) := by decide +kernel
theorem dX11_dust_45 : decode cX11_dust 45 = .ok (.iload_n 1, 1) := by decide +kernel
theorem dX11_dust_46 : decode cX11_dust 46 = .ok (.iaload, 1) := by decide +kernel
theorem dX11_dust_47 : decode cX11_dust 47 = .ok (.istore_n 3, 1) := by decide +kernel
theorem dX11_dust_48 : decode cX11_dust 48 = .ok (.aload_n 0, 1) := by decide +kernel
theorem dX11_dust_49 : decode cX11_dust 49 = .ok (.getfield 22, 3) := by decide +kernel
theorem dX11_dust_52 : decode cX11_dust 52 = .ok (.iload_n 1, 1) := by decide +kernel
theorem dX11_dust_53 : decode cX11_dust 53 = .ok (.iload_n 2, 1) := by decide +kernel
theorem dX11_dust_54 : decode cX11_dust 54 = .ok (.iastore, 1) := by decide +kernel
theorem dX11_dust_55 : decode cX11_dust 55 = .ok (.iload_n 3, 1) := by decide +kernel
theorem dX11_dust_56 : decode cX11_dust 56 = .ok (.ireturn, 1) := by decide +kernel
set_option maxRecDepth 20000 in
theorem ggX11_zero_X11_in : GoodIn wsX11_zero wsX11_in := goodIn_r _ [6] (by decide +kernel) (by decide +kernel)
set_option maxRecDepth 20000 in
theorem gX11_zero_X11_in : GoodIn wsX11_zero (va_wsS RX11 117 yX11_in wsX11_in) := goodIn_app (goodIn_of _ (by decide +kernel)) ggX11_zero_X11_in
theorem dX11_zero_0 : decode cX11_zero 0 = .ok (.aload_n 0, 1) := by decide +kernel
theorem dX11_zero_1 : decode cX11_zero 1 = .ok (.iload_n 1, 1) := by decide +kernel
theorem dX11_zero_2 : decode cX11_zero 2 = .ok (.sipush (-1000), 3) := by decide +kernel
theorem dX11_zero_5 : decode cX11_zero 5 = .ok (.sipush 1000, 3) := by decide +kernel
theorem dX11_zero_8 : decode cX11_zero 8 = .ok (.invokestatic 117, 3) := by decide +kernel
theorem dX11_zero_11 : decode cX11_zero 11 = .ok (.ifCond .eq 7, 3) := by decide +kernel
theorem dX11_zero_14 : decode cX11_zero 14 = .ok (.iconst 0, 1) := by decide +kernel
theorem dX11_zero_15 : decode cX11_zero 15 = .ok (.goto 4, 3) := by decide +kernel
theorem dX11_zero_18 : decode cX11_zero 18 = .ok (.iconst 1, 1) := by decide +kernel
theorem dX11_zero_19 : decode cX11_zero 19 = .ok (.putfield 110, 3) := by decide +kernel
theorem dX11_zero_22 : decode cX11_zero 22 = .ok (.aload_n 0, 1) := by decide +kernel
theorem dX11_zero_23 : decode cX11_zero 23 = .ok (.getfield 110, 3) := by decide +kernel
theorem dX11_zero_26 : decode cX11_zero 26 = .ok (.ifCond .le 5, 3) := by decide +kernel
theorem dX11_zero_29 : decode cX11_zero 29 = .ok (.iconst 0, 1) := by decide +kernel
theorem dX11_zero_30 : decode cX11_zero 30 = .ok (.ireturn, 1) := by decide +kernel
theorem dX11_zero_31 : decode cX11_zero 31 = .ok (.aload_n 0, 1) := by decide +kernel
theorem dX11_zero_32 : decode cX11_zero 32 = .ok (.getfield 220, 3) := by decide +kernel
theorem dX11_zero_35 : decode cX11_zero 35 = .ok (.istore_n 2, 1) := by decide +kernel
theorem dX11_zero_36 : decode cX11_zero 36 = .ok (.aload_n 0, 1) := by decide +kernel
theorem dX11_zero_37 : decode cX11_zero 37 = .ok (.iload_n 1, 1) := by decide +kernel
theorem dX11_zero_38 : decode cX11_zero 38 = .ok (.putfield 220, 3) := by decide +kernel
theorem dX11_zero_41 : decode cX11_zero 41 = .ok (.iload_n 2, 1) := by decide +kernel
theorem dX11_zero_42 : decode cX11_zero 42 = .ok (.ireturn, 1) := by decide +kernel
set_option maxRecDepth 20000 in
theorem ggX11_meanOf_X11_part : GoodIn wsX11_meanOf wsX11_part := goodIn_r _ [6] (by decide +kernel) (by decide +kernel)
set_option maxRecDepth 20000 in
theorem gX11_meanOf_X11_part : GoodIn wsX11_meanOf (va_wsS RX11 144 yX11_part wsX11_part) := goodIn_app (goodIn_of _ (by decide +kernel)) ggX11_meanOf_X11_part
theorem dX11_meanOf_0 : decode cX11_meanOf 0 = .ok (.iconst 0, 1) := by decide +kernel
theorem dX11_meanOf_1 : decode cX11_meanOf 1 = .ok (.istore_n 1, 1) := by decide +kernel
theorem dX11_meanOf_2 : decode cX11_meanOf 2 = .ok (.iconst 0, 1) := by decide +kernel
theorem dX11_meanOf_3 : decode cX11_meanOf 3 = .ok (.istore_n 2, 1) := by decide +kernel
theorem dX11_meanOf_4 : decode cX11_meanOf 4 = .ok (.iload_n 2, 1) := by decide +kernel
theorem dX11_meanOf_5 : decode cX11_meanOf 5 = .ok (.aload_n 0, 1) := by decide +kernel
theorem dX11_meanOf_6 : decode cX11_meanOf 6 = .ok (.getfield 160, 3) := by decide +kernel
theorem dX11_meanOf_9 : decode cX11_meanOf 9 = .ok (.if_icmp .ge 18, 3) := by decide +kernel
theorem dX11_meanOf_12 : decode cX11_meanOf 12 = .ok (.iload_n 1, 1) := by decide +kernel
theorem dX11_meanOf_13 : decode cX11_meanOf 13 = .ok (.aload_n 0, 1) := by decide +kernel
theorem dX11_meanOf_14 : decode cX11_meanOf 14 = .ok (.getfield 92, 3) := by decide +kernel
theorem dX11_meanOf_17 : decode cX11_meanOf 17 = .ok (.iload_n 2, 1) := by decide +kernel
theorem dX11_meanOf_18 : decode cX11_meanOf 18 = .ok (.iaload, 1) := by decide +kernel
theorem dX11_meanOf_19 : decode cX11_meanOf 19 = .ok (.iadd, 1) := by decide +kernel
theorem dX11_meanOf_20 : decode cX11_meanOf 20 = .ok (.istore_n 1, 1) := by decide +kernel
theorem dX11_meanOf_21 : decode cX11_meanOf 21 = .ok (.iinc 2 1, 3) := by decide +kernel
theorem dX11_meanOf_24 : decode cX11_meanOf 24 = .ok (.goto (-20), 3) := by decide +kernel
theorem dX11_meanOf_27 : decode cX11_meanOf 27 = .ok (.iload_n 1, 1) := by decide +kernel
theorem dX11_meanOf_28 : decode cX11_meanOf 28 = .ok (.aload_n 0, 1) := by decide +kernel
theorem dX11_meanOf_29 : decode cX11_meanOf 29 = .ok (.getfield 160, 3) := by decide +kernel
theorem dX11_meanOf_32 : decode cX11_meanOf 32 = .ok (.invokestatic 144, 3) := by decide +kernel
theorem dX11_meanOf_35 : decode cX11_meanOf 35 = .ok (.ireturn, 1) := by decide +kernel
set_option maxRecDepth 20000 in
theorem ggX11_mean_X11_isStar : GoodIn wsX11_mean wsX11_isStar := goodIn_r _ [7, 8, 9, 10, 6, 11, 63, 64, 65, 66, 67, 68, 69, 70, 71, 72, 73, 74, 75, 76, 77, 78, 79, 80, 81, 82, 83, 84, 85, 86, 87, 88, 89, 90, 91, 92, 93, 94, 95, 96, 97, 98, 99, 100, 101, 102, 103, 104] (by decide +kernel) (by decide +kernel)
set_option maxRecDepth 20000 in
theorem gX11_mean_X11_isStar : GoodIn wsX11_mean (wsV RX11 129 RX11 yX11_isStar wsX11_isStar) := goodIn_app (goodIn_of _ (by decide +kernel)) ggX11_mean_X11_isStar
set_option maxRecDepth 20000 in
theorem ggX11_mean_X11_gathersOf : GoodIn wsX11_mean wsX11_gathersOf := goodIn_r _ [15, 16, 17, 18, 19, 6, 20, 2, 21, 22, 23, 24, 25, 26, 27, 28, 29, 30, 31, 32, 33, 34, 35, 36, 37, 38, 39, 40, 41, 42, 43, 44, 45, 46, 47, 48, 49, 50, 51, 52, 53, 54, 55, 56, 57, 58, 63, 64, 65, 66, 67, 68, 69, 70, 71, 72, 73, 74, 75, 76, 77, 78, 79, 80, 81, 82, 83, 84, 85, 86, 87, 88, 89, 90, 91, 92, 93, 94, 95, 96, 97, 98, 99, 100, 101, 102, 103, 104] (by decide +kernel) (by decide +kernel)
set_option maxRecDepth 20000 in
theorem gX11_mean_X11_gathersOf : GoodIn wsX11_mean (wsV RX11 176 RX11 yX11_gathersOf wsX11_gathersOf) := goodIn_app (goodIn_of _ (by decide +kernel)) ggX11_mean_X11_gathersOf
set_option maxRecDepth 20000 in
theorem ggX11_mean_X11_meanOf : GoodIn wsX11_mean wsX11_meanOf := goodIn_r _ [62, 2, 24, 45, 46, 6, 47, 63, 64, 65, 66, 67, 68, 69, 70, 71, 72, 73, 74, 75, 76, 77, 78, 79, 80, 81, 82, 83, 84, 85, 86, 87, 88, 89, 90, 91, 92, 93, 94, 95, 96, 97, 98, 99, 100, 101, 102, 103, 104] (by decide +kernel) (by decide +kernel)
set_option maxRecDepth 20000 in
theorem gX11_mean_X11_meanOf : GoodIn wsX11_mean (wsV RX11 223 RX11 yX11_meanOf wsX11_meanOf) := goodIn_app (goodIn_of _ (by decide +kernel)) ggX11_mean_X11_meanOf
theorem dX11_mean_0 : decode cX11_mean 0 = .ok (.aload_n 0, 1) := by decide +kernel
theorem dX11_mean_1 : decode cX11_mean 1 = .ok (.aload_n 0, 1) := by decide +kernel
theorem dX11_mean_2 : decode cX11_mean 2 = .ok (.iload_n 1, 1) := by decide +kernel
theorem dX11_mean_3 : decode cX11_mean 3 = .ok (.invokevirtual 129, 3) := by decide +kernel
theorem dX11_mean_6 : decode cX11_mean 6 = .ok (.ifCond .eq 7, 3) := by decide +kernel
theorem dX11_mean_9 : decode cX11_mean 9 = .ok (.iconst 0, 1) := by decide +kernel
theorem dX11_mean_10 : decode cX11_mean 10 = .ok (.goto 4, 3) := by decide +kernel
theorem dX11_mean_13 : decode cX11_mean 13 = .ok (.iconst 1, 1) := by decide +kernel
theorem dX11_mean_14 : decode cX11_mean 14 = .ok (.putfield 110, 3) := by decide +kernel
theorem dX11_mean_17 : decode cX11_mean 17 = .ok (.aload_n 0, 1) := by decide +kernel
theorem dX11_mean_18 : decode cX11_mean 18 = .ok (.getfield 110, 3) := by decide +kernel
theorem dX11_mean_21 : decode cX11_mean 21 = .ok (.ifCond .ne 24, 3) := by decide +kernel
theorem dX11_mean_24 : decode cX11_mean 24 = .ok (.aload_n 0, 1) := by decide +kernel
theorem dX11_mean_25 : decode cX11_mean 25 = .ok (.iload_n 1, 1) := by decide +kernel
theorem dX11_mean_26 : decode cX11_mean 26 = .ok (.invokevirtual 176, 3) := by decide +kernel
theorem dX11_mean_29 : decode cX11_mean 29 = .ok (.aload_n 0, 1) := by decide +kernel
theorem dX11_mean_30 : decode cX11_mean 30 = .ok (.aload_n 0, 1) := by decide +kernel
theorem dX11_mean_31 : decode cX11_mean 31 = .ok (.getfield 160, 3) := by decide +kernel
theorem dX11_mean_34 : decode cX11_mean 34 = .ok (.ifCond .ne 7, 3) := by decide +kernel
theorem dX11_mean_37 : decode cX11_mean 37 = .ok (.iconst 2, 1) := by decide +kernel
theorem dX11_mean_38 : decode cX11_mean 38 = .ok (.goto 4, 3) := by decide +kernel
theorem dX11_mean_41 : decode cX11_mean 41 = .ok (.iconst 0, 1) := by decide +kernel
theorem dX11_mean_42 : decode cX11_mean 42 = .ok (.putfield 110, 3) := by decide +kernel
theorem dX11_mean_45 : decode cX11_mean 45 = .ok (.aload_n 0, 1) := by decide +kernel
theorem dX11_mean_46 : decode cX11_mean 46 = .ok (.getfield 110, 3) := by decide +kernel
theorem dX11_mean_49 : decode cX11_mean 49 = .ok (.ifCond .le 7, 3) := by decide +kernel
theorem dX11_mean_52 : decode cX11_mean 52 = .ok (.iconst 0, 1) := by decide +kernel
theorem dX11_mean_53 : decode cX11_mean 53 = .ok (.goto 7, 3) := by decide +kernel
theorem dX11_mean_56 : decode cX11_mean 56 = .ok (.aload_n 0, 1) := by decide +kernel
theorem dX11_mean_57 : decode cX11_mean 57 = .ok (.invokevirtual 223, 3) := by decide +kernel
theorem dX11_mean_60 : decode cX11_mean 60 = .ok (.ireturn, 1) := by decide +kernel
set_option maxRecDepth 20000 in
theorem ggX11_modulusOf_X11_claimOf : GoodIn wsX11_modulusOf wsX11_claimOf := goodIn_r _ [7, 8, 9, 10, 20, 21, 22, 23, 24, 25, 26, 27, 28, 29, 30, 31, 32, 33, 34, 35, 36, 37, 38, 39, 40, 41, 42, 43, 44, 45, 46, 47, 48, 49, 50, 51, 52, 53, 54, 55, 56, 57, 58, 59, 60, 61] (by decide +kernel) (by decide +kernel)
set_option maxRecDepth 20000 in
theorem gX11_modulusOf_X11_claimOf : GoodIn wsX11_modulusOf (wsV RX11 193 RX11 yX11_claimOf wsX11_claimOf) := goodIn_app (goodIn_of _ (by decide +kernel)) ggX11_modulusOf_X11_claimOf
set_option maxRecDepth 20000 in
theorem ggX11_modulusOf_X11_meanOf : GoodIn wsX11_modulusOf wsX11_meanOf := goodIn_r _ [14, 15, 16, 17, 18, 6, 19, 20, 21, 22, 23, 24, 25, 26, 27, 28, 29, 30, 31, 32, 33, 34, 35, 36, 37, 38, 39, 40, 41, 42, 43, 44, 45, 46, 47, 48, 49, 50, 51, 52, 53, 54, 55, 56, 57, 58, 59, 60, 61] (by decide +kernel) (by decide +kernel)
set_option maxRecDepth 20000 in
theorem gX11_modulusOf_X11_meanOf : GoodIn wsX11_modulusOf (wsV RX11 223 RX11 yX11_meanOf wsX11_meanOf) := goodIn_app (goodIn_of _ (by decide +kernel)) ggX11_modulusOf_X11_meanOf
theorem dX11_modulusOf_0 : decode cX11_modulusOf 0 = .ok (.iconst 0, 1) := by decide +kernel
theorem dX11_modulusOf_1 : decode cX11_modulusOf 1 = .ok (.istore_n 2, 1) := by decide +kernel
theorem dX11_modulusOf_2 : decode cX11_modulusOf 2 = .ok (.aload_n 0, 1) := by decide +kernel
theorem dX11_modulusOf_3 : decode cX11_modulusOf 3 = .ok (.iload_n 1, 1) := by decide +kernel
theorem dX11_modulusOf_4 : decode cX11_modulusOf 4 = .ok (.invokevirtual 193, 3) := by decide +kernel
theorem dX11_modulusOf_7 : decode cX11_modulusOf 7 = .ok (.istore_n 3, 1) := by decide +kernel
theorem dX11_modulusOf_8 : decode cX11_modulusOf 8 = .ok (.iload_n 3, 1) := by decide +kernel
theorem dX11_modulusOf_9 : decode cX11_modulusOf 9 = .ok (.iconst 1, 1) := by decide +kernel
theorem dX11_modulusOf_10 : decode cX11_modulusOf 10 = .ok (.if_icmp .le 13, 3) := by decide +kernel
theorem dX11_modulusOf_13 : decode cX11_modulusOf 13 = .ok (.iinc 2 1, 3) := by decide +kernel
theorem dX11_modulusOf_16 : decode cX11_modulusOf 16 = .ok (.iload_n 3, 1) := by decide +kernel
theorem dX11_modulusOf_17 : decode cX11_modulusOf 17 = .ok (.iconst 2, 1) := by decide +kernel
theorem dX11_modulusOf_18 : decode cX11_modulusOf 18 = .ok (.idiv, 1) := by decide +kernel
theorem dX11_modulusOf_19 : decode cX11_modulusOf 19 = .ok (.istore_n 3, 1) := by decide +kernel
theorem dX11_modulusOf_20 : decode cX11_modulusOf 20 = .ok (.goto (-12), 3) := by decide +kernel
theorem dX11_modulusOf_23 : decode cX11_modulusOf 23 = .ok (.aload_n 0, 1) := by decide +kernel
