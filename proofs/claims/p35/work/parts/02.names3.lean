theorem dL_feature_203 : decode cL_feature 203 = .ok (.iload 7, 2) := by decide +kernel
theorem dL_feature_205 : decode cL_feature 205 = .ok (.idiv, 1) := by decide +kernel
theorem dL_feature_206 : decode cL_feature 206 = .ok (.ireturn, 1) := by decide +kernel
set_option maxRecDepth 20000 in
theorem ggL_votes_L_feature : GoodIn wsL_votes wsL_feature := goodIn_r _ [4, 5, 6, 3, 7, 8, 9, 10] (by decide +kernel) (by decide +kernel)
set_option maxRecDepth 20000 in
theorem gL_votes_L_feature : GoodIn wsL_votes (va_wsS RL 39 yL_feature wsL_feature) := goodIn_app (goodIn_of _ (by decide +kernel)) ggL_votes_L_feature
theorem dL_votes_0 : decode cL_votes 0 = .ok (.iconst 0, 1) := by decide +kernel
theorem dL_votes_1 : decode cL_votes 1 = .ok (.istore 8, 2) := by decide +kernel
theorem dL_votes_3 : decode cL_votes 3 = .ok (.iconst 0, 1) := by decide +kernel
theorem dL_votes_4 : decode cL_votes 4 = .ok (.istore 9, 2) := by decide +kernel
theorem dL_votes_6 : decode cL_votes 6 = .ok (.iload 9, 2) := by decide +kernel
theorem dL_votes_8 : decode cL_votes 8 = .ok (.aload_n 3, 1) := by decide +kernel
theorem dL_votes_9 : decode cL_votes 9 = .ok (.iconst 3, 1) := by decide +kernel
theorem dL_votes_10 : decode cL_votes 10 = .ok (.iaload, 1) := by decide +kernel
theorem dL_votes_11 : decode cL_votes 11 = .ok (.if_icmp .ge 102, 3) := by decide +kernel
theorem dL_votes_14 : decode cL_votes 14 = .ok (.aload_n 0, 1) := by decide +kernel
theorem dL_votes_15 : decode cL_votes 15 = .ok (.aload_n 1, 1) := by decide +kernel
theorem dL_votes_16 : decode cL_votes 16 = .ok (.aload_n 3, 1) := by decide +kernel
theorem dL_votes_17 : decode cL_votes 17 = .ok (.aload 4, 2) := by decide +kernel
theorem dL_votes_19 : decode cL_votes 19 = .ok (.aload 5, 2) := by decide +kernel
theorem dL_votes_21 : decode cL_votes 21 = .ok (.iload 6, 2) := by decide +kernel
theorem dL_votes_23 : decode cL_votes 23 = .ok (.aload_n 2, 1) := by decide +kernel
theorem dL_votes_24 : decode cL_votes 24 = .ok (.bipush 6, 2) := by decide +kernel
theorem dL_votes_26 : decode cL_votes 26 = .ok (.iload 9, 2) := by decide +kernel
theorem dL_votes_28 : decode cL_votes 28 = .ok (.imul, 1) := by decide +kernel
theorem dL_votes_29 : decode cL_votes 29 = .ok (.iconst 1, 1) := by decide +kernel
theorem dL_votes_30 : decode cL_votes 30 = .ok (.iadd, 1) := by decide +kernel
theorem dL_votes_31 : decode cL_votes 31 = .ok (.iaload, 1) := by decide +kernel
theorem dL_votes_32 : decode cL_votes 32 = .ok (.invokestatic 39, 3) := by decide +kernel
theorem dL_votes_35 : decode cL_votes 35 = .ok (.istore 10, 2) := by decide +kernel
theorem dL_votes_37 : decode cL_votes 37 = .ok (.iload 8, 2) := by decide +kernel
theorem dL_votes_39 : decode cL_votes 39 = .ok (.aload_n 2, 1) := by decide +kernel
theorem dL_votes_40 : decode cL_votes 40 = .ok (.bipush 6, 2) := by decide +kernel
theorem dL_votes_42 : decode cL_votes 42 = .ok (.iload 9, 2) := by decide +kernel
theorem dL_votes_44 : decode cL_votes 44 = .ok (.imul, 1) := by decide +kernel
theorem dL_votes_45 : decode cL_votes 45 = .ok (.iaload, 1) := by decide +kernel
theorem dL_votes_46 : decode cL_votes 46 = .ok (.iload 7, 2) := by decide +kernel
theorem dL_votes_48 : decode cL_votes 48 = .ok (.if_icmp .ne 55, 3) := by decide +kernel
theorem dL_votes_51 : decode cL_votes 51 = .ok (.aload_n 2, 1) := by decide +kernel
theorem dL_votes_52 : decode cL_votes 52 = .ok (.bipush 6, 2) := by decide +kernel
theorem dL_votes_54 : decode cL_votes 54 = .ok (.iload 9, 2) := by decide +kernel
theorem dL_votes_56 : decode cL_votes 56 = .ok (.imul, 1) := by decide +kernel
theorem dL_votes_57 : decode cL_votes 57 = .ok (.iconst 5, 1) := by decide +kernel
theorem dL_votes_58 : decode cL_votes 58 = .ok (.iadd, 1) := by decide +kernel
theorem dL_votes_59 : decode cL_votes 59 = .ok (.iaload, 1) := by decide +kernel
theorem dL_votes_60 : decode cL_votes 60 = .ok (.ifCond .ne 43, 3) := by decide +kernel
theorem dL_votes_63 : decode cL_votes 63 = .ok (.iload 10, 2) := by decide +kernel
theorem dL_votes_65 : decode cL_votes 65 = .ok (.aload_n 2, 1) := by decide +kernel
theorem dL_votes_66 : decode cL_votes 66 = .ok (.bipush 6, 2) := by decide +kernel
theorem dL_votes_68 : decode cL_votes 68 = .ok (.iload 9, 2) := by decide +kernel
theorem dL_votes_70 : decode cL_votes 70 = .ok (.imul, 1) := by decide +kernel
theorem dL_votes_71 : decode cL_votes 71 = .ok (.iconst 2, 1) := by decide +kernel
theorem dL_votes_72 : decode cL_votes 72 = .ok (.iadd, 1) := by decide +kernel
theorem dL_votes_73 : decode cL_votes 73 = .ok (.iaload, 1) := by decide +kernel
theorem dL_votes_74 : decode cL_votes 74 = .ok (.if_icmp .lt 29, 3) := by decide +kernel
theorem dL_votes_77 : decode cL_votes 77 = .ok (.iload 10, 2) := by decide +kernel
theorem dL_votes_79 : decode cL_votes 79 = .ok (.aload_n 2, 1) := by decide +kernel
theorem dL_votes_80 : decode cL_votes 80 = .ok (.bipush 6, 2) := by decide +kernel
theorem dL_votes_82 : decode cL_votes 82 = .ok (.iload 9, 2) := by decide +kernel
theorem dL_votes_84 : decode cL_votes 84 = .ok (.imul, 1) := by decide +kernel
theorem dL_votes_85 : decode cL_votes 85 = .ok (.iconst 3, 1) := by decide +kernel
theorem dL_votes_86 : decode cL_votes 86 = .ok (.iadd, 1) := by decide +kernel
theorem dL_votes_87 : decode cL_votes 87 = .ok (.iaload, 1) := by decide +kernel
theorem dL_votes_88 : decode cL_votes 88 = .ok (.if_icmp .gt 15, 3) := by decide +kernel
theorem dL_votes_91 : decode cL_votes 91 = .ok (.aload_n 2, 1) := by decide +kernel
theorem dL_votes_92 : decode cL_votes 92 = .ok (.bipush 6, 2) := by decide +kernel
theorem dL_votes_94 : decode cL_votes 94 = .ok (.iload 9, 2) := by decide +kernel
theorem dL_votes_96 : decode cL_votes 96 = .ok (.imul, 1) := by decide +kernel
theorem dL_votes_97 : decode cL_votes 97 = .ok (.iconst 4, 1) := by decide +kernel
theorem dL_votes_98 : decode cL_votes 98 = .ok (.iadd, 1) := by decide +kernel
theorem dL_votes_99 : decode cL_votes 99 = .ok (.iaload, 1) := by decide +kernel
theorem dL_votes_100 : decode cL_votes 100 = .ok (.goto 4, 3) := by decide +kernel
theorem dL_votes_103 : decode cL_votes 103 = .ok (.iconst 0, 1) := by decide +kernel
theorem dL_votes_104 : decode cL_votes 104 = .ok (.iadd, 1) := by decide +kernel
theorem dL_votes_105 : decode cL_votes 105 = .ok (.istore 8, 2) := by decide +kernel
theorem dL_votes_107 : decode cL_votes 107 = .ok (.iinc 9 1, 3) := by decide +kernel
theorem dL_votes_110 : decode cL_votes 110 = .ok (.goto (-104), 3) := by decide +kernel
theorem dL_votes_113 : decode cL_votes 113 = .ok (.iload 8, 2) := by decide +kernel
theorem dL_votes_115 : decode cL_votes 115 = .ok (.ireturn, 1) := by decide +kernel
set_option maxRecDepth 20000 in
theorem ggL_mean_L_isOf : GoodIn wsL_mean wsL_isOf := goodIn_r _ [4] (by decide +kernel) (by decide +kernel)
set_option maxRecDepth 20000 in
theorem gL_mean_L_isOf : GoodIn wsL_mean (va_wsS RL 20 yL_isOf wsL_isOf) := goodIn_app (goodIn_of _ (by decide +kernel)) ggL_mean_L_isOf
set_option maxRecDepth 20000 in
theorem ggL_mean_L_many : GoodIn wsL_mean wsL_many := goodIn_r _ [7, 1, 2, 3, 4] (by decide +kernel) (by decide +kernel)
set_option maxRecDepth 20000 in
theorem gL_mean_L_many : GoodIn wsL_mean (va_wsS RL 43 yL_many wsL_many) := goodIn_app (goodIn_of _ (by decide +kernel)) ggL_mean_L_many
set_option maxRecDepth 20000 in
theorem ggL_mean_L_down : GoodIn wsL_mean wsL_down := goodIn_r _ [10] (by decide +kernel) (by decide +kernel)
set_option maxRecDepth 20000 in
theorem gL_mean_L_down : GoodIn wsL_mean (va_wsS RL 7 yL_down wsL_down) := goodIn_app (goodIn_of _ (by decide +kernel)) ggL_mean_L_down
theorem dL_mean_0 : decode cL_mean 0 = .ok (.iconst 0, 1) := by decide +kernel
theorem dL_mean_1 : decode cL_mean 1 = .ok (.istore 4, 2) := by decide +kernel
theorem dL_mean_3 : decode cL_mean 3 = .ok (.iconst 0, 1) := by decide +kernel
theorem dL_mean_4 : decode cL_mean 4 = .ok (.istore 5, 2) := by decide +kernel
theorem dL_mean_6 : decode cL_mean 6 = .ok (.iload 5, 2) := by decide +kernel
theorem dL_mean_8 : decode cL_mean 8 = .ok (.aload_n 1, 1) := by decide +kernel
theorem dL_mean_9 : decode cL_mean 9 = .ok (.iconst 2, 1) := by decide +kernel
theorem dL_mean_10 : decode cL_mean 10 = .ok (.iaload, 1) := by decide +kernel
theorem dL_mean_11 : decode cL_mean 11 = .ok (.if_icmp .ge 32, 3) := by decide +kernel
theorem dL_mean_14 : decode cL_mean 14 = .ok (.iload 4, 2) := by decide +kernel
theorem dL_mean_16 : decode cL_mean 16 = .ok (.aload_n 0, 1) := by decide +kernel
theorem dL_mean_17 : decode cL_mean 17 = .ok (.iload_n 3, 1) := by decide +kernel
theorem dL_mean_18 : decode cL_mean 18 = .ok (.iload 5, 2) := by decide +kernel
theorem dL_mean_20 : decode cL_mean 20 = .ok (.invokestatic 20, 3) := by decide +kernel
theorem dL_mean_23 : decode cL_mean 23 = .ok (.ifCond .eq 10, 3) := by decide +kernel
theorem dL_mean_26 : decode cL_mean 26 = .ok (.aload_n 2, 1) := by decide +kernel
theorem dL_mean_27 : decode cL_mean 27 = .ok (.iload 5, 2) := by decide +kernel
theorem dL_mean_29 : decode cL_mean 29 = .ok (.iaload, 1) := by decide +kernel
theorem dL_mean_30 : decode cL_mean 30 = .ok (.goto 4, 3) := by decide +kernel
theorem dL_mean_33 : decode cL_mean 33 = .ok (.iconst 0, 1) := by decide +kernel
theorem dL_mean_34 : decode cL_mean 34 = .ok (.iadd, 1) := by decide +kernel
theorem dL_mean_35 : decode cL_mean 35 = .ok (.istore 4, 2) := by decide +kernel
theorem dL_mean_37 : decode cL_mean 37 = .ok (.iinc 5 1, 3) := by decide +kernel
theorem dL_mean_40 : decode cL_mean 40 = .ok (.goto (-34), 3) := by decide +kernel
theorem dL_mean_43 : decode cL_mean 43 = .ok (.iload 4, 2) := by decide +kernel
theorem dL_mean_45 : decode cL_mean 45 = .ok (.aload_n 0, 1) := by decide +kernel
theorem dL_mean_46 : decode cL_mean 46 = .ok (.aload_n 1, 1) := by decide +kernel
theorem dL_mean_47 : decode cL_mean 47 = .ok (.iload_n 3, 1) := by decide +kernel
theorem dL_mean_48 : decode cL_mean 48 = .ok (.invokestatic 43, 3) := by decide +kernel
theorem dL_mean_51 : decode cL_mean 51 = .ok (.invokestatic 7, 3) := by decide +kernel
theorem dL_mean_54 : decode cL_mean 54 = .ok (.ireturn, 1) := by decide +kernel
set_option maxRecDepth 20000 in
theorem ggL_modulus_L_claim : GoodIn wsL_modulus wsL_claim := goodIn_r _ [4] (by decide +kernel) (by decide +kernel)
set_option maxRecDepth 20000 in
theorem gL_modulus_L_claim : GoodIn wsL_modulus (va_wsS RL 35 yL_claim wsL_claim) := goodIn_app (goodIn_of _ (by decide +kernel)) ggL_modulus_L_claim
set_option maxRecDepth 20000 in
theorem ggL_modulus_L_mean : GoodIn wsL_modulus wsL_mean := goodIn_r _ [7, 8, 9, 3, 10, 11, 12, 13, 14, 15, 16] (by decide +kernel) (by decide +kernel)
set_option maxRecDepth 20000 in
theorem gL_modulus_L_mean : GoodIn wsL_modulus (va_wsS RL 47 yL_mean wsL_mean) := goodIn_app (goodIn_of _ (by decide +kernel)) ggL_modulus_L_mean
set_option maxRecDepth 20000 in
theorem ggL_modulus_L_lowest : GoodIn wsL_modulus wsL_lowest := goodIn_r _ [19] (by decide +kernel) (by decide +kernel)
set_option maxRecDepth 20000 in
theorem gL_modulus_L_lowest : GoodIn wsL_modulus (va_wsS RL 51 yL_lowest wsL_lowest) := goodIn_app (goodIn_of _ (by decide +kernel)) ggL_modulus_L_lowest
theorem dL_modulus_0 : decode cL_modulus 0 = .ok (.iconst 0, 1) := by decide +kernel
theorem dL_modulus_1 : decode cL_modulus 1 = .ok (.istore 5, 2) := by decide +kernel
theorem dL_modulus_3 : decode cL_modulus 3 = .ok (.aload_n 0, 1) := by decide +kernel
theorem dL_modulus_4 : decode cL_modulus 4 = .ok (.iload 4, 2) := by decide +kernel
theorem dL_modulus_6 : decode cL_modulus 6 = .ok (.invokestatic 35, 3) := by decide +kernel
theorem dL_modulus_9 : decode cL_modulus 9 = .ok (.iload 5, 2) := by decide +kernel
theorem dL_modulus_11 : decode cL_modulus 11 = .ok (.ishr, 1) := by decide +kernel
theorem dL_modulus_12 : decode cL_modulus 12 = .ok (.iconst 1, 1) := by decide +kernel
theorem dL_modulus_13 : decode cL_modulus 13 = .ok (.if_icmp .le 9, 3) := by decide +kernel
theorem dL_modulus_16 : decode cL_modulus 16 = .ok (.iinc 5 1, 3) := by decide +kernel
theorem dL_modulus_19 : decode cL_modulus 19 = .ok (.goto (-16), 3) := by decide +kernel
theorem dL_modulus_22 : decode cL_modulus 22 = .ok (.aload_n 1, 1) := by decide +kernel
theorem dL_modulus_23 : decode cL_modulus 23 = .ok (.aload_n 2, 1) := by decide +kernel
theorem dL_modulus_24 : decode cL_modulus 24 = .ok (.aload_n 3, 1) := by decide +kernel
theorem dL_modulus_25 : decode cL_modulus 25 = .ok (.iload 4, 2) := by decide +kernel
theorem dL_modulus_27 : decode cL_modulus 27 = .ok (.invokestatic 47, 3) := by decide +kernel
theorem dL_modulus_30 : decode cL_modulus 30 = .ok (.aload_n 0, 1) := by decide +kernel
theorem dL_modulus_31 : decode cL_modulus 31 = .ok (.iconst 4, 1) := by decide +kernel
theorem dL_modulus_32 : decode cL_modulus 32 = .ok (.iload 4, 2) := by decide +kernel
theorem dL_modulus_34 : decode cL_modulus 34 = .ok (.invokestatic 51, 3) := by decide +kernel
theorem dL_modulus_37 : decode cL_modulus 37 = .ok (.imul, 1) := by decide +kernel
theorem dL_modulus_38 : decode cL_modulus 38 = .ok (.iconst 3, 1) := by decide +kernel
theorem dL_modulus_39 : decode cL_modulus 39 = .ok (.iadd, 1) := by decide +kernel
theorem dL_modulus_40 : decode cL_modulus 40 = .ok (.iaload, 1) := by decide +kernel
theorem dL_modulus_41 : decode cL_modulus 41 = .ok (.isub, 1) := by decide +kernel
theorem dL_modulus_42 : decode cL_modulus 42 = .ok (.aload_n 2, 1) := by decide +kernel
theorem dL_modulus_43 : decode cL_modulus 43 = .ok (.iconst 5, 1) := by decide +kernel
theorem dL_modulus_44 : decode cL_modulus 44 = .ok (.iaload, 1) := by decide +kernel
theorem dL_modulus_45 : decode cL_modulus 45 = .ok (.isub, 1) := by decide +kernel
theorem dL_modulus_46 : decode cL_modulus 46 = .ok (.bipush 75, 2) := by decide +kernel
theorem dL_modulus_48 : decode cL_modulus 48 = .ok (.iload 5, 2) := by decide +kernel
theorem dL_modulus_50 : decode cL_modulus 50 = .ok (.imul, 1) := by decide +kernel
theorem dL_modulus_51 : decode cL_modulus 51 = .ok (.iadd, 1) := by decide +kernel
theorem dL_modulus_52 : decode cL_modulus 52 = .ok (.ireturn, 1) := by decide +kernel
set_option maxRecDepth 20000 in
theorem ggL_does_X10_merge : GoodIn wsL_does wsX10_merge := goodIn_ca (goodIn_ca (goodIn_r _ [11, 12, 13, 14, 15, 16, 17, 18, 19, 20, 21, 22, 23, 24, 10, 25, 26, 27, 28, 29, 30, 31, 32, 33, 34, 35, 36, 37, 38, 39, 40, 41, 42, 43, 44, 45, 46, 47, 48, 49, 50, 51, 52, 53, 54, 55, 56, 317, 318, 319, 320, 321, 322, 323, 324, 325, 326, 327, 328, 329, 330, 331, 332, 333, 334, 335, 336, 337] (by decide +kernel) (by decide +kernel)) (goodIn_sub (fun _ h => List.mem_cons_of_mem _ (List.mem_append_left _ (List.mem_append_left _ (List.mem_append_right _ h)))) (by decide +kernel))) (goodIn_sub (fun _ h => List.mem_cons_of_mem _ (List.mem_append_left _ (List.mem_append_right _ h))) (by decide +kernel))
set_option maxRecDepth 20000 in
theorem gL_does_X10_merge : GoodIn wsL_does (wsV RL 55 RX10 yX10_merge wsX10_merge) := goodIn_app (goodIn_of _ (by decide +kernel)) ggL_does_X10_merge
set_option maxRecDepth 20000 in
theorem ggL_does_X10_split : GoodIn wsL_does wsX10_split := goodIn_ca (goodIn_ca (goodIn_r _ [60, 12, 13, 14, 61, 22, 23, 24, 10, 25, 26, 27, 28, 29, 30, 31, 32, 33, 34, 35, 36, 37, 38, 39, 40, 41, 42, 43, 44, 45, 46, 47, 48, 49, 50, 51, 52, 62, 63, 64, 65, 53, 54, 55, 56, 317, 318, 319, 320, 321, 322, 323, 324, 325, 326, 327, 328, 329, 330, 331, 332, 333, 334, 335, 336, 337] (by decide +kernel) (by decide +kernel)) (goodIn_sub (fun _ h => List.mem_cons_of_mem _ (List.mem_append_left _ (List.mem_append_left _ (List.mem_append_right _ h)))) (by decide +kernel))) (goodIn_sub (fun _ h => List.mem_cons_of_mem _ (List.mem_append_left _ (List.mem_append_right _ h))) (by decide +kernel))
set_option maxRecDepth 20000 in
theorem gL_does_X10_split : GoodIn wsL_does (wsV RL 60 RX10 yX10_split wsX10_split) := goodIn_app (goodIn_of _ (by decide +kernel)) ggL_does_X10_split
set_option maxRecDepth 20000 in
theorem ggL_does_X10_period : GoodIn wsL_does wsX10_period := goodIn_ca (goodIn_ca (goodIn_ca (goodIn_r _ [69, 14, 22, 23, 24, 10, 25, 26, 27, 28, 29, 30, 31, 32, 33, 34, 35, 36, 37, 38, 39, 40, 41, 42, 43, 44, 45, 46, 47, 48, 49, 50, 51, 52, 70, 71, 72, 73, 74, 75, 76, 77, 78, 79, 80, 81, 82, 83, 84, 85, 86, 87, 88, 89, 90, 91, 92, 12, 13, 93, 94, 95, 96, 97, 98, 99, 100, 101, 102, 103, 104, 105, 106, 107, 108, 109, 110, 111, 112, 113, 114, 115, 116, 117, 118, 119, 120, 121, 122, 123, 124, 16, 17, 18, 125, 126, 127, 128, 129, 130, 131, 132, 133, 134, 135, 136, 137, 138, 139, 140, 141, 142, 143, 144, 145, 146, 147, 148, 149, 150, 151, 152, 153, 154, 155, 156, 157, 158, 159, 160, 161, 162, 163, 164, 165, 166, 167, 168, 169, 170, 171, 172, 173, 174, 175, 176, 177, 178, 179, 180, 181, 182, 183, 184, 185, 186, 187, 188, 189, 190, 191, 192, 193, 194, 195, 196, 197, 198, 199, 200, 201, 202, 203, 204, 317, 318, 319, 320, 321, 322, 323, 324, 325, 326, 327, 328, 329, 330, 331, 332, 333, 334, 335, 336, 337, 338, 339, 340, 341, 342, 343, 344, 345, 346, 347, 348, 349, 350, 351, 352, 353, 354, 355, 356, 357, 358] (by decide +kernel) (by decide +kernel)) (goodIn_sub (fun _ h => List.mem_cons_of_mem _ (List.mem_append_left _ (List.mem_append_right _ h))) (by decide +kernel))) (goodIn_sub (fun _ h => List.mem_cons_of_mem _ (List.mem_append_right _ h)) (by decide +kernel))) (goodIn_sub (fun _ h => List.mem_cons_of_mem _ (List.mem_append_left _ (List.mem_append_left _ (List.mem_append_right _ h)))) (by decide +kernel))
set_option maxRecDepth 20000 in
theorem gL_does_X10_period : GoodIn wsL_does (wsV RL 63 RX10 yX10_period wsX10_period) := goodIn_app (goodIn_of _ (by decide +kernel)) ggL_does_X10_period
set_option maxRecDepth 20000 in
theorem ggL_does_X10_aliases : GoodIn wsL_does wsX10_aliases := goodIn_ca (goodIn_ca (goodIn_ca (goodIn_r _ [208, 14, 22, 23, 24, 10, 25, 26, 27, 28, 29, 30, 31, 32, 33, 34, 35, 36, 37, 38, 39, 40, 41, 42, 43, 44, 45, 46, 47, 48, 49, 50, 51, 52, 70, 71, 72, 73, 74, 75, 76, 77, 78, 79, 80, 81, 82, 83, 84, 85, 86, 87, 88, 89, 90, 91, 92, 12, 13, 93, 94, 95, 96, 97, 98, 99, 100, 101, 102, 103, 104, 105, 106, 107, 108, 109, 110, 111, 112, 113, 114, 115, 116, 117, 118, 119, 120, 121, 122, 123, 124, 16, 17, 18, 125, 126, 127, 128, 129, 130, 131, 132, 133, 134, 135, 136, 137, 138, 139, 140, 141, 142, 143, 144, 145, 146, 147, 148, 149, 150, 151, 152, 153, 154, 155, 156, 157, 158, 159, 160, 161, 162, 163, 164, 165, 166, 167, 168, 169, 170, 171, 172, 173, 174, 175, 176, 177, 178, 179, 180, 181, 182, 183, 184, 185, 186, 187, 188, 189, 190, 191, 192, 193, 194, 195, 196, 197, 198, 199, 200, 201, 202, 203, 204, 209, 210, 211, 212, 317, 318, 319, 320, 321, 322, 323, 324, 325, 326, 327, 328, 329, 330, 331, 332, 333, 334, 335, 336, 337, 338, 339, 340, 341, 342, 343, 344, 345, 346, 347, 348, 349, 350, 351, 352, 353, 354, 355, 356, 357, 358] (by decide +kernel) (by decide +kernel)) (goodIn_sub (fun _ h => List.mem_cons_of_mem _ (List.mem_append_left _ (List.mem_append_right _ h))) (by decide +kernel))) (goodIn_sub (fun _ h => List.mem_cons_of_mem _ (List.mem_append_right _ h)) (by decide +kernel))) (goodIn_sub (fun _ h => List.mem_cons_of_mem _ (List.mem_append_left _ (List.mem_append_left _ (List.mem_append_right _ h)))) (by decide +kernel))
set_option maxRecDepth 20000 in
theorem gL_does_X10_aliases : GoodIn wsL_does (wsV RL 67 RX10 yX10_aliases wsX10_aliases) := goodIn_app (goodIn_of _ (by decide +kernel)) ggL_does_X10_aliases
set_option maxRecDepth 20000 in
theorem ggL_does_X10_feature : GoodIn wsL_does wsX10_feature := goodIn_ca (goodIn_ca (goodIn_ca (goodIn_r _ [216, 14, 22, 23, 24, 10, 25, 26, 27, 28, 29, 30, 31, 32, 33, 34, 35, 36, 37, 38, 39, 40, 41, 42, 43, 44, 45, 46, 47, 48, 49, 50, 51, 52, 77, 78, 79, 80, 81, 217, 218, 219, 220, 12, 13, 94, 95, 96, 97, 93, 98, 99, 100, 101, 102, 103, 104, 105, 106, 107, 108, 109, 110, 111, 112, 113, 114, 115, 116, 117, 118, 119, 120, 121, 122, 123, 124, 16, 17, 18, 83, 84, 85, 86, 87, 88, 125, 126, 127, 128, 129, 130, 131, 132, 133, 134, 135, 136, 137, 138, 139, 140, 141, 142, 143, 144, 145, 146, 147, 148, 149, 150, 151, 152, 153, 154, 155, 156, 157, 158, 159, 160, 161, 162, 163, 164, 165, 166, 167, 168, 169, 170, 171, 172, 173, 174, 175, 176, 177, 178, 221, 222, 223, 224, 225, 226, 227, 228, 229, 179, 180, 181, 182, 230, 231, 232, 233, 234, 235, 236, 237, 201, 202, 203, 204, 238, 239, 240, 241, 196, 197, 198, 199, 200, 82, 317, 318, 319, 320, 321, 322, 323, 324, 325, 326, 327, 328, 329, 330, 331, 332, 333, 334, 335, 336, 337, 338, 339, 340, 341, 342, 343, 344, 345, 346, 347, 348, 349, 350, 351, 352, 353, 354, 355, 356, 357, 358] (by decide +kernel) (by decide +kernel)) (goodIn_sub (fun _ h => List.mem_cons_of_mem _ (List.mem_append_left _ (List.mem_append_right _ h))) (by decide +kernel))) (goodIn_sub (fun _ h => List.mem_cons_of_mem _ (List.mem_append_right _ h)) (by decide +kernel))) (goodIn_sub (fun _ h => List.mem_cons_of_mem _ (List.mem_append_left _ (List.mem_append_left _ (List.mem_append_right _ h)))) (by decide +kernel))
set_option maxRecDepth 20000 in
theorem gL_does_X10_feature : GoodIn wsL_does (wsV RL 71 RX10 yX10_feature wsX10_feature) := goodIn_app (goodIn_of _ (by decide +kernel)) ggL_does_X10_feature
set_option maxRecDepth 20000 in
theorem ggL_does_X10_votes : GoodIn wsL_does wsX10_votes := goodIn_ca (goodIn_ca (goodIn_ca (goodIn_r _ [245, 14, 22, 23, 24, 10, 25, 26, 27, 28, 29, 30, 31, 32, 33, 34, 35, 36, 37, 38, 39, 40, 41, 42, 43, 44, 45, 46, 47, 48, 49, 50, 51, 52, 77, 78, 79, 80, 81, 217, 218, 219, 220, 12, 13, 94, 95, 96, 97, 93, 98, 99, 100, 101, 102, 103, 104, 105, 106, 107, 108, 109, 110, 111, 112, 113, 114, 115, 116, 117, 118, 119, 120, 121, 122, 123, 124, 16, 17, 18, 83, 84, 85, 86, 87, 88, 125, 126, 127, 128, 129, 130, 131, 132, 133, 134, 135, 136, 137, 138, 139, 140, 141, 142, 143, 144, 145, 146, 147, 148, 149, 150, 151, 152, 153, 154, 155, 156, 157, 158, 159, 160, 161, 162, 163, 164, 165, 166, 167, 168, 169, 170, 171, 172, 173, 174, 175, 176, 177, 178, 221, 222, 223, 224, 225, 226, 227, 228, 229, 179, 180, 181, 182, 246, 247, 248, 249, 250, 251, 252, 253, 254, 255, 230, 231, 232, 233, 234, 235, 236, 237, 201, 202, 203, 204, 238, 239, 240, 241, 196, 197, 198, 199, 200, 82, 256, 257, 258, 259, 260, 261, 262, 317, 318, 319, 320, 321, 322, 323, 324, 325, 326, 327, 328, 329, 330, 331, 332, 333, 334, 335, 336, 337, 338, 339, 340, 341, 342, 343, 344, 345, 346, 347, 348, 349, 350, 351, 352, 353, 354, 355, 356, 357, 358, 359, 360, 361, 362, 363, 364] (by decide +kernel) (by decide +kernel)) (goodIn_sub (fun _ h => List.mem_cons_of_mem _ (List.mem_append_left _ (List.mem_append_right _ h))) (by decide +kernel))) (goodIn_sub (fun _ h => List.mem_cons_of_mem _ (List.mem_append_right _ h)) (by decide +kernel))) (goodIn_sub (fun _ h => List.mem_cons_of_mem _ (List.mem_append_left _ (List.mem_append_left _ (List.mem_append_right _ h)))) (by decide +kernel))
set_option maxRecDepth 20000 in
theorem gL_does_X10_votes : GoodIn wsL_does (wsV RL 73 RX10 yX10_votes wsX10_votes) := goodIn_app (goodIn_of _ (by decide +kernel)) ggL_does_X10_votes
set_option maxRecDepth 20000 in
theorem ggL_does_X10_kind : GoodIn wsL_does wsX10_kind := goodIn_ca (goodIn_ca (goodIn_r _ [266, 14, 22, 23, 24, 10, 25, 26, 27, 28, 29, 30, 31, 32, 33, 34, 35, 36, 37, 38, 39, 40, 41, 42, 43, 44, 45, 46, 47, 48, 49, 50, 51, 52, 217, 218, 219, 220, 12, 13, 94, 95, 96, 97, 93, 98, 99, 100, 101, 102, 103, 104, 105, 106, 107, 108, 109, 110, 111, 112, 113, 114, 115, 116, 117, 118, 119, 120, 121, 122, 123, 124, 16, 17, 18, 83, 84, 85, 86, 87, 88, 125, 126, 127, 128, 129, 130, 131, 132, 133, 134, 135, 136, 137, 138, 139, 140, 141, 142, 143, 144, 145, 146, 147, 148, 149, 150, 151, 152, 153, 154, 155, 156, 157, 158, 159, 160, 161, 162, 163, 164, 165, 166, 167, 168, 169, 170, 171, 172, 173, 174, 175, 176, 177, 178, 221, 222, 223, 224, 225, 226, 227, 228, 229, 179, 180, 181, 182, 246, 247, 248, 249, 250, 251, 252, 253, 254, 255, 230, 231, 232, 233, 234, 235, 236, 237, 201, 202, 203, 204, 238, 239, 240, 241, 196, 197, 198, 199, 200, 82, 256, 257, 258, 259, 260, 261, 262, 317, 318, 319, 320, 321, 322, 323, 324, 325, 326, 327, 328, 329, 330, 331, 332, 333, 334, 335, 336, 337, 338, 339, 340, 341, 342, 343, 344, 345, 346, 347, 348, 349, 350, 351, 352, 353, 354, 355, 356, 357, 358, 359, 360, 361, 362, 363, 364] (by decide +kernel) (by decide +kernel)) (goodIn_sub (fun _ h => List.mem_cons_of_mem _ (List.mem_append_left _ (List.mem_append_right _ h))) (by decide +kernel))) (goodIn_sub (fun _ h => List.mem_cons_of_mem _ (List.mem_append_left _ (List.mem_append_left _ (List.mem_append_right _ h)))) (by decide +kernel))
set_option maxRecDepth 20000 in
theorem gL_does_X10_kind : GoodIn wsL_does (wsV RL 76 RX10 yX10_kind wsX10_kind) := goodIn_app (goodIn_of _ (by decide +kernel)) ggL_does_X10_kind
set_option maxRecDepth 20000 in
theorem ggL_does_X10_cycle : GoodIn wsL_does wsX10_cycle := goodIn_ca (goodIn_ca (goodIn_r _ [270, 14, 271, 22, 23, 24, 10, 25, 26, 27, 28, 29, 30, 31, 32, 33, 34, 35, 36, 37, 38, 39, 40, 41, 42, 43, 44, 45, 46, 47, 48, 49, 50, 51, 52, 272, 273, 274, 275, 276, 277, 278, 279, 102, 103, 104, 105, 106, 107, 280, 119, 120, 121, 122, 123, 124, 16, 17, 18, 83, 84, 85, 86, 87, 88, 125, 126, 127, 128, 129, 165, 166, 167, 168, 169, 170, 171, 172, 173, 174, 175, 176, 177, 178, 179, 180, 181, 182, 281, 282, 283, 74, 75, 76, 73, 77, 78, 79, 80, 81, 284, 285, 286, 287, 288, 289, 290, 291, 196, 197, 198, 199, 292, 293, 294, 295, 82, 317, 318, 319, 320, 321, 322, 323, 324, 325, 326, 327, 328, 329, 330, 331, 332, 333, 334, 335, 336, 337, 365, 366, 350, 351, 352] (by decide +kernel) (by decide +kernel)) (goodIn_sub (fun _ h => List.mem_cons_of_mem _ (List.mem_append_left _ (List.mem_append_right _ h))) (by decide +kernel))) (goodIn_sub (fun _ h => List.mem_cons_of_mem _ (List.mem_append_right _ h)) (by decide +kernel))
set_option maxRecDepth 20000 in
theorem gL_does_X10_cycle : GoodIn wsL_does (wsV RL 79 RX10 yX10_cycle wsX10_cycle) := goodIn_app (goodIn_of _ (by decide +kernel)) ggL_does_X10_cycle
set_option maxRecDepth 20000 in
theorem ggL_does_X10_mean : GoodIn wsL_does wsX10_mean := goodIn_ca (goodIn_ca (goodIn_r _ [299, 12, 13, 14, 93, 22, 23, 24, 10, 25, 26, 27, 28, 29, 30, 31, 32, 33, 34, 35, 36, 37, 38, 39, 40, 41, 42, 43, 44, 45, 46, 47, 48, 49, 50, 51, 52, 94, 95, 96, 97, 98, 99, 100, 101, 102, 103, 104, 105, 106, 107, 108, 109, 110, 111, 112, 113, 114, 115, 116, 117, 118, 119, 120, 121, 122, 123, 124, 16, 17, 18, 83, 84, 85, 86, 87, 88, 125, 126, 127, 128, 129, 130, 131, 132, 133, 134, 135, 136, 137, 138, 139, 140, 141, 142, 143, 144, 145, 146, 147, 148, 149, 150, 151, 152, 153, 154, 155, 156, 157, 158, 159, 160, 161, 162, 163, 164, 165, 166, 167, 168, 169, 170, 171, 172, 173, 174, 175, 176, 177, 178, 179, 180, 181, 182, 300, 301, 302, 303, 201, 202, 203, 204, 82, 317, 318, 319, 320, 321, 322, 323, 324, 325, 326, 327, 328, 329, 330, 331, 332, 333, 334, 335, 336, 337, 338, 339, 340, 341, 342, 343, 344, 345, 346, 347, 348, 349, 350, 351, 352, 353, 354, 355, 356, 357, 358] (by decide +kernel) (by decide +kernel)) (goodIn_sub (fun _ h => List.mem_cons_of_mem _ (List.mem_append_left _ (List.mem_append_left _ (List.mem_append_right _ h)))) (by decide +kernel))) (goodIn_sub (fun _ h => List.mem_cons_of_mem _ (List.mem_append_left _ (List.mem_append_right _ h))) (by decide +kernel))
set_option maxRecDepth 20000 in
theorem gL_does_X10_mean : GoodIn wsL_does (wsV RL 83 RX10 yX10_mean wsX10_mean) := goodIn_app (goodIn_of _ (by decide +kernel)) ggL_does_X10_mean
set_option maxRecDepth 20000 in
theorem ggL_does_X10_modulus : GoodIn wsL_does wsX10_modulus := goodIn_ca (goodIn_ca (goodIn_r _ [307, 14, 22, 23, 24, 10, 25, 26, 27, 28, 29, 30, 31, 32, 33, 34, 35, 36, 37, 38, 39, 40, 41, 42, 43, 44, 45, 46, 47, 48, 49, 50, 51, 52, 217, 218, 219, 220, 12, 13, 94, 95, 96, 97, 93, 98, 99, 100, 101, 102, 103, 104, 105, 106, 107, 108, 109, 110, 111, 112, 113, 114, 115, 116, 117, 118, 119, 120, 121, 122, 123, 124, 16, 17, 18, 83, 84, 85, 86, 87, 88, 125, 126, 127, 128, 129, 130, 131, 132, 133, 134, 135, 136, 137, 138, 139, 140, 141, 142, 143, 144, 145, 146, 147, 148, 149, 150, 151, 152, 153, 154, 155, 156, 157, 158, 159, 160, 161, 162, 163, 164, 165, 166, 167, 168, 169, 170, 171, 172, 173, 174, 175, 176, 177, 178, 221, 222, 223, 224, 225, 226, 227, 228, 229, 179, 180, 181, 182, 308, 309, 310, 311, 312, 313, 300, 301, 302, 303, 201, 202, 203, 204, 82, 314, 315, 316, 317, 318, 319, 320, 321, 322, 323, 324, 325, 326, 327, 328, 329, 330, 331, 332, 333, 334, 335, 336, 337, 338, 339, 340, 341, 342, 343, 344, 345, 346, 347, 348, 349, 350, 351, 352, 353, 354, 355, 356, 357, 358] (by decide +kernel) (by decide +kernel)) (goodIn_sub (fun _ h => List.mem_cons_of_mem _ (List.mem_append_left _ (List.mem_append_right _ h))) (by decide +kernel))) (goodIn_sub (fun _ h => List.mem_cons_of_mem _ (List.mem_append_left _ (List.mem_append_left _ (List.mem_append_right _ h)))) (by decide +kernel))
set_option maxRecDepth 20000 in
theorem gL_does_X10_modulus : GoodIn wsL_does (wsV RL 85 RX10 yX10_modulus wsX10_modulus) := goodIn_app (goodIn_of _ (by decide +kernel)) ggL_does_X10_modulus
theorem dL_does_0 : decode cL_does 0 = .ok (.iload_n 1, 1) := by decide +kernel
theorem dL_does_1 : decode cL_does 1 = .ok (.ifCond .ne 12, 3) := by decide +kernel
theorem dL_does_4 : decode cL_does 4 = .ok (.aload_n 0, 1) := by decide +kernel
theorem dL_does_5 : decode cL_does 5 = .ok (.iload_n 2, 1) := by decide +kernel
theorem dL_does_6 : decode cL_does 6 = .ok (.iload_n 3, 1) := by decide +kernel
theorem dL_does_7 : decode cL_does 7 = .ok (.invokevirtual 55, 3) := by decide +kernel
theorem dL_does_10 : decode cL_does 10 = .ok (.goto 143, 3) := by decide +kernel
theorem dL_does_13 : decode cL_does 13 = .ok (.iload_n 1, 1) := by decide +kernel
theorem dL_does_14 : decode cL_does 14 = .ok (.iconst 1, 1) := by decide +kernel
theorem dL_does_15 : decode cL_does 15 = .ok (.if_icmp .ne 11, 3) := by decide +kernel
theorem dL_does_18 : decode cL_does 18 = .ok (.aload_n 0, 1) := by decide +kernel
theorem dL_does_19 : decode cL_does 19 = .ok (.iload_n 2, 1) := by decide +kernel
theorem dL_does_20 : decode cL_does 20 = .ok (.invokevirtual 60, 3) := by decide +kernel
theorem dL_does_23 : decode cL_does 23 = .ok (.goto 130, 3) := by decide +kernel
theorem dL_does_26 : decode cL_does 26 = .ok (.iload_n 1, 1) := by decide +kernel
theorem dL_does_27 : decode cL_does 27 = .ok (.iconst 2, 1) := by decide +kernel
theorem dL_does_28 : decode cL_does 28 = .ok (.if_icmp .ne 16, 3) := by decide +kernel
theorem dL_does_31 : decode cL_does 31 = .ok (.aload_n 0, 1) := by decide +kernel
theorem dL_does_32 : decode cL_does 32 = .ok (.iload_n 2, 1) := by decide +kernel
theorem dL_does_33 : decode cL_does 33 = .ok (.iload_n 3, 1) := by decide +kernel
theorem dL_does_34 : decode cL_does 34 = .ok (.iload 4, 2) := by decide +kernel
theorem dL_does_36 : decode cL_does 36 = .ok (.iload 5, 2) := by decide +kernel
theorem dL_does_38 : decode cL_does 38 = .ok (.invokevirtual 63, 3) := by decide +kernel
theorem dL_does_41 : decode cL_does 41 = .ok (.goto 112, 3) := by decide +kernel
theorem dL_does_44 : decode cL_does 44 = .ok (.iload_n 1, 1) := by decide +kernel
theorem dL_does_45 : decode cL_does 45 = .ok (.iconst 3, 1) := by decide +kernel
theorem dL_does_46 : decode cL_does 46 = .ok (.if_icmp .ne 18, 3) := by decide +kernel
theorem dL_does_49 : decode cL_does 49 = .ok (.aload_n 0, 1) := by decide +kernel
theorem dL_does_50 : decode cL_does 50 = .ok (.iload_n 2, 1) := by decide +kernel
theorem dL_does_51 : decode cL_does 51 = .ok (.iload_n 3, 1) := by decide +kernel
theorem dL_does_52 : decode cL_does 52 = .ok (.iload 4, 2) := by decide +kernel
theorem dL_does_54 : decode cL_does 54 = .ok (.iload 5, 2) := by decide +kernel
theorem dL_does_56 : decode cL_does 56 = .ok (.iload 6, 2) := by decide +kernel
theorem dL_does_58 : decode cL_does 58 = .ok (.invokevirtual 67, 3) := by decide +kernel
theorem dL_does_61 : decode cL_does 61 = .ok (.goto 92, 3) := by decide +kernel
theorem dL_does_64 : decode cL_does 64 = .ok (.iload_n 1, 1) := by decide +kernel
theorem dL_does_65 : decode cL_does 65 = .ok (.iconst 4, 1) := by decide +kernel
theorem dL_does_66 : decode cL_does 66 = .ok (.if_icmp .ne 12, 3) := by decide +kernel
theorem dL_does_69 : decode cL_does 69 = .ok (.aload_n 0, 1) := by decide +kernel
theorem dL_does_70 : decode cL_does 70 = .ok (.iload_n 2, 1) := by decide +kernel
theorem dL_does_71 : decode cL_does 71 = .ok (.iload_n 3, 1) := by decide +kernel
theorem dL_does_72 : decode cL_does 72 = .ok (.invokevirtual 71, 3) := by decide +kernel
theorem dL_does_75 : decode cL_does 75 = .ok (.goto 78, 3) := by decide +kernel
theorem dL_does_78 : decode cL_does 78 = .ok (.iload_n 1, 1) := by decide +kernel
theorem dL_does_79 : decode cL_does 79 = .ok (.iconst 5, 1) := by decide +kernel
theorem dL_does_80 : decode cL_does 80 = .ok (.if_icmp .ne 12, 3) := by decide +kernel
theorem dL_does_83 : decode cL_does 83 = .ok (.aload_n 0, 1) := by decide +kernel
theorem dL_does_84 : decode cL_does 84 = .ok (.iload_n 2, 1) := by decide +kernel
theorem dL_does_85 : decode cL_does 85 = .ok (.iload_n 3, 1) := by decide +kernel
theorem dL_does_86 : decode cL_does 86 = .ok (.invokevirtual 73, 3) := by decide +kernel
theorem dL_does_89 : decode cL_does 89 = .ok (.goto 64, 3) := by decide +kernel
theorem dL_does_92 : decode cL_does 92 = .ok (.iload_n 1, 1) := by decide +kernel
theorem dL_does_93 : decode cL_does 93 = .ok (.bipush 6, 2) := by decide +kernel
theorem dL_does_95 : decode cL_does 95 = .ok (.if_icmp .ne 11, 3) := by decide +kernel
theorem dL_does_98 : decode cL_does 98 = .ok (.aload_n 0, 1) := by decide +kernel
theorem dL_does_99 : decode cL_does 99 = .ok (.iload_n 2, 1) := by decide +kernel
theorem dL_does_100 : decode cL_does 100 = .ok (.invokevirtual 76, 3) := by decide +kernel
theorem dL_does_103 : decode cL_does 103 = .ok (.goto 50, 3) := by decide +kernel
theorem dL_does_106 : decode cL_does 106 = .ok (.iload_n 1, 1) := by decide +kernel
theorem dL_does_107 : decode cL_does 107 = .ok (.bipush 7, 2) := by decide +kernel
theorem dL_does_109 : decode cL_does 109 = .ok (.if_icmp .ne 25, 3) := by decide +kernel
theorem dL_does_112 : decode cL_does 112 = .ok (.aload_n 0, 1) := by decide +kernel
theorem dL_does_113 : decode cL_does 113 = .ok (.iload_n 2, 1) := by decide +kernel
theorem dL_does_114 : decode cL_does 114 = .ok (.iload_n 3, 1) := by decide +kernel
theorem dL_does_115 : decode cL_does 115 = .ok (.iload 4, 2) := by decide +kernel
theorem dL_does_117 : decode cL_does 117 = .ok (.iload 5, 2) := by decide +kernel
theorem dL_does_119 : decode cL_does 119 = .ok (.iconst 1, 1) := by decide +kernel
theorem dL_does_120 : decode cL_does 120 = .ok (.if_icmp .ne 7, 3) := by decide +kernel
theorem dL_does_123 : decode cL_does 123 = .ok (.iconst 1, 1) := by decide +kernel
theorem dL_does_124 : decode cL_does 124 = .ok (.goto 4, 3) := by decide +kernel
theorem dL_does_127 : decode cL_does 127 = .ok (.iconst 0, 1) := by decide +kernel
theorem dL_does_128 : decode cL_does 128 = .ok (.invokevirtual 79, 3) := by decide +kernel
theorem dL_does_131 : decode cL_does 131 = .ok (.goto 22, 3) := by decide +kernel
theorem dL_does_134 : decode cL_does 134 = .ok (.iload_n 1, 1) := by decide +kernel
theorem dL_does_135 : decode cL_does 135 = .ok (.bipush 8, 2) := by decide +kernel
theorem dL_does_137 : decode cL_does 137 = .ok (.if_icmp .ne 11, 3) := by decide +kernel
theorem dL_does_140 : decode cL_does 140 = .ok (.aload_n 0, 1) := by decide +kernel
theorem dL_does_141 : decode cL_does 141 = .ok (.iload_n 2, 1) := by decide +kernel
theorem dL_does_142 : decode cL_does 142 = .ok (.invokevirtual 83, 3) := by decide +kernel
theorem dL_does_145 : decode cL_does 145 = .ok (.goto 8, 3) := by decide +kernel
theorem dL_does_148 : decode cL_does 148 = .ok (.aload_n 0, 1) := by decide +kernel
theorem dL_does_149 : decode cL_does 149 = .ok (.iload_n 2, 1) := by decide +kernel
theorem dL_does_150 : decode cL_does 150 = .ok (.invokevirtual 85, 3) := by decide +kernel
theorem dL_does_153 : decode cL_does 153 = .ok (.ireturn, 1) := by decide +kernel
theorem dL_does_154 : decode cL_does 154 = .ok (.astore 7, 2) := by decide +kernel
theorem dL_does_156 : decode cL_does 156 = .ok (.ldc 90, 2) := by decide +kernel
theorem dL_does_158 : decode cL_does 158 = .ok (.ireturn, 1) := by decide +kernel
theorem dL_does_159 : decode cL_does 159 = .ok (.astore 7, 2) := by decide +kernel
theorem dL_does_161 : decode cL_does 161 = .ok (.ldc 93, 2) := by decide +kernel
theorem dL_does_163 : decode cL_does 163 = .ok (.ireturn, 1) := by decide +kernel
theorem dL_does_164 : decode cL_does 164 = .ok (.astore 7, 2) := by decide +kernel
theorem dL_does_166 : decode cL_does 166 = .ok (.ldc 96, 2) := by decide +kernel
theorem dL_does_168 : decode cL_does 168 = .ok (.ireturn, 1) := by decide +kernel
set_option maxRecDepth 20000 in
theorem ggL_areStars_L_many : GoodIn wsL_areStars wsL_many := goodIn_r _ [5, 6, 7, 4, 8] (by decide +kernel) (by decide +kernel)
set_option maxRecDepth 20000 in
theorem gL_areStars_L_many : GoodIn wsL_areStars (va_wsS RL 43 yL_many wsL_many) := goodIn_app (goodIn_of _ (by decide +kernel)) ggL_areStars_L_many
set_option maxRecDepth 20000 in
theorem ggL_areStars_L_claim : GoodIn wsL_areStars wsL_claim := goodIn_r _ [11] (by decide +kernel) (by decide +kernel)
set_option maxRecDepth 20000 in
theorem gL_areStars_L_claim : GoodIn wsL_areStars (va_wsS RL 35 yL_claim wsL_claim) := goodIn_app (goodIn_of _ (by decide +kernel)) ggL_areStars_L_claim
set_option maxRecDepth 20000 in
theorem ggL_areStars_X10_entry : GoodIn wsL_areStars wsX10_entry := goodIn_ca (goodIn_r _ [16, 17, 18, 19, 20, 15, 21, 22, 23, 24, 25, 26, 27, 28, 29, 30, 31, 32, 33, 34, 35, 36, 37, 38, 39, 40, 41, 42, 43, 44, 45, 46, 47, 48, 376, 377, 378, 379, 380, 381, 382, 383, 384, 385, 386, 387, 388, 389, 390, 391, 392, 393, 394, 395, 396] (by decide +kernel) (by decide +kernel)) (goodIn_sub (fun _ h => List.mem_cons_of_mem _ (List.mem_append_left _ (List.mem_append_left _ (List.mem_append_right _ h)))) (by decide +kernel))
set_option maxRecDepth 20000 in
theorem gL_areStars_X10_entry : GoodIn wsL_areStars (wsV RL 97 RX10 yX10_entry wsX10_entry) := goodIn_app (goodIn_of _ (by decide +kernel)) ggL_areStars_X10_entry
set_option maxRecDepth 20000 in
theorem ggL_areStars_L_lowest : GoodIn wsL_areStars wsL_lowest := goodIn_r _ [51] (by decide +kernel) (by decide +kernel)
set_option maxRecDepth 20000 in
theorem gL_areStars_L_lowest : GoodIn wsL_areStars (va_wsS RL 51 yL_lowest wsL_lowest) := goodIn_app (goodIn_of _ (by decide +kernel)) ggL_areStars_L_lowest
set_option maxRecDepth 20000 in
theorem ggL_areStars_X10_string : GoodIn wsL_areStars wsX10_string := goodIn_ca (goodIn_ca (goodIn_r _ [55, 17, 18, 19, 20, 15, 21, 22, 23, 24, 25, 26, 27, 28, 29, 30, 31, 32, 33, 34, 35, 36, 37, 38, 39, 40, 41, 42, 43, 44, 45, 46, 47, 48, 56, 57, 58, 59, 60, 61, 62, 63, 64, 65, 66, 67, 68, 69, 70, 71, 72, 73, 74, 75, 76, 77, 78, 79, 80, 81, 82, 83, 84, 85, 86, 87, 88, 89, 90, 91, 92, 93, 94, 95, 96, 97, 98, 99, 100, 101, 102, 103, 104, 105, 106, 107, 108, 109, 110, 111, 112, 113, 114, 115, 116, 117, 118, 119, 120, 121, 122, 123, 124, 125, 126, 127, 128, 129, 130, 131, 132, 133, 134, 135, 136, 137, 138, 139, 140, 141, 142, 143, 144, 145, 146, 147, 148, 149, 150, 151, 152, 153, 154, 155, 156, 157, 158, 159, 160, 161, 162, 163, 164, 165, 166, 167, 168, 169, 170, 171, 172, 173, 174, 175, 176, 177, 178, 179, 180, 376, 377, 378, 379, 380, 381, 382, 383, 384, 385, 386, 387, 388, 389, 390, 391, 392, 393, 394, 395, 396, 397, 398, 399, 400, 401, 402, 403, 404, 405, 406, 407, 408, 409, 410, 411, 412, 413, 414, 415, 416, 417] (by decide +kernel) (by decide +kernel)) (goodIn_sub (fun _ h => List.mem_cons_of_mem _ (List.mem_append_left _ (List.mem_append_left _ (List.mem_append_right _ h)))) (by decide +kernel))) (goodIn_sub (fun _ h => List.mem_cons_of_mem _ (List.mem_append_left _ (List.mem_append_right _ h))) (by decide +kernel))
set_option maxRecDepth 20000 in
theorem gL_areStars_X10_string : GoodIn wsL_areStars (wsV RL 100 RX10 yX10_string wsX10_string) := goodIn_app (goodIn_of _ (by decide +kernel)) ggL_areStars_X10_string
set_option maxRecDepth 20000 in
theorem ggL_areStars_L_string : GoodIn wsL_areStars wsL_string := goodIn_r _ [183, 6, 7, 4, 8, 184, 185, 186] (by decide +kernel) (by decide +kernel)
set_option maxRecDepth 20000 in
theorem gL_areStars_L_string : GoodIn wsL_areStars (va_wsS RL 103 yL_string wsL_string) := goodIn_app (goodIn_of _ (by decide +kernel)) ggL_areStars_L_string
set_option maxRecDepth 20000 in
theorem ggL_areStars_X10_together : GoodIn wsL_areStars wsX10_together := goodIn_ca (goodIn_ca (goodIn_r _ [190, 17, 18, 19, 20, 15, 21, 22, 23, 24, 25, 26, 27, 28, 29, 30, 31, 32, 33, 34, 35, 36, 37, 38, 39, 40, 41, 42, 43, 44, 45, 46, 47, 48, 56, 57, 58, 59, 60, 61, 62, 63, 64, 65, 66, 67, 68, 69, 70, 71, 72, 73, 74, 75, 76, 77, 78, 79, 80, 81, 82, 83, 84, 85, 86, 87, 88, 89, 90, 91, 92, 93, 94, 95, 96, 97, 98, 99, 100, 101, 102, 103, 104, 105, 106, 107, 108, 109, 110, 111, 112, 113, 114, 115, 116, 117, 118, 119, 120, 121, 122, 123, 124, 125, 126, 127, 128, 129, 130, 131, 132, 133, 134, 135, 136, 137, 138, 139, 140, 141, 142, 143, 144, 145, 146, 147, 148, 149, 150, 151, 152, 153, 154, 155, 156, 157, 158, 159, 160, 161, 162, 163, 164, 165, 166, 167, 168, 169, 170, 171, 172, 173, 174, 175, 176, 177, 178, 179, 180, 376, 377, 378, 379, 380, 381, 382, 383, 384, 385, 386, 387, 388, 389, 390, 391, 392, 393, 394, 395, 396, 397, 398, 399, 400, 401, 402, 403, 404, 405, 406, 407, 408, 409, 410, 411, 412, 413, 414, 415, 416, 417] (by decide +kernel) (by decide +kernel)) (goodIn_sub (fun _ h => List.mem_cons_of_mem _ (List.mem_append_left _ (List.mem_append_left _ (List.mem_append_right _ h)))) (by decide +kernel))) (goodIn_sub (fun _ h => List.mem_cons_of_mem _ (List.mem_append_left _ (List.mem_append_right _ h))) (by decide +kernel))
set_option maxRecDepth 20000 in
theorem gL_areStars_X10_together : GoodIn wsL_areStars (wsV RL 106 RX10 yX10_together wsX10_together) := goodIn_app (goodIn_of _ (by decide +kernel)) ggL_areStars_X10_together
set_option maxRecDepth 20000 in
theorem ggL_areStars_L_does : GoodIn wsL_areStars wsL_does := goodIn_ca (goodIn_ca (goodIn_ca (goodIn_r _ [193, 194, 195, 196, 197, 198, 1, 199, 200, 201, 15, 202, 203, 204, 17, 205, 97, 98, 99, 206, 207, 208, 18, 19, 20, 21, 22, 23, 24, 25, 26, 27, 28, 29, 30, 31, 32, 33, 34, 35, 36, 37, 38, 39, 40, 41, 42, 43, 44, 45, 46, 47, 48, 209, 210, 211, 212, 213, 214, 215, 216, 217, 218, 219, 220, 221, 222, 223, 224, 225, 226, 227, 228, 59, 56, 57, 58, 60, 61, 62, 63, 64, 229, 100, 101, 102, 103, 104, 105, 230, 231, 232, 233, 69, 65, 66, 67, 68, 70, 71, 72, 73, 74, 75, 76, 77, 78, 79, 80, 81, 82, 83, 84, 85, 86, 87, 88, 89, 90, 91, 92, 93, 94, 95, 96, 106, 107, 108, 109, 110, 111, 112, 113, 114, 115, 116, 117, 118, 119, 120, 121, 122, 123, 124, 125, 126, 127, 128, 129, 130, 131, 132, 133, 134, 135, 136, 137, 138, 139, 140, 141, 142, 143, 144, 145, 146, 147, 148, 149, 150, 151, 152, 153, 154, 155, 156, 157, 158, 159, 168, 169, 170, 171, 234, 235, 236, 237, 238, 160, 161, 162, 163, 164, 165, 166, 167, 172, 173, 174, 175, 176, 177, 178, 179, 180, 239, 240, 241, 242, 243, 244, 245, 246, 247, 248, 249, 250, 251, 252, 253, 254, 255, 256, 257, 258, 259, 260, 261, 262, 263, 264, 265, 266, 267, 268, 269, 270, 271, 272, 273, 274, 275, 276, 277, 278, 279, 280, 281, 282, 283, 284, 285, 286, 287, 288, 289, 290, 291, 292, 293, 294, 295, 296, 297, 298, 299, 300, 301, 302, 303, 304, 305, 306, 307, 308, 309, 310, 311, 312, 313, 314, 315, 316, 317, 318, 319, 320, 321, 322, 323, 324, 325, 326, 327, 328, 329, 330, 331, 332, 333, 334, 335, 336, 337, 338, 339, 340, 341, 342, 343, 344, 345, 346, 347, 348, 349, 350, 376, 377, 378, 379, 380, 381, 382, 383, 384, 385, 386, 387, 388, 389, 390, 391, 392, 393, 394, 395, 396, 397, 398, 399, 400, 401, 402, 403, 404, 405, 406, 407, 408, 409, 410, 411, 412, 413, 414, 415, 416, 417, 418, 419, 420, 421, 422, 423, 424, 425] (by decide +kernel) (by decide +kernel)) (goodIn_sub (fun _ h => List.mem_cons_of_mem _ (List.mem_append_right _ h)) (by decide +kernel))) (goodIn_sub (fun _ h => List.mem_cons_of_mem _ (List.mem_append_left _ (List.mem_append_left _ (List.mem_append_right _ h)))) (by decide +kernel))) (goodIn_sub (fun _ h => List.mem_cons_of_mem _ (List.mem_append_left _ (List.mem_append_right _ h))) (by decide +kernel))
set_option maxRecDepth 20000 in
theorem gL_areStars_L_does : GoodIn wsL_areStars (va_wsS RL 110 yL_does wsL_does) := goodIn_app (goodIn_of _ (by decide +kernel)) ggL_areStars_L_does
set_option maxRecDepth 20000 in
theorem ggL_areStars_L_mean : GoodIn wsL_areStars wsL_mean := goodIn_r _ [353, 6, 7, 4, 8, 2, 3, 5, 354, 355, 356] (by decide +kernel) (by decide +kernel)
set_option maxRecDepth 20000 in
theorem gL_areStars_L_mean : GoodIn wsL_areStars (va_wsS RL 47 yL_mean wsL_mean) := goodIn_app (goodIn_of _ (by decide +kernel)) ggL_areStars_L_mean
set_option maxRecDepth 20000 in
theorem ggL_areStars_L_modulus : GoodIn wsL_areStars wsL_modulus := goodIn_r _ [359, 9, 10, 4, 11, 351, 352, 353, 6, 7, 8, 2, 3, 5, 354, 355, 356, 49, 50, 51] (by decide +kernel) (by decide +kernel)
set_option maxRecDepth 20000 in
theorem gL_areStars_L_modulus : GoodIn wsL_areStars (va_wsS RL 114 yL_modulus wsL_modulus) := goodIn_app (goodIn_of _ (by decide +kernel)) ggL_areStars_L_modulus
set_option maxRecDepth 20000 in
theorem ggL_areStars_L_votes : GoodIn wsL_areStars wsL_votes := goodIn_r _ [362, 363, 364, 4, 365, 9, 10, 11, 6, 7, 8] (by decide +kernel) (by decide +kernel)
set_option maxRecDepth 20000 in
theorem gL_areStars_L_votes : GoodIn wsL_areStars (va_wsS RL 117 yL_votes wsL_votes) := goodIn_app (goodIn_of _ (by decide +kernel)) ggL_areStars_L_votes
set_option maxRecDepth 20000 in
theorem ggL_areStars_L_feature : GoodIn wsL_areStars wsL_feature := goodIn_r _ [365, 9, 10, 4, 11, 6, 7, 8] (by decide +kernel) (by decide +kernel)
set_option maxRecDepth 20000 in
theorem gL_areStars_L_feature : GoodIn wsL_areStars (va_wsS RL 39 yL_feature wsL_feature) := goodIn_app (goodIn_of _ (by decide +kernel)) ggL_areStars_L_feature
set_option maxRecDepth 20000 in
theorem ggL_areStars_X10_entries : GoodIn wsL_areStars wsX10_entries := goodIn_ca (goodIn_r _ [369, 22, 23, 24, 25, 26, 27, 28, 29, 30, 31, 32, 33, 34, 35, 36, 37, 38, 39, 40, 41, 42, 43, 44, 45, 46, 47, 48, 370, 371, 372, 93, 373, 374, 375, 381, 382, 383, 384, 385, 386, 387, 388, 389, 390, 391, 392, 393, 394, 395, 396, 376, 377, 378, 379, 380] (by decide +kernel) (by decide +kernel)) (goodIn_sub (fun _ h => List.mem_cons_of_mem _ (List.mem_append_left _ (List.mem_append_left _ (List.mem_append_right _ h)))) (by decide +kernel))
set_option maxRecDepth 20000 in
theorem gL_areStars_X10_entries : GoodIn wsL_areStars (wsV RL 120 RX10 yX10_entries wsX10_entries) := goodIn_app (goodIn_of _ (by decide +kernel)) ggL_areStars_X10_entries
theorem dL_areStars_0 : decode cL_areStars 0 = .ok (.iconst 1, 1) := by decide +kernel
theorem dL_areStars_1 : decode cL_areStars 1 = .ok (.istore 8, 2) := by decide +kernel
theorem dL_areStars_3 : decode cL_areStars 3 = .ok (.iconst 0, 1) := by decide +kernel
theorem dL_areStars_4 : decode cL_areStars 4 = .ok (.istore 9, 2) := by decide +kernel
theorem dL_areStars_6 : decode cL_areStars 6 = .ok (.iconst 0, 1) := by decide +kernel
theorem dL_areStars_7 : decode cL_areStars 7 = .ok (.istore 10, 2) := by decide +kernel
theorem dL_areStars_9 : decode cL_areStars 9 = .ok (.iload 10, 2) := by decide +kernel
theorem dL_areStars_11 : decode cL_areStars 11 = .ok (.aload 4, 2) := by decide +kernel
theorem dL_areStars_13 : decode cL_areStars 13 = .ok (.iconst 0, 1) := by decide +kernel
theorem dL_areStars_14 : decode cL_areStars 14 = .ok (.iaload, 1) := by decide +kernel
theorem dL_areStars_15 : decode cL_areStars 15 = .ok (.if_icmp .ge 481, 3) := by decide +kernel
theorem dL_areStars_18 : decode cL_areStars 18 = .ok (.iload 8, 2) := by decide +kernel
theorem dL_areStars_20 : decode cL_areStars 20 = .ok (.ifCond .eq 476, 3) := by decide +kernel
theorem dL_areStars_23 : decode cL_areStars 23 = .ok (.aload_n 1, 1) := by decide +kernel
theorem dL_areStars_24 : decode cL_areStars 24 = .ok (.iconst 4, 1) := by decide +kernel
theorem dL_areStars_25 : decode cL_areStars 25 = .ok (.iload 10, 2) := by decide +kernel
theorem dL_areStars_27 : decode cL_areStars 27 = .ok (.imul, 1) := by decide +kernel
theorem dL_areStars_28 : decode cL_areStars 28 = .ok (.iconst 1, 1) := by decide +kernel
theorem dL_areStars_29 : decode cL_areStars 29 = .ok (.iadd, 1) := by decide +kernel
theorem dL_areStars_30 : decode cL_areStars 30 = .ok (.iaload, 1) := by decide +kernel
theorem dL_areStars_31 : decode cL_areStars 31 = .ok (.istore 11, 2) := by decide +kernel
theorem dL_areStars_33 : decode cL_areStars 33 = .ok (.bipush 30, 2) := by decide +kernel
theorem dL_areStars_35 : decode cL_areStars 35 = .ok (.iload 7, 2) := by decide +kernel
theorem dL_areStars_37 : decode cL_areStars 37 = .ok (.iload 7, 2) := by decide +kernel
theorem dL_areStars_39 : decode cL_areStars 39 = .ok (.iconst 2, 1) := by decide +kernel
theorem dL_areStars_40 : decode cL_areStars 40 = .ok (.irem, 1) := by decide +kernel
theorem dL_areStars_41 : decode cL_areStars 41 = .ok (.ifCond .ne 9, 3) := by decide +kernel
theorem dL_areStars_44 : decode cL_areStars 44 = .ok (.sipush 3000, 3) := by decide +kernel
theorem dL_areStars_47 : decode cL_areStars 47 = .ok (.goto 6, 3) := by decide +kernel
theorem dL_areStars_50 : decode cL_areStars 50 = .ok (.sipush 400, 3) := by decide +kernel
theorem dL_areStars_53 : decode cL_areStars 53 = .ok (.irem, 1) := by decide +kernel
theorem dL_areStars_54 : decode cL_areStars 54 = .ok (.iadd, 1) := by decide +kernel
theorem dL_areStars_55 : decode cL_areStars 55 = .ok (.istore 12, 2) := by decide +kernel
theorem dL_areStars_57 : decode cL_areStars 57 = .ok (.aload_n 2, 1) := by decide +kernel
theorem dL_areStars_58 : decode cL_areStars 58 = .ok (.aload 4, 2) := by decide +kernel
theorem dL_areStars_60 : decode cL_areStars 60 = .ok (.iload 11, 2) := by decide +kernel
theorem dL_areStars_62 : decode cL_areStars 62 = .ok (.invokestatic 43, 3) := by decide +kernel
theorem dL_areStars_65 : decode cL_areStars 65 = .ok (.ifCond .le 7, 3) := by decide +kernel
theorem dL_areStars_68 : decode cL_areStars 68 = .ok (.iconst 1, 1) := by decide +kernel
theorem dL_areStars_69 : decode cL_areStars 69 = .ok (.goto 4, 3) := by decide +kernel
theorem dL_areStars_72 : decode cL_areStars 72 = .ok (.iconst 0, 1) := by decide +kernel
theorem dL_areStars_73 : decode cL_areStars 73 = .ok (.istore 13, 2) := by decide +kernel
theorem dL_areStars_75 : decode cL_areStars 75 = .ok (.iload 13, 2) := by decide +kernel
theorem dL_areStars_77 : decode cL_areStars 77 = .ok (.ifCond .eq 16, 3) := by decide +kernel
theorem dL_areStars_80 : decode cL_areStars 80 = .ok (.aload_n 1, 1) := by decide +kernel
theorem dL_areStars_81 : decode cL_areStars 81 = .ok (.iload 11, 2) := by decide +kernel
theorem dL_areStars_83 : decode cL_areStars 83 = .ok (.invokestatic 35, 3) := by decide +kernel
theorem dL_areStars_86 : decode cL_areStars 86 = .ok (.ifCond .le 7, 3) := by decide +kernel
theorem dL_areStars_89 : decode cL_areStars 89 = .ok (.iconst 1, 1) := by decide +kernel
theorem dL_areStars_90 : decode cL_areStars 90 = .ok (.goto 4, 3) := by decide +kernel
theorem dL_areStars_93 : decode cL_areStars 93 = .ok (.iconst 0, 1) := by decide +kernel
theorem dL_areStars_94 : decode cL_areStars 94 = .ok (.istore 14, 2) := by decide +kernel
theorem dL_areStars_96 : decode cL_areStars 96 = .ok (.aload_n 0, 1) := by decide +kernel
theorem dL_areStars_97 : decode cL_areStars 97 = .ok (.iload 10, 2) := by decide +kernel
theorem dL_areStars_99 : decode cL_areStars 99 = .ok (.invokevirtual 97, 3) := by decide +kernel
theorem dL_areStars_102 : decode cL_areStars 102 = .ok (.iload 11, 2) := by decide +kernel
theorem dL_areStars_104 : decode cL_areStars 104 = .ok (.invokestatic 51, 3) := by decide +kernel
theorem dL_areStars_107 : decode cL_areStars 107 = .ok (.if_icmp .ne 149, 3) := by decide +kernel
theorem dL_areStars_110 : decode cL_areStars 110 = .ok (.aload_n 0, 1) := by decide +kernel
theorem dL_areStars_111 : decode cL_areStars 111 = .ok (.iload 10, 2) := by decide +kernel
theorem dL_areStars_113 : decode cL_areStars 113 = .ok (.iload 12, 2) := by decide +kernel
theorem dL_areStars_115 : decode cL_areStars 115 = .ok (.invokevirtual 100, 3) := by decide +kernel
theorem dL_areStars_118 : decode cL_areStars 118 = .ok (.aload_n 2, 1) := by decide +kernel
theorem dL_areStars_119 : decode cL_areStars 119 = .ok (.aload 4, 2) := by decide +kernel
theorem dL_areStars_121 : decode cL_areStars 121 = .ok (.aload 5, 2) := by decide +kernel
theorem dL_areStars_123 : decode cL_areStars 123 = .ok (.aload 6, 2) := by decide +kernel
theorem dL_areStars_125 : decode cL_areStars 125 = .ok (.iload 11, 2) := by decide +kernel
theorem dL_areStars_127 : decode cL_areStars 127 = .ok (.iload 12, 2) := by decide +kernel
theorem dL_areStars_129 : decode cL_areStars 129 = .ok (.invokestatic 103, 3) := by decide +kernel
theorem dL_areStars_132 : decode cL_areStars 132 = .ok (.if_icmp .ne 124, 3) := by decide +kernel
theorem dL_areStars_135 : decode cL_areStars 135 = .ok (.aload_n 0, 1) := by decide +kernel
theorem dL_areStars_136 : decode cL_areStars 136 = .ok (.iload 10, 2) := by decide +kernel
theorem dL_areStars_138 : decode cL_areStars 138 = .ok (.iload 7, 2) := by decide +kernel
theorem dL_areStars_140 : decode cL_areStars 140 = .ok (.aload 4, 2) := by decide +kernel
theorem dL_areStars_142 : decode cL_areStars 142 = .ok (.iconst 0, 1) := by decide +kernel
theorem dL_areStars_143 : decode cL_areStars 143 = .ok (.iaload, 1) := by decide +kernel
theorem dL_areStars_144 : decode cL_areStars 144 = .ok (.irem, 1) := by decide +kernel
theorem dL_areStars_145 : decode cL_areStars 145 = .ok (.iload 12, 2) := by decide +kernel
theorem dL_areStars_147 : decode cL_areStars 147 = .ok (.invokevirtual 106, 3) := by decide +kernel
theorem dL_areStars_150 : decode cL_areStars 150 = .ok (.aload_n 2, 1) := by decide +kernel
theorem dL_areStars_151 : decode cL_areStars 151 = .ok (.aload 4, 2) := by decide +kernel
theorem dL_areStars_153 : decode cL_areStars 153 = .ok (.aload 5, 2) := by decide +kernel
theorem dL_areStars_155 : decode cL_areStars 155 = .ok (.aload 6, 2) := by decide +kernel
theorem dL_areStars_157 : decode cL_areStars 157 = .ok (.iload 11, 2) := by decide +kernel
theorem dL_areStars_159 : decode cL_areStars 159 = .ok (.aload_n 1, 1) := by decide +kernel
theorem dL_areStars_160 : decode cL_areStars 160 = .ok (.iconst 4, 1) := by decide +kernel
theorem dL_areStars_161 : decode cL_areStars 161 = .ok (.iload 7, 2) := by decide +kernel
theorem dL_areStars_163 : decode cL_areStars 163 = .ok (.aload 4, 2) := by decide +kernel
theorem dL_areStars_165 : decode cL_areStars 165 = .ok (.iconst 0, 1) := by decide +kernel
theorem dL_areStars_166 : decode cL_areStars 166 = .ok (.iaload, 1) := by decide +kernel
theorem dL_areStars_167 : decode cL_areStars 167 = .ok (.irem, 1) := by decide +kernel
theorem dL_areStars_168 : decode cL_areStars 168 = .ok (.imul, 1) := by decide +kernel
theorem dL_areStars_169 : decode cL_areStars 169 = .ok (.iconst 1, 1) := by decide +kernel
theorem dL_areStars_170 : decode cL_areStars 170 = .ok (.iadd, 1) := by decide +kernel
theorem dL_areStars_171 : decode cL_areStars 171 = .ok (.iaload, 1) := by decide +kernel
theorem dL_areStars_172 : decode cL_areStars 172 = .ok (.ior, 1) := by decide +kernel
theorem dL_areStars_173 : decode cL_areStars 173 = .ok (.iload 12, 2) := by decide +kernel
theorem dL_areStars_175 : decode cL_areStars 175 = .ok (.invokestatic 103, 3) := by decide +kernel
theorem dL_areStars_178 : decode cL_areStars 178 = .ok (.if_icmp .ne 78, 3) := by decide +kernel
theorem dL_areStars_181 : decode cL_areStars 181 = .ok (.aload_n 0, 1) := by decide +kernel
theorem dL_areStars_182 : decode cL_areStars 182 = .ok (.bipush 8, 2) := by decide +kernel
theorem dL_areStars_184 : decode cL_areStars 184 = .ok (.iload 10, 2) := by decide +kernel
theorem dL_areStars_186 : decode cL_areStars 186 = .ok (.iconst 0, 1) := by decide +kernel
theorem dL_areStars_187 : decode cL_areStars 187 = .ok (.iconst 0, 1) := by decide +kernel
theorem dL_areStars_188 : decode cL_areStars 188 = .ok (.iconst 0, 1) := by decide +kernel
theorem dL_areStars_189 : decode cL_areStars 189 = .ok (.iconst 0, 1) := by decide +kernel
theorem dL_areStars_190 : decode cL_areStars 190 = .ok (.invokestatic 110, 3) := by decide +kernel
theorem dL_areStars_193 : decode cL_areStars 193 = .ok (.iload 13, 2) := by decide +kernel
theorem dL_areStars_195 : decode cL_areStars 195 = .ok (.ifCond .eq 16, 3) := by decide +kernel
theorem dL_areStars_198 : decode cL_areStars 198 = .ok (.aload_n 2, 1) := by decide +kernel
theorem dL_areStars_199 : decode cL_areStars 199 = .ok (.aload 4, 2) := by decide +kernel
theorem dL_areStars_201 : decode cL_areStars 201 = .ok (.aload 5, 2) := by decide +kernel
theorem dL_areStars_203 : decode cL_areStars 203 = .ok (.iload 11, 2) := by decide +kernel
theorem dL_areStars_205 : decode cL_areStars 205 = .ok (.invokestatic 47, 3) := by decide +kernel
theorem dL_areStars_208 : decode cL_areStars 208 = .ok (.goto 5, 3) := by decide +kernel
theorem dL_areStars_211 : decode cL_areStars 211 = .ok (.ldc 96, 2) := by decide +kernel
theorem dL_areStars_213 : decode cL_areStars 213 = .ok (.if_icmp .ne 43, 3) := by decide +kernel
theorem dL_areStars_216 : decode cL_areStars 216 = .ok (.aload_n 0, 1) := by decide +kernel
theorem dL_areStars_217 : decode cL_areStars 217 = .ok (.bipush 9, 2) := by decide +kernel
theorem dL_areStars_219 : decode cL_areStars 219 = .ok (.iload 10, 2) := by decide +kernel
theorem dL_areStars_221 : decode cL_areStars 221 = .ok (.iconst 0, 1) := by decide +kernel
theorem dL_areStars_222 : decode cL_areStars 222 = .ok (.iconst 0, 1) := by decide +kernel
theorem dL_areStars_223 : decode cL_areStars 223 = .ok (.iconst 0, 1) := by decide +kernel
theorem dL_areStars_224 : decode cL_areStars 224 = .ok (.iconst 0, 1) := by decide +kernel
theorem dL_areStars_225 : decode cL_areStars 225 = .ok (.invokestatic 110, 3) := by decide +kernel
theorem dL_areStars_228 : decode cL_areStars 228 = .ok (.iload 14, 2) := by decide +kernel
theorem dL_areStars_230 : decode cL_areStars 230 = .ok (.ifCond .eq 17, 3) := by decide +kernel
theorem dL_areStars_233 : decode cL_areStars 233 = .ok (.aload_n 1, 1) := by decide +kernel
theorem dL_areStars_234 : decode cL_areStars 234 = .ok (.aload_n 2, 1) := by decide +kernel
theorem dL_areStars_235 : decode cL_areStars 235 = .ok (.aload 4, 2) := by decide +kernel
theorem dL_areStars_237 : decode cL_areStars 237 = .ok (.aload 5, 2) := by decide +kernel
theorem dL_areStars_239 : decode cL_areStars 239 = .ok (.iload 11, 2) := by decide +kernel
theorem dL_areStars_241 : decode cL_areStars 241 = .ok (.invokestatic 114, 3) := by decide +kernel
theorem dL_areStars_244 : decode cL_areStars 244 = .ok (.goto 5, 3) := by decide +kernel
theorem dL_areStars_247 : decode cL_areStars 247 = .ok (.ldc 96, 2) := by decide +kernel
theorem dL_areStars_249 : decode cL_areStars 249 = .ok (.if_icmp .ne 7, 3) := by decide +kernel
theorem dL_areStars_252 : decode cL_areStars 252 = .ok (.iconst 1, 1) := by decide +kernel
theorem dL_areStars_253 : decode cL_areStars 253 = .ok (.goto 4, 3) := by decide +kernel
theorem dL_areStars_256 : decode cL_areStars 256 = .ok (.iconst 0, 1) := by decide +kernel
theorem dL_areStars_257 : decode cL_areStars 257 = .ok (.istore 8, 2) := by decide +kernel
theorem dL_areStars_259 : decode cL_areStars 259 = .ok (.iconst (-1), 1) := by decide +kernel
theorem dL_areStars_260 : decode cL_areStars 260 = .ok (.istore 15, 2) := by decide +kernel
theorem dL_areStars_262 : decode cL_areStars 262 = .ok (.iconst 0, 1) := by decide +kernel
theorem dL_areStars_263 : decode cL_areStars 263 = .ok (.istore 16, 2) := by decide +kernel
theorem dL_areStars_265 : decode cL_areStars 265 = .ok (.iconst 0, 1) := by decide +kernel
theorem dL_areStars_266 : decode cL_areStars 266 = .ok (.istore 17, 2) := by decide +kernel
theorem dL_areStars_268 : decode cL_areStars 268 = .ok (.iload 17, 2) := by decide +kernel
theorem dL_areStars_270 : decode cL_areStars 270 = .ok (.iconst 5, 1) := by decide +kernel
theorem dL_areStars_271 : decode cL_areStars 271 = .ok (.if_icmp .ge 144, 3) := by decide +kernel
theorem dL_areStars_274 : decode cL_areStars 274 = .ok (.iload 8, 2) := by decide +kernel
theorem dL_areStars_276 : decode cL_areStars 276 = .ok (.ifCond .eq 139, 3) := by decide +kernel
theorem dL_areStars_279 : decode cL_areStars 279 = .ok (.iload 14, 2) := by decide +kernel
theorem dL_areStars_281 : decode cL_areStars 281 = .ok (.ifCond .eq 22, 3) := by decide +kernel
theorem dL_areStars_284 : decode cL_areStars 284 = .ok (.aload_n 1, 1) := by decide +kernel
theorem dL_areStars_285 : decode cL_areStars 285 = .ok (.aload_n 2, 1) := by decide +kernel
theorem dL_areStars_286 : decode cL_areStars 286 = .ok (.aload_n 3, 1) := by decide +kernel
theorem dL_areStars_287 : decode cL_areStars 287 = .ok (.aload 4, 2) := by decide +kernel
theorem dL_areStars_289 : decode cL_areStars 289 = .ok (.aload 5, 2) := by decide +kernel
theorem dL_areStars_291 : decode cL_areStars 291 = .ok (.aload 6, 2) := by decide +kernel
theorem dL_areStars_293 : decode cL_areStars 293 = .ok (.iload 11, 2) := by decide +kernel
theorem dL_areStars_295 : decode cL_areStars 295 = .ok (.iload 17, 2) := by decide +kernel
theorem dL_areStars_297 : decode cL_areStars 297 = .ok (.invokestatic 117, 3) := by decide +kernel
theorem dL_areStars_300 : decode cL_areStars 300 = .ok (.goto 5, 3) := by decide +kernel
theorem dL_areStars_303 : decode cL_areStars 303 = .ok (.ldc 96, 2) := by decide +kernel
theorem dL_areStars_305 : decode cL_areStars 305 = .ok (.istore 18, 2) := by decide +kernel
theorem dL_areStars_307 : decode cL_areStars 307 = .ok (.iload 18, 2) := by decide +kernel
theorem dL_areStars_309 : decode cL_areStars 309 = .ok (.iload 16, 2) := by decide +kernel
theorem dL_areStars_311 : decode cL_areStars 311 = .ok (.if_icmp .le 8, 3) := by decide +kernel
theorem dL_areStars_314 : decode cL_areStars 314 = .ok (.iload 17, 2) := by decide +kernel
theorem dL_areStars_316 : decode cL_areStars 316 = .ok (.goto 5, 3) := by decide +kernel
theorem dL_areStars_319 : decode cL_areStars 319 = .ok (.iload 15, 2) := by decide +kernel
theorem dL_areStars_321 : decode cL_areStars 321 = .ok (.istore 15, 2) := by decide +kernel
theorem dL_areStars_323 : decode cL_areStars 323 = .ok (.iload 18, 2) := by decide +kernel
theorem dL_areStars_325 : decode cL_areStars 325 = .ok (.iload 16, 2) := by decide +kernel
theorem dL_areStars_327 : decode cL_areStars 327 = .ok (.if_icmp .le 8, 3) := by decide +kernel
theorem dL_areStars_330 : decode cL_areStars 330 = .ok (.iload 18, 2) := by decide +kernel
theorem dL_areStars_332 : decode cL_areStars 332 = .ok (.goto 5, 3) := by decide +kernel
theorem dL_areStars_335 : decode cL_areStars 335 = .ok (.iload 16, 2) := by decide +kernel
theorem dL_areStars_337 : decode cL_areStars 337 = .ok (.istore 16, 2) := by decide +kernel
theorem dL_areStars_339 : decode cL_areStars 339 = .ok (.aload_n 0, 1) := by decide +kernel
theorem dL_areStars_340 : decode cL_areStars 340 = .ok (.iconst 5, 1) := by decide +kernel
theorem dL_areStars_341 : decode cL_areStars 341 = .ok (.iload 10, 2) := by decide +kernel
theorem dL_areStars_343 : decode cL_areStars 343 = .ok (.iload 17, 2) := by decide +kernel
theorem dL_areStars_345 : decode cL_areStars 345 = .ok (.iconst 0, 1) := by decide +kernel
theorem dL_areStars_346 : decode cL_areStars 346 = .ok (.iconst 0, 1) := by decide +kernel
theorem dL_areStars_347 : decode cL_areStars 347 = .ok (.iconst 0, 1) := by decide +kernel
theorem dL_areStars_348 : decode cL_areStars 348 = .ok (.invokestatic 110, 3) := by decide +kernel
theorem dL_areStars_351 : decode cL_areStars 351 = .ok (.iload 18, 2) := by decide +kernel
theorem dL_areStars_353 : decode cL_areStars 353 = .ok (.if_icmp .ne 53, 3) := by decide +kernel
theorem dL_areStars_356 : decode cL_areStars 356 = .ok (.iload 17, 2) := by decide +kernel
theorem dL_areStars_358 : decode cL_areStars 358 = .ok (.iconst 2, 1) := by decide +kernel
theorem dL_areStars_359 : decode cL_areStars 359 = .ok (.if_icmp .gt 43, 3) := by decide +kernel
theorem dL_areStars_362 : decode cL_areStars 362 = .ok (.aload_n 0, 1) := by decide +kernel
theorem dL_areStars_363 : decode cL_areStars 363 = .ok (.iconst 4, 1) := by decide +kernel
theorem dL_areStars_364 : decode cL_areStars 364 = .ok (.iload 10, 2) := by decide +kernel
theorem dL_areStars_366 : decode cL_areStars 366 = .ok (.iload 17, 2) := by decide +kernel
theorem dL_areStars_368 : decode cL_areStars 368 = .ok (.iconst 0, 1) := by decide +kernel
theorem dL_areStars_369 : decode cL_areStars 369 = .ok (.iconst 0, 1) := by decide +kernel
theorem dL_areStars_370 : decode cL_areStars 370 = .ok (.iconst 0, 1) := by decide +kernel
theorem dL_areStars_371 : decode cL_areStars 371 = .ok (.invokestatic 110, 3) := by decide +kernel
theorem dL_areStars_374 : decode cL_areStars 374 = .ok (.iload 14, 2) := by decide +kernel
theorem dL_areStars_376 : decode cL_areStars 376 = .ok (.ifCond .eq 21, 3) := by decide +kernel
theorem dL_areStars_379 : decode cL_areStars 379 = .ok (.aload_n 1, 1) := by decide +kernel
theorem dL_areStars_380 : decode cL_areStars 380 = .ok (.aload_n 2, 1) := by decide +kernel
theorem dL_areStars_381 : decode cL_areStars 381 = .ok (.aload 4, 2) := by decide +kernel
theorem dL_areStars_383 : decode cL_areStars 383 = .ok (.aload 5, 2) := by decide +kernel
theorem dL_areStars_385 : decode cL_areStars 385 = .ok (.aload 6, 2) := by decide +kernel
theorem dL_areStars_387 : decode cL_areStars 387 = .ok (.iload 11, 2) := by decide +kernel
theorem dL_areStars_389 : decode cL_areStars 389 = .ok (.iload 17, 2) := by decide +kernel
theorem dL_areStars_391 : decode cL_areStars 391 = .ok (.invokestatic 39, 3) := by decide +kernel
theorem dL_areStars_394 : decode cL_areStars 394 = .ok (.goto 5, 3) := by decide +kernel
theorem dL_areStars_397 : decode cL_areStars 397 = .ok (.ldc 96, 2) := by decide +kernel
theorem dL_areStars_399 : decode cL_areStars 399 = .ok (.if_icmp .ne 7, 3) := by decide +kernel
theorem dL_areStars_402 : decode cL_areStars 402 = .ok (.iconst 1, 1) := by decide +kernel
theorem dL_areStars_403 : decode cL_areStars 403 = .ok (.goto 4, 3) := by decide +kernel
theorem dL_areStars_406 : decode cL_areStars 406 = .ok (.iconst 0, 1) := by decide +kernel
theorem dL_areStars_407 : decode cL_areStars 407 = .ok (.istore 8, 2) := by decide +kernel
theorem dL_areStars_409 : decode cL_areStars 409 = .ok (.iinc 17 1, 3) := by decide +kernel
theorem dL_areStars_412 : decode cL_areStars 412 = .ok (.goto (-144), 3) := by decide +kernel
theorem dL_areStars_415 : decode cL_areStars 415 = .ok (.iload 8, 2) := by decide +kernel
theorem dL_areStars_417 : decode cL_areStars 417 = .ok (.ifCond .eq 34, 3) := by decide +kernel
theorem dL_areStars_420 : decode cL_areStars 420 = .ok (.aload_n 0, 1) := by decide +kernel
theorem dL_areStars_421 : decode cL_areStars 421 = .ok (.bipush 6, 2) := by decide +kernel
theorem dL_areStars_423 : decode cL_areStars 423 = .ok (.iload 10, 2) := by decide +kernel
theorem dL_areStars_425 : decode cL_areStars 425 = .ok (.iconst 0, 1) := by decide +kernel
theorem dL_areStars_426 : decode cL_areStars 426 = .ok (.iconst 0, 1) := by decide +kernel
theorem dL_areStars_427 : decode cL_areStars 427 = .ok (.iconst 0, 1) := by decide +kernel
theorem dL_areStars_428 : decode cL_areStars 428 = .ok (.iconst 0, 1) := by decide +kernel
theorem dL_areStars_429 : decode cL_areStars 429 = .ok (.invokestatic 110, 3) := by decide +kernel
theorem dL_areStars_432 : decode cL_areStars 432 = .ok (.iload 14, 2) := by decide +kernel
theorem dL_areStars_434 : decode cL_areStars 434 = .ok (.ifCond .eq 8, 3) := by decide +kernel
theorem dL_areStars_437 : decode cL_areStars 437 = .ok (.iload 15, 2) := by decide +kernel
theorem dL_areStars_439 : decode cL_areStars 439 = .ok (.goto 5, 3) := by decide +kernel
theorem dL_areStars_442 : decode cL_areStars 442 = .ok (.ldc 96, 2) := by decide +kernel
theorem dL_areStars_444 : decode cL_areStars 444 = .ok (.if_icmp .ne 7, 3) := by decide +kernel
theorem dL_areStars_447 : decode cL_areStars 447 = .ok (.iconst 1, 1) := by decide +kernel
theorem dL_areStars_448 : decode cL_areStars 448 = .ok (.goto 4, 3) := by decide +kernel
theorem dL_areStars_451 : decode cL_areStars 451 = .ok (.iconst 0, 1) := by decide +kernel
theorem dL_areStars_452 : decode cL_areStars 452 = .ok (.istore 8, 2) := by decide +kernel
theorem dL_areStars_454 : decode cL_areStars 454 = .ok (.iload 11, 2) := by decide +kernel
theorem dL_areStars_456 : decode cL_areStars 456 = .ok (.invokestatic 51, 3) := by decide +kernel
theorem dL_areStars_459 : decode cL_areStars 459 = .ok (.iload 10, 2) := by decide +kernel
theorem dL_areStars_461 : decode cL_areStars 461 = .ok (.if_icmp .ne 29, 3) := by decide +kernel
theorem dL_areStars_464 : decode cL_areStars 464 = .ok (.iload 8, 2) := by decide +kernel
theorem dL_areStars_466 : decode cL_areStars 466 = .ok (.ifCond .eq 18, 3) := by decide +kernel
theorem dL_areStars_469 : decode cL_areStars 469 = .ok (.aload_n 0, 1) := by decide +kernel
theorem dL_areStars_470 : decode cL_areStars 470 = .ok (.iload 9, 2) := by decide +kernel
theorem dL_areStars_472 : decode cL_areStars 472 = .ok (.invokevirtual 120, 3) := by decide +kernel
theorem dL_areStars_475 : decode cL_areStars 475 = .ok (.iload 10, 2) := by decide +kernel
theorem dL_areStars_477 : decode cL_areStars 477 = .ok (.if_icmp .ne 7, 3) := by decide +kernel
theorem dL_areStars_480 : decode cL_areStars 480 = .ok (.iconst 1, 1) := by decide +kernel
theorem dL_areStars_481 : decode cL_areStars 481 = .ok (.goto 4, 3) := by decide +kernel
theorem dL_areStars_484 : decode cL_areStars 484 = .ok (.iconst 0, 1) := by decide +kernel
theorem dL_areStars_485 : decode cL_areStars 485 = .ok (.istore 8, 2) := by decide +kernel
theorem dL_areStars_487 : decode cL_areStars 487 = .ok (.iinc 9 1, 3) := by decide +kernel
theorem dL_areStars_490 : decode cL_areStars 490 = .ok (.iinc 10 1, 3) := by decide +kernel
theorem dL_areStars_493 : decode cL_areStars 493 = .ok (.goto (-484), 3) := by decide +kernel
theorem dL_areStars_496 : decode cL_areStars 496 = .ok (.iload 8, 2) := by decide +kernel
theorem dL_areStars_498 : decode cL_areStars 498 = .ok (.ifCond .eq 27, 3) := by decide +kernel
theorem dL_areStars_501 : decode cL_areStars 501 = .ok (.aload_n 0, 1) := by decide +kernel
theorem dL_areStars_502 : decode cL_areStars 502 = .ok (.iconst (-1), 1) := by decide +kernel
theorem dL_areStars_503 : decode cL_areStars 503 = .ok (.invokevirtual 120, 3) := by decide +kernel
theorem dL_areStars_506 : decode cL_areStars 506 = .ok (.iload 9, 2) := by decide +kernel
theorem dL_areStars_508 : decode cL_areStars 508 = .ok (.if_icmp .ne 17, 3) := by decide +kernel
theorem dL_areStars_511 : decode cL_areStars 511 = .ok (.aload_n 0, 1) := by decide +kernel
theorem dL_areStars_512 : decode cL_areStars 512 = .ok (.iload 9, 2) := by decide +kernel
theorem dL_areStars_514 : decode cL_areStars 514 = .ok (.invokevirtual 120, 3) := by decide +kernel
theorem dL_areStars_517 : decode cL_areStars 517 = .ok (.iconst (-1), 1) := by decide +kernel
theorem dL_areStars_518 : decode cL_areStars 518 = .ok (.if_icmp .ne 7, 3) := by decide +kernel
theorem dL_areStars_521 : decode cL_areStars 521 = .ok (.iconst 1, 1) := by decide +kernel
theorem dL_areStars_522 : decode cL_areStars 522 = .ok (.goto 4, 3) := by decide +kernel
theorem dL_areStars_525 : decode cL_areStars 525 = .ok (.iconst 0, 1) := by decide +kernel
theorem dL_areStars_526 : decode cL_areStars 526 = .ok (.ireturn, 1) := by decide +kernel
set_option maxRecDepth 20000 in
theorem ggL_areTrials_L_string : GoodIn wsL_areTrials wsL_string := goodIn_r _ [5, 6, 7, 4, 8, 9, 10, 11] (by decide +kernel) (by decide +kernel)
set_option maxRecDepth 20000 in
theorem gL_areTrials_L_string : GoodIn wsL_areTrials (va_wsS RL 103 yL_string wsL_string) := goodIn_app (goodIn_of _ (by decide +kernel)) ggL_areTrials_L_string
set_option maxRecDepth 20000 in
theorem ggL_areTrials_L_many : GoodIn wsL_areTrials wsL_many := goodIn_r _ [14, 6, 7, 4, 8] (by decide +kernel) (by decide +kernel)
set_option maxRecDepth 20000 in
theorem gL_areTrials_L_many : GoodIn wsL_areTrials (va_wsS RL 43 yL_many wsL_many) := goodIn_app (goodIn_of _ (by decide +kernel)) ggL_areTrials_L_many
set_option maxRecDepth 20000 in
theorem ggL_areTrials_L_does : GoodIn wsL_areTrials wsL_does := goodIn_ca (goodIn_ca (goodIn_ca (goodIn_r _ [17, 18, 19, 20, 21, 22, 1, 23, 24, 25, 26, 27, 28, 29, 30, 31, 32, 33, 34, 35, 36, 37, 38, 39, 40, 41, 42, 43, 44, 45, 46, 47, 48, 49, 50, 51, 52, 53, 54, 55, 56, 57, 58, 59, 60, 61, 62, 63, 64, 65, 66, 67, 68, 69, 70, 71, 72, 73, 74, 75, 76, 77, 78, 79, 80, 81, 82, 83, 84, 85, 86, 87, 88, 89, 90, 91, 92, 93, 94, 95, 96, 97, 98, 99, 100, 101, 102, 103, 104, 105, 106, 107, 108, 109, 110, 111, 112, 113, 114, 115, 116, 117, 118, 119, 120, 121, 122, 123, 124, 125, 126, 127, 128, 129, 130, 131, 132, 133, 134, 135, 136, 137, 138, 139, 140, 141, 142, 143, 144, 145, 146, 147, 148, 149, 150, 151, 152, 153, 154, 155, 156, 157, 158, 159, 160, 161, 162, 163, 164, 165, 166, 167, 168, 169, 170, 171, 172, 173, 174, 175, 176, 177, 178, 179, 180, 181, 182, 183, 184, 185, 186, 187, 188, 189, 190, 191, 192, 193, 194, 195, 196, 197, 198, 199, 200, 201, 202, 203, 204, 205, 206, 207, 208, 209, 210, 211, 212, 213, 214, 215, 216, 217, 218, 219, 220, 221, 222, 223, 224, 225, 226, 227, 228, 229, 230, 231, 232, 233, 234, 235, 236, 237, 238, 239, 240, 241, 242, 243, 244, 245, 246, 247, 248, 249, 250, 251, 252, 253, 254, 255, 256, 257, 258, 259, 260, 261, 262, 263, 264, 265, 266, 267, 268, 269, 270, 271, 272, 273, 274, 275, 276, 277, 278, 279, 280, 281, 282, 283, 284, 285, 286, 287, 288, 289, 290, 291, 292, 293, 294, 295, 296, 297, 298, 299, 300, 301, 302, 303, 304, 305, 306, 307, 308, 309, 310, 311, 312, 313, 314, 315, 316, 317, 318, 319, 320, 321, 322, 323, 324, 325, 326, 327, 328, 329, 330, 331, 332, 333, 334, 335, 336, 337, 338, 339, 340, 341, 342, 343, 344, 345, 346, 347, 348, 349, 350, 351, 352, 353, 354, 355, 356, 357, 358, 359, 360, 361, 362, 363, 364, 365, 366, 367, 368, 369, 370, 371, 372, 373, 374, 375, 376, 377, 378, 379, 380, 381, 382] (by decide +kernel) (by decide +kernel)) (goodIn_sub (fun _ h => List.mem_cons_of_mem _ (List.mem_append_left _ (List.mem_append_left _ (List.mem_append_right _ h)))) (by decide +kernel))) (goodIn_sub (fun _ h => List.mem_cons_of_mem _ (List.mem_append_left _ (List.mem_append_right _ h))) (by decide +kernel))) (goodIn_sub (fun _ h => List.mem_cons_of_mem _ (List.mem_append_right _ h)) (by decide +kernel))
set_option maxRecDepth 20000 in
theorem gL_areTrials_L_does : GoodIn wsL_areTrials (va_wsS RL 110 yL_does wsL_does) := goodIn_app (goodIn_of _ (by decide +kernel)) ggL_areTrials_L_does
theorem dL_areTrials_0 : decode cL_areTrials 0 = .ok (.iload 6, 2) := by decide +kernel
theorem dL_areTrials_2 : decode cL_areTrials 2 = .ok (.aload_n 3, 1) := by decide +kernel
theorem dL_areTrials_3 : decode cL_areTrials 3 = .ok (.iconst 0, 1) := by decide +kernel
theorem dL_areTrials_4 : decode cL_areTrials 4 = .ok (.iaload, 1) := by decide +kernel
theorem dL_areTrials_5 : decode cL_areTrials 5 = .ok (.irem, 1) := by decide +kernel
theorem dL_areTrials_6 : decode cL_areTrials 6 = .ok (.istore 7, 2) := by decide +kernel
theorem dL_areTrials_8 : decode cL_areTrials 8 = .ok (.aload_n 1, 1) := by decide +kernel
theorem dL_areTrials_9 : decode cL_areTrials 9 = .ok (.iconst 4, 1) := by decide +kernel
theorem dL_areTrials_10 : decode cL_areTrials 10 = .ok (.iload 7, 2) := by decide +kernel
theorem dL_areTrials_12 : decode cL_areTrials 12 = .ok (.imul, 1) := by decide +kernel
theorem dL_areTrials_13 : decode cL_areTrials 13 = .ok (.iconst 1, 1) := by decide +kernel
theorem dL_areTrials_14 : decode cL_areTrials 14 = .ok (.iadd, 1) := by decide +kernel
theorem dL_areTrials_15 : decode cL_areTrials 15 = .ok (.iaload, 1) := by decide +kernel
theorem dL_areTrials_16 : decode cL_areTrials 16 = .ok (.istore 8, 2) := by decide +kernel
theorem dL_areTrials_18 : decode cL_areTrials 18 = .ok (.bipush 30, 2) := by decide +kernel
theorem dL_areTrials_20 : decode cL_areTrials 20 = .ok (.iload 6, 2) := by decide +kernel
theorem dL_areTrials_22 : decode cL_areTrials 22 = .ok (.iconst 4, 1) := by decide +kernel
theorem dL_areTrials_23 : decode cL_areTrials 23 = .ok (.idiv, 1) := by decide +kernel
theorem dL_areTrials_24 : decode cL_areTrials 24 = .ok (.sipush 2000, 3) := by decide +kernel
theorem dL_areTrials_27 : decode cL_areTrials 27 = .ok (.irem, 1) := by decide +kernel
theorem dL_areTrials_28 : decode cL_areTrials 28 = .ok (.iadd, 1) := by decide +kernel
theorem dL_areTrials_29 : decode cL_areTrials 29 = .ok (.istore 9, 2) := by decide +kernel
theorem dL_areTrials_31 : decode cL_areTrials 31 = .ok (.iconst 1, 1) := by decide +kernel
theorem dL_areTrials_32 : decode cL_areTrials 32 = .ok (.iload 6, 2) := by decide +kernel
theorem dL_areTrials_34 : decode cL_areTrials 34 = .ok (.bipush 7, 2) := by decide +kernel
theorem dL_areTrials_36 : decode cL_areTrials 36 = .ok (.idiv, 1) := by decide +kernel
theorem dL_areTrials_37 : decode cL_areTrials 37 = .ok (.sipush 300, 3) := by decide +kernel
theorem dL_areTrials_40 : decode cL_areTrials 40 = .ok (.irem, 1) := by decide +kernel
theorem dL_areTrials_41 : decode cL_areTrials 41 = .ok (.iadd, 1) := by decide +kernel
theorem dL_areTrials_42 : decode cL_areTrials 42 = .ok (.istore 10, 2) := by decide +kernel
theorem dL_areTrials_44 : decode cL_areTrials 44 = .ok (.iload 6, 2) := by decide +kernel
theorem dL_areTrials_46 : decode cL_areTrials 46 = .ok (.bipush 11, 2) := by decide +kernel
theorem dL_areTrials_48 : decode cL_areTrials 48 = .ok (.idiv, 1) := by decide +kernel
theorem dL_areTrials_49 : decode cL_areTrials 49 = .ok (.bipush 12, 2) := by decide +kernel
theorem dL_areTrials_51 : decode cL_areTrials 51 = .ok (.irem, 1) := by decide +kernel
theorem dL_areTrials_52 : decode cL_areTrials 52 = .ok (.istore 11, 2) := by decide +kernel
theorem dL_areTrials_54 : decode cL_areTrials 54 = .ok (.iload 6, 2) := by decide +kernel
theorem dL_areTrials_56 : decode cL_areTrials 56 = .ok (.bipush 13, 2) := by decide +kernel
theorem dL_areTrials_58 : decode cL_areTrials 58 = .ok (.idiv, 1) := by decide +kernel
theorem dL_areTrials_59 : decode cL_areTrials 59 = .ok (.bipush 51, 2) := by decide +kernel
theorem dL_areTrials_61 : decode cL_areTrials 61 = .ok (.irem, 1) := by decide +kernel
theorem dL_areTrials_62 : decode cL_areTrials 62 = .ok (.istore 12, 2) := by decide +kernel
theorem dL_areTrials_64 : decode cL_areTrials 64 = .ok (.iload 9, 2) := by decide +kernel
theorem dL_areTrials_66 : decode cL_areTrials 66 = .ok (.istore 13, 2) := by decide +kernel
theorem dL_areTrials_68 : decode cL_areTrials 68 = .ok (.aload_n 2, 1) := by decide +kernel
theorem dL_areTrials_69 : decode cL_areTrials 69 = .ok (.aload_n 3, 1) := by decide +kernel
theorem dL_areTrials_70 : decode cL_areTrials 70 = .ok (.aload 4, 2) := by decide +kernel
theorem dL_areTrials_72 : decode cL_areTrials 72 = .ok (.aload 5, 2) := by decide +kernel
theorem dL_areTrials_74 : decode cL_areTrials 74 = .ok (.iload 8, 2) := by decide +kernel
theorem dL_areTrials_76 : decode cL_areTrials 76 = .ok (.iload 9, 2) := by decide +kernel
theorem dL_areTrials_78 : decode cL_areTrials 78 = .ok (.invokestatic 103, 3) := by decide +kernel
theorem dL_areTrials_81 : decode cL_areTrials 81 = .ok (.istore 14, 2) := by decide +kernel
theorem dL_areTrials_83 : decode cL_areTrials 83 = .ok (.iconst 0, 1) := by decide +kernel
theorem dL_areTrials_84 : decode cL_areTrials 84 = .ok (.istore 15, 2) := by decide +kernel
theorem dL_areTrials_86 : decode cL_areTrials 86 = .ok (.iconst 1, 1) := by decide +kernel
theorem dL_areTrials_87 : decode cL_areTrials 87 = .ok (.istore 16, 2) := by decide +kernel
theorem dL_areTrials_89 : decode cL_areTrials 89 = .ok (.iload 16, 2) := by decide +kernel
theorem dL_areTrials_91 : decode cL_areTrials 91 = .ok (.iload 11, 2) := by decide +kernel
theorem dL_areTrials_93 : decode cL_areTrials 93 = .ok (.if_icmp .gt 68, 3) := by decide +kernel
theorem dL_areTrials_96 : decode cL_areTrials 96 = .ok (.aload_n 2, 1) := by decide +kernel
theorem dL_areTrials_97 : decode cL_areTrials 97 = .ok (.aload_n 3, 1) := by decide +kernel
theorem dL_areTrials_98 : decode cL_areTrials 98 = .ok (.aload 4, 2) := by decide +kernel
theorem dL_areTrials_100 : decode cL_areTrials 100 = .ok (.aload 5, 2) := by decide +kernel
theorem dL_areTrials_102 : decode cL_areTrials 102 = .ok (.iload 8, 2) := by decide +kernel
theorem dL_areTrials_104 : decode cL_areTrials 104 = .ok (.iload 9, 2) := by decide +kernel
theorem dL_areTrials_106 : decode cL_areTrials 106 = .ok (.iload 16, 2) := by decide +kernel
theorem dL_areTrials_108 : decode cL_areTrials 108 = .ok (.iload 10, 2) := by decide +kernel
theorem dL_areTrials_110 : decode cL_areTrials 110 = .ok (.imul, 1) := by decide +kernel
theorem dL_areTrials_111 : decode cL_areTrials 111 = .ok (.iadd, 1) := by decide +kernel
theorem dL_areTrials_112 : decode cL_areTrials 112 = .ok (.invokestatic 103, 3) := by decide +kernel
theorem dL_areTrials_115 : decode cL_areTrials 115 = .ok (.istore 17, 2) := by decide +kernel
theorem dL_areTrials_117 : decode cL_areTrials 117 = .ok (.iload 17, 2) := by decide +kernel
theorem dL_areTrials_119 : decode cL_areTrials 119 = .ok (.iload 14, 2) := by decide +kernel
theorem dL_areTrials_121 : decode cL_areTrials 121 = .ok (.if_icmp .ge 14, 3) := by decide +kernel
theorem dL_areTrials_124 : decode cL_areTrials 124 = .ok (.iload 9, 2) := by decide +kernel
theorem dL_areTrials_126 : decode cL_areTrials 126 = .ok (.iload 16, 2) := by decide +kernel
theorem dL_areTrials_128 : decode cL_areTrials 128 = .ok (.iload 10, 2) := by decide +kernel
theorem dL_areTrials_130 : decode cL_areTrials 130 = .ok (.imul, 1) := by decide +kernel
theorem dL_areTrials_131 : decode cL_areTrials 131 = .ok (.iadd, 1) := by decide +kernel
theorem dL_areTrials_132 : decode cL_areTrials 132 = .ok (.goto 5, 3) := by decide +kernel
theorem dL_areTrials_135 : decode cL_areTrials 135 = .ok (.iload 13, 2) := by decide +kernel
theorem dL_areTrials_137 : decode cL_areTrials 137 = .ok (.istore 13, 2) := by decide +kernel
theorem dL_areTrials_139 : decode cL_areTrials 139 = .ok (.iload 17, 2) := by decide +kernel
theorem dL_areTrials_141 : decode cL_areTrials 141 = .ok (.iload 14, 2) := by decide +kernel
theorem dL_areTrials_143 : decode cL_areTrials 143 = .ok (.if_icmp .ge 8, 3) := by decide +kernel
theorem dL_areTrials_146 : decode cL_areTrials 146 = .ok (.iload 17, 2) := by decide +kernel
theorem dL_areTrials_148 : decode cL_areTrials 148 = .ok (.goto 5, 3) := by decide +kernel
theorem dL_areTrials_151 : decode cL_areTrials 151 = .ok (.iload 14, 2) := by decide +kernel
theorem dL_areTrials_153 : decode cL_areTrials 153 = .ok (.istore 14, 2) := by decide +kernel
theorem dL_areTrials_155 : decode cL_areTrials 155 = .ok (.iinc 16 1, 3) := by decide +kernel
theorem dL_areTrials_158 : decode cL_areTrials 158 = .ok (.goto (-69), 3) := by decide +kernel
theorem dL_areTrials_161 : decode cL_areTrials 161 = .ok (.iconst 0, 1) := by decide +kernel
theorem dL_areTrials_162 : decode cL_areTrials 162 = .ok (.istore 16, 2) := by decide +kernel
theorem dL_areTrials_164 : decode cL_areTrials 164 = .ok (.iload 16, 2) := by decide +kernel
theorem dL_areTrials_166 : decode cL_areTrials 166 = .ok (.iload 11, 2) := by decide +kernel
theorem dL_areTrials_168 : decode cL_areTrials 168 = .ok (.if_icmp .gt 65, 3) := by decide +kernel
theorem dL_areTrials_171 : decode cL_areTrials 171 = .ok (.iload 15, 2) := by decide +kernel
theorem dL_areTrials_173 : decode cL_areTrials 173 = .ok (.iload 9, 2) := by decide +kernel
theorem dL_areTrials_175 : decode cL_areTrials 175 = .ok (.iload 16, 2) := by decide +kernel
theorem dL_areTrials_177 : decode cL_areTrials 177 = .ok (.iload 10, 2) := by decide +kernel
theorem dL_areTrials_179 : decode cL_areTrials 179 = .ok (.imul, 1) := by decide +kernel
theorem dL_areTrials_180 : decode cL_areTrials 180 = .ok (.iadd, 1) := by decide +kernel
theorem dL_areTrials_181 : decode cL_areTrials 181 = .ok (.iload 13, 2) := by decide +kernel
theorem dL_areTrials_183 : decode cL_areTrials 183 = .ok (.if_icmp .eq 40, 3) := by decide +kernel
theorem dL_areTrials_186 : decode cL_areTrials 186 = .ok (.bipush 100, 2) := by decide +kernel
theorem dL_areTrials_188 : decode cL_areTrials 188 = .ok (.aload_n 2, 1) := by decide +kernel
theorem dL_areTrials_189 : decode cL_areTrials 189 = .ok (.aload_n 3, 1) := by decide +kernel
theorem dL_areTrials_190 : decode cL_areTrials 190 = .ok (.aload 4, 2) := by decide +kernel
theorem dL_areTrials_192 : decode cL_areTrials 192 = .ok (.aload 5, 2) := by decide +kernel
theorem dL_areTrials_194 : decode cL_areTrials 194 = .ok (.iload 8, 2) := by decide +kernel
theorem dL_areTrials_196 : decode cL_areTrials 196 = .ok (.iload 9, 2) := by decide +kernel
theorem dL_areTrials_198 : decode cL_areTrials 198 = .ok (.iload 16, 2) := by decide +kernel
theorem dL_areTrials_200 : decode cL_areTrials 200 = .ok (.iload 10, 2) := by decide +kernel
theorem dL_areTrials_202 : decode cL_areTrials 202 = .ok (.imul, 1) := by decide +kernel
theorem dL_areTrials_203 : decode cL_areTrials 203 = .ok (.iadd, 1) := by decide +kernel
theorem dL_areTrials_204 : decode cL_areTrials 204 = .ok (.invokestatic 103, 3) := by decide +kernel
theorem dL_areTrials_207 : decode cL_areTrials 207 = .ok (.imul, 1) := by decide +kernel
theorem dL_areTrials_208 : decode cL_areTrials 208 = .ok (.bipush 100, 2) := by decide +kernel
theorem dL_areTrials_210 : decode cL_areTrials 210 = .ok (.iload 12, 2) := by decide +kernel
theorem dL_areTrials_212 : decode cL_areTrials 212 = .ok (.iadd, 1) := by decide +kernel
theorem dL_areTrials_213 : decode cL_areTrials 213 = .ok (.iload 14, 2) := by decide +kernel
theorem dL_areTrials_215 : decode cL_areTrials 215 = .ok (.imul, 1) := by decide +kernel
theorem dL_areTrials_216 : decode cL_areTrials 216 = .ok (.if_icmp .gt 7, 3) := by decide +kernel
theorem dL_areTrials_219 : decode cL_areTrials 219 = .ok (.iconst 1, 1) := by decide +kernel
theorem dL_areTrials_220 : decode cL_areTrials 220 = .ok (.goto 4, 3) := by decide +kernel
theorem dL_areTrials_223 : decode cL_areTrials 223 = .ok (.iconst 0, 1) := by decide +kernel
theorem dL_areTrials_224 : decode cL_areTrials 224 = .ok (.iadd, 1) := by decide +kernel
theorem dL_areTrials_225 : decode cL_areTrials 225 = .ok (.istore 15, 2) := by decide +kernel
theorem dL_areTrials_227 : decode cL_areTrials 227 = .ok (.iinc 16 1, 3) := by decide +kernel
theorem dL_areTrials_230 : decode cL_areTrials 230 = .ok (.goto (-66), 3) := by decide +kernel
theorem dL_areTrials_233 : decode cL_areTrials 233 = .ok (.aload_n 2, 1) := by decide +kernel
theorem dL_areTrials_234 : decode cL_areTrials 234 = .ok (.aload_n 3, 1) := by decide +kernel
theorem dL_areTrials_235 : decode cL_areTrials 235 = .ok (.iload 8, 2) := by decide +kernel
theorem dL_areTrials_237 : decode cL_areTrials 237 = .ok (.invokestatic 43, 3) := by decide +kernel
theorem dL_areTrials_240 : decode cL_areTrials 240 = .ok (.iconst 2, 1) := by decide +kernel
theorem dL_areTrials_241 : decode cL_areTrials 241 = .ok (.if_icmp .le 7, 3) := by decide +kernel
theorem dL_areTrials_244 : decode cL_areTrials 244 = .ok (.iconst 1, 1) := by decide +kernel
theorem dL_areTrials_245 : decode cL_areTrials 245 = .ok (.goto 4, 3) := by decide +kernel
theorem dL_areTrials_248 : decode cL_areTrials 248 = .ok (.iconst 0, 1) := by decide +kernel
theorem dL_areTrials_249 : decode cL_areTrials 249 = .ok (.istore 16, 2) := by decide +kernel
theorem dL_areTrials_251 : decode cL_areTrials 251 = .ok (.iload 9, 2) := by decide +kernel
theorem dL_areTrials_253 : decode cL_areTrials 253 = .ok (.iload 11, 2) := by decide +kernel
theorem dL_areTrials_255 : decode cL_areTrials 255 = .ok (.iload 10, 2) := by decide +kernel
theorem dL_areTrials_257 : decode cL_areTrials 257 = .ok (.imul, 1) := by decide +kernel
theorem dL_areTrials_258 : decode cL_areTrials 258 = .ok (.iadd, 1) := by decide +kernel
theorem dL_areTrials_259 : decode cL_areTrials 259 = .ok (.iload 6, 2) := by decide +kernel
theorem dL_areTrials_261 : decode cL_areTrials 261 = .ok (.iload 10, 2) := by decide +kernel
theorem dL_areTrials_263 : decode cL_areTrials 263 = .ok (.irem, 1) := by decide +kernel
theorem dL_areTrials_264 : decode cL_areTrials 264 = .ok (.iadd, 1) := by decide +kernel
theorem dL_areTrials_265 : decode cL_areTrials 265 = .ok (.istore 17, 2) := by decide +kernel
theorem dL_areTrials_267 : decode cL_areTrials 267 = .ok (.aload_n 0, 1) := by decide +kernel
theorem dL_areTrials_268 : decode cL_areTrials 268 = .ok (.iconst 2, 1) := by decide +kernel
theorem dL_areTrials_269 : decode cL_areTrials 269 = .ok (.iload 7, 2) := by decide +kernel
theorem dL_areTrials_271 : decode cL_areTrials 271 = .ok (.iload 9, 2) := by decide +kernel
theorem dL_areTrials_273 : decode cL_areTrials 273 = .ok (.iload 17, 2) := by decide +kernel
theorem dL_areTrials_275 : decode cL_areTrials 275 = .ok (.iload 10, 2) := by decide +kernel
theorem dL_areTrials_277 : decode cL_areTrials 277 = .ok (.iconst 0, 1) := by decide +kernel
theorem dL_areTrials_278 : decode cL_areTrials 278 = .ok (.invokestatic 110, 3) := by decide +kernel
theorem dL_areTrials_281 : decode cL_areTrials 281 = .ok (.iload 16, 2) := by decide +kernel
theorem dL_areTrials_283 : decode cL_areTrials 283 = .ok (.ifCond .eq 8, 3) := by decide +kernel
theorem dL_areTrials_286 : decode cL_areTrials 286 = .ok (.iload 13, 2) := by decide +kernel
theorem dL_areTrials_288 : decode cL_areTrials 288 = .ok (.goto 5, 3) := by decide +kernel
theorem dL_areTrials_291 : decode cL_areTrials 291 = .ok (.ldc 96, 2) := by decide +kernel
theorem dL_areTrials_293 : decode cL_areTrials 293 = .ok (.if_icmp .ne 37, 3) := by decide +kernel
theorem dL_areTrials_296 : decode cL_areTrials 296 = .ok (.aload_n 0, 1) := by decide +kernel
theorem dL_areTrials_297 : decode cL_areTrials 297 = .ok (.iconst 3, 1) := by decide +kernel
theorem dL_areTrials_298 : decode cL_areTrials 298 = .ok (.iload 7, 2) := by decide +kernel
theorem dL_areTrials_300 : decode cL_areTrials 300 = .ok (.iload 9, 2) := by decide +kernel
theorem dL_areTrials_302 : decode cL_areTrials 302 = .ok (.iload 17, 2) := by decide +kernel
theorem dL_areTrials_304 : decode cL_areTrials 304 = .ok (.iload 10, 2) := by decide +kernel
theorem dL_areTrials_306 : decode cL_areTrials 306 = .ok (.iload 12, 2) := by decide +kernel
theorem dL_areTrials_308 : decode cL_areTrials 308 = .ok (.invokestatic 110, 3) := by decide +kernel
theorem dL_areTrials_311 : decode cL_areTrials 311 = .ok (.iload 16, 2) := by decide +kernel
theorem dL_areTrials_313 : decode cL_areTrials 313 = .ok (.ifCond .eq 8, 3) := by decide +kernel
theorem dL_areTrials_316 : decode cL_areTrials 316 = .ok (.iload 15, 2) := by decide +kernel
theorem dL_areTrials_318 : decode cL_areTrials 318 = .ok (.goto 5, 3) := by decide +kernel
theorem dL_areTrials_321 : decode cL_areTrials 321 = .ok (.ldc 96, 2) := by decide +kernel
theorem dL_areTrials_323 : decode cL_areTrials 323 = .ok (.if_icmp .ne 7, 3) := by decide +kernel
theorem dL_areTrials_326 : decode cL_areTrials 326 = .ok (.iconst 1, 1) := by decide +kernel
theorem dL_areTrials_327 : decode cL_areTrials 327 = .ok (.goto 4, 3) := by decide +kernel
theorem dL_areTrials_330 : decode cL_areTrials 330 = .ok (.iconst 0, 1) := by decide +kernel
theorem dL_areTrials_331 : decode cL_areTrials 331 = .ok (.ireturn, 1) := by decide +kernel
set_option maxRecDepth 20000 in
theorem ggL_areLooks_X10_look : GoodIn wsL_areLooks wsX10_look := goodIn_ca (goodIn_ca (goodIn_r _ [5, 6, 7, 8, 9, 10, 11, 12, 13, 4, 14, 15, 16, 17, 18, 19, 20, 21, 22, 23, 24, 25, 26, 27, 28, 29, 30, 31, 32, 33, 34, 35, 36, 37, 38, 39, 40, 41, 42, 43, 44, 45, 46, 47, 48, 49, 50, 51, 52, 53, 54, 55, 56, 57, 58, 59, 60, 61, 62, 63, 64, 65, 66, 67, 68, 69, 70, 71, 72, 73, 74, 75, 76, 77, 78, 79, 80, 81, 82, 83, 84, 85, 86, 87, 88, 89, 90, 91, 92, 93, 94, 95, 96, 97, 98, 99, 100, 101, 102, 103, 104, 105, 106, 107, 108, 109, 110, 111, 112, 113, 114, 115, 116, 117, 118, 119, 127, 128, 129, 130, 131, 132, 133, 134, 135, 136, 137, 138, 139, 140, 141, 142, 143, 144, 145, 146, 147, 148, 149, 150, 151, 152, 153, 154, 155, 156, 157, 158, 159, 160, 161, 162, 163, 164, 165] (by decide +kernel) (by decide +kernel)) (goodIn_sub (fun _ h => List.mem_cons_of_mem _ (List.mem_append_left _ (List.mem_append_right _ h))) (by decide +kernel))) (goodIn_sub (fun _ h => List.mem_cons_of_mem _ (List.mem_append_right _ h)) (by decide +kernel))
set_option maxRecDepth 20000 in
theorem gL_areLooks_X10_look : GoodIn wsL_areLooks (wsV RL 123 RX10 yX10_look wsX10_look) := goodIn_app (goodIn_of _ (by decide +kernel)) ggL_areLooks_X10_look
set_option maxRecDepth 20000 in
theorem ggL_areLooks_L_raw : GoodIn wsL_areLooks wsL_raw := goodIn_r _ [123, 124, 125, 122, 126] (by decide +kernel) (by decide +kernel)
set_option maxRecDepth 20000 in
theorem gL_areLooks_L_raw : GoodIn wsL_areLooks (va_wsS RL 13 yL_raw wsL_raw) := goodIn_app (goodIn_of _ (by decide +kernel)) ggL_areLooks_L_raw
theorem dL_areLooks_0 : decode cL_areLooks 0 = .ok (.iconst 1, 1) := by decide +kernel
theorem dL_areLooks_1 : decode cL_areLooks 1 = .ok (.istore 9, 2) := by decide +kernel
theorem dL_areLooks_3 : decode cL_areLooks 3 = .ok (.iconst 0, 1) := by decide +kernel
theorem dL_areLooks_4 : decode cL_areLooks 4 = .ok (.istore 10, 2) := by decide +kernel
theorem dL_areLooks_6 : decode cL_areLooks 6 = .ok (.iload 10, 2) := by decide +kernel
theorem dL_areLooks_8 : decode cL_areLooks 8 = .ok (.aload 6, 2) := by decide +kernel
theorem dL_areLooks_10 : decode cL_areLooks 10 = .ok (.iconst 2, 1) := by decide +kernel
theorem dL_areLooks_11 : decode cL_areLooks 11 = .ok (.iaload, 1) := by decide +kernel
theorem dL_areLooks_12 : decode cL_areLooks 12 = .ok (.if_icmp .ge 124, 3) := by decide +kernel
theorem dL_areLooks_15 : decode cL_areLooks 15 = .ok (.iload 9, 2) := by decide +kernel
theorem dL_areLooks_17 : decode cL_areLooks 17 = .ok (.ifCond .eq 119, 3) := by decide +kernel
theorem dL_areLooks_20 : decode cL_areLooks 20 = .ok (.aload_n 0, 1) := by decide +kernel
theorem dL_areLooks_21 : decode cL_areLooks 21 = .ok (.iload 10, 2) := by decide +kernel
theorem dL_areLooks_23 : decode cL_areLooks 23 = .ok (.iconst 0, 1) := by decide +kernel
theorem dL_areLooks_24 : decode cL_areLooks 24 = .ok (.invokevirtual 123, 3) := by decide +kernel
theorem dL_areLooks_27 : decode cL_areLooks 27 = .ok (.aload_n 1, 1) := by decide +kernel
theorem dL_areLooks_28 : decode cL_areLooks 28 = .ok (.aload_n 2, 1) := by decide +kernel
theorem dL_areLooks_29 : decode cL_areLooks 29 = .ok (.aload_n 3, 1) := by decide +kernel
theorem dL_areLooks_30 : decode cL_areLooks 30 = .ok (.aload 4, 2) := by decide +kernel
theorem dL_areLooks_32 : decode cL_areLooks 32 = .ok (.aload 5, 2) := by decide +kernel
theorem dL_areLooks_34 : decode cL_areLooks 34 = .ok (.iload 10, 2) := by decide +kernel
theorem dL_areLooks_36 : decode cL_areLooks 36 = .ok (.invokestatic 13, 3) := by decide +kernel
theorem dL_areLooks_39 : decode cL_areLooks 39 = .ok (.if_icmp .ne 88, 3) := by decide +kernel
theorem dL_areLooks_42 : decode cL_areLooks 42 = .ok (.aload_n 0, 1) := by decide +kernel
theorem dL_areLooks_43 : decode cL_areLooks 43 = .ok (.iload 10, 2) := by decide +kernel
theorem dL_areLooks_45 : decode cL_areLooks 45 = .ok (.iconst 1, 1) := by decide +kernel
theorem dL_areLooks_46 : decode cL_areLooks 46 = .ok (.invokevirtual 123, 3) := by decide +kernel
theorem dL_areLooks_49 : decode cL_areLooks 49 = .ok (.aload 7, 2) := by decide +kernel
theorem dL_areLooks_51 : decode cL_areLooks 51 = .ok (.iload 10, 2) := by decide +kernel
theorem dL_areLooks_53 : decode cL_areLooks 53 = .ok (.iaload, 1) := by decide +kernel
theorem dL_areLooks_54 : decode cL_areLooks 54 = .ok (.if_icmp .ne 73, 3) := by decide +kernel
theorem dL_areLooks_57 : decode cL_areLooks 57 = .ok (.aload_n 0, 1) := by decide +kernel
theorem dL_areLooks_58 : decode cL_areLooks 58 = .ok (.iload 10, 2) := by decide +kernel
theorem dL_areLooks_60 : decode cL_areLooks 60 = .ok (.iconst 2, 1) := by decide +kernel
theorem dL_areLooks_61 : decode cL_areLooks 61 = .ok (.invokevirtual 123, 3) := by decide +kernel
theorem dL_areLooks_64 : decode cL_areLooks 64 = .ok (.aload 8, 2) := by decide +kernel
theorem dL_areLooks_66 : decode cL_areLooks 66 = .ok (.iload 10, 2) := by decide +kernel
theorem dL_areLooks_68 : decode cL_areLooks 68 = .ok (.iaload, 1) := by decide +kernel
theorem dL_areLooks_69 : decode cL_areLooks 69 = .ok (.if_icmp .ne 58, 3) := by decide +kernel
theorem dL_areLooks_72 : decode cL_areLooks 72 = .ok (.aload_n 0, 1) := by decide +kernel
theorem dL_areLooks_73 : decode cL_areLooks 73 = .ok (.iload 10, 2) := by decide +kernel
theorem dL_areLooks_75 : decode cL_areLooks 75 = .ok (.iconst 3, 1) := by decide +kernel
theorem dL_areLooks_76 : decode cL_areLooks 76 = .ok (.invokevirtual 123, 3) := by decide +kernel
theorem dL_areLooks_79 : decode cL_areLooks 79 = .ok (.aload_n 3, 1) := by decide +kernel
theorem dL_areLooks_80 : decode cL_areLooks 80 = .ok (.iload 10, 2) := by decide +kernel
theorem dL_areLooks_82 : decode cL_areLooks 82 = .ok (.iaload, 1) := by decide +kernel
theorem dL_areLooks_83 : decode cL_areLooks 83 = .ok (.iconst 2, 1) := by decide +kernel
theorem dL_areLooks_84 : decode cL_areLooks 84 = .ok (.idiv, 1) := by decide +kernel
theorem dL_areLooks_85 : decode cL_areLooks 85 = .ok (.iconst 4, 1) := by decide +kernel
theorem dL_areLooks_86 : decode cL_areLooks 86 = .ok (.irem, 1) := by decide +kernel
theorem dL_areLooks_87 : decode cL_areLooks 87 = .ok (.if_icmp .ne 40, 3) := by decide +kernel
theorem dL_areLooks_90 : decode cL_areLooks 90 = .ok (.aload_n 0, 1) := by decide +kernel
theorem dL_areLooks_91 : decode cL_areLooks 91 = .ok (.iload 10, 2) := by decide +kernel
theorem dL_areLooks_93 : decode cL_areLooks 93 = .ok (.iconst 4, 1) := by decide +kernel
theorem dL_areLooks_94 : decode cL_areLooks 94 = .ok (.invokevirtual 123, 3) := by decide +kernel
theorem dL_areLooks_97 : decode cL_areLooks 97 = .ok (.aload_n 3, 1) := by decide +kernel
theorem dL_areLooks_98 : decode cL_areLooks 98 = .ok (.iload 10, 2) := by decide +kernel
theorem dL_areLooks_100 : decode cL_areLooks 100 = .ok (.iaload, 1) := by decide +kernel
theorem dL_areLooks_101 : decode cL_areLooks 101 = .ok (.bipush 64, 2) := by decide +kernel
theorem dL_areLooks_103 : decode cL_areLooks 103 = .ok (.idiv, 1) := by decide +kernel
theorem dL_areLooks_104 : decode cL_areLooks 104 = .ok (.if_icmp .ne 23, 3) := by decide +kernel
theorem dL_areLooks_107 : decode cL_areLooks 107 = .ok (.aload_n 0, 1) := by decide +kernel
theorem dL_areLooks_108 : decode cL_areLooks 108 = .ok (.iload 10, 2) := by decide +kernel
theorem dL_areLooks_110 : decode cL_areLooks 110 = .ok (.iconst 5, 1) := by decide +kernel
theorem dL_areLooks_111 : decode cL_areLooks 111 = .ok (.invokevirtual 123, 3) := by decide +kernel
theorem dL_areLooks_114 : decode cL_areLooks 114 = .ok (.aload_n 3, 1) := by decide +kernel
theorem dL_areLooks_115 : decode cL_areLooks 115 = .ok (.iload 10, 2) := by decide +kernel
theorem dL_areLooks_117 : decode cL_areLooks 117 = .ok (.iaload, 1) := by decide +kernel
theorem dL_areLooks_118 : decode cL_areLooks 118 = .ok (.iconst 2, 1) := by decide +kernel
theorem dL_areLooks_119 : decode cL_areLooks 119 = .ok (.irem, 1) := by decide +kernel
theorem dL_areLooks_120 : decode cL_areLooks 120 = .ok (.if_icmp .ne 7, 3) := by decide +kernel
theorem dL_areLooks_123 : decode cL_areLooks 123 = .ok (.iconst 1, 1) := by decide +kernel
theorem dL_areLooks_124 : decode cL_areLooks 124 = .ok (.goto 4, 3) := by decide +kernel
theorem dL_areLooks_127 : decode cL_areLooks 127 = .ok (.iconst 0, 1) := by decide +kernel
theorem dL_areLooks_128 : decode cL_areLooks 128 = .ok (.istore 9, 2) := by decide +kernel
theorem dL_areLooks_130 : decode cL_areLooks 130 = .ok (.iinc 10 1, 3) := by decide +kernel
theorem dL_areLooks_133 : decode cL_areLooks 133 = .ok (.goto (-127), 3) := by decide +kernel
theorem dL_areLooks_136 : decode cL_areLooks 136 = .ok (.iload 9, 2) := by decide +kernel
theorem dL_areLooks_138 : decode cL_areLooks 138 = .ok (.ireturn, 1) := by decide +kernel
set_option maxRecDepth 20000 in
theorem ggL_areMinima_L_late : GoodIn wsL_areMinima wsL_late := goodIn_r _ [6] (by decide +kernel) (by decide +kernel)
set_option maxRecDepth 20000 in
theorem gL_areMinima_L_late : GoodIn wsL_areMinima (va_wsS RL 17 yL_late wsL_late) := goodIn_app (goodIn_of _ (by decide +kernel)) ggL_areMinima_L_late
set_option maxRecDepth 20000 in
theorem ggL_areMinima_L_does : GoodIn wsL_areMinima wsL_does := goodIn_ca (goodIn_ca (goodIn_ca (goodIn_r _ [9, 10, 11, 12, 2, 13, 14, 15, 16, 17, 18, 19, 20, 21, 22, 23, 24, 25, 26, 27, 28, 29, 30, 31, 32, 33, 34, 35, 36, 37, 38, 39, 40, 41, 42, 43, 44, 45, 46, 47, 48, 49, 50, 51, 52, 53, 54, 55, 56, 57, 58, 59, 60, 61, 62, 63, 64, 65, 66, 67, 68, 69, 70, 71, 72, 73, 74, 75, 76, 77, 78, 79, 80, 81, 82, 83, 84, 85, 86, 87, 88, 89, 90, 91, 92, 93, 94, 95, 96, 97, 98, 99, 100, 101, 102, 103, 104, 105, 106, 107, 108, 109, 110, 111, 112, 113, 114, 115, 116, 117, 118, 119, 120, 121, 122, 123, 124, 125, 126, 127, 128, 129, 130, 131, 132, 133, 134, 135, 136, 137, 138, 139, 140, 141, 142, 143, 144, 145, 146, 147, 148, 149, 150, 151, 152, 153, 154, 155, 156, 157, 158, 159, 160, 161, 162, 163, 164, 165, 166, 167, 168, 169, 170, 171, 172, 173, 174, 175, 176, 177, 178, 179, 180, 181, 182, 183, 184, 185, 186, 187, 188, 189, 190, 191, 192, 193, 194, 195, 196, 197, 198, 199, 200, 201, 202, 203, 204, 205, 206, 207, 208, 209, 210, 211, 212, 213, 214, 215, 216, 217, 218, 219, 220, 221, 222, 223, 224, 225, 226, 227, 228, 229, 230, 231, 232, 233, 234, 235, 236, 237, 238, 239, 240, 241, 242, 243, 244, 245, 246, 247, 248, 249, 250, 251, 252, 253, 254, 255, 256, 257, 258, 259, 260, 261, 262, 263, 264, 265, 266, 267, 268, 269, 270, 271, 272, 273, 274, 275, 276, 277, 278, 279, 280, 281, 282, 283, 284, 285, 286, 287, 288, 289, 290, 291, 292, 293, 294, 295, 296, 297, 298, 299, 300, 301, 302, 303, 304, 305, 306, 307, 308, 309, 310, 311, 312, 313, 314, 315, 316, 317, 318, 319, 320, 321, 322, 323, 324, 329, 330, 331, 332, 333, 334, 335, 336, 337, 338, 339, 340, 341, 342, 343, 344, 345, 346, 347, 348, 349, 350, 351, 352, 353, 354, 355, 356, 357, 358, 359, 360, 361, 362, 363, 364, 365, 366, 367, 368, 369, 370, 371, 372, 373, 374, 375, 376, 377, 378] (by decide +kernel) (by decide +kernel)) (goodIn_sub (fun _ h => List.mem_cons_of_mem _ (List.mem_append_left _ (List.mem_append_left _ (List.mem_append_right _ h)))) (by decide +kernel))) (goodIn_sub (fun _ h => List.mem_cons_of_mem _ (List.mem_append_left _ (List.mem_append_right _ h))) (by decide +kernel))) (goodIn_sub (fun _ h => List.mem_cons_of_mem _ (List.mem_append_right _ h)) (by decide +kernel))
set_option maxRecDepth 20000 in
theorem gL_areMinima_L_does : GoodIn wsL_areMinima (va_wsS RL 110 yL_does wsL_does) := goodIn_app (goodIn_of _ (by decide +kernel)) ggL_areMinima_L_does
set_option maxRecDepth 20000 in
theorem ggL_areMinima_X10_lost : GoodIn wsL_areMinima wsX10_lost := goodIn_ca (goodIn_ca (goodIn_r _ [328, 22, 279, 201, 202, 25, 203, 30, 31, 32, 18, 33, 34, 35, 36, 37, 38, 39, 40, 41, 42, 43, 44, 45, 46, 47, 48, 49, 50, 51, 52, 53, 54, 55, 56, 57, 58, 59, 60, 82, 83, 84, 81, 85, 86, 87, 88, 89, 280, 281, 282, 283, 284, 285, 286, 287, 110, 111, 112, 113, 114, 115, 288, 127, 128, 129, 130, 131, 132, 24, 26, 91, 92, 93, 94, 95, 96, 133, 134, 135, 136, 137, 173, 174, 175, 176, 177, 178, 179, 180, 181, 182, 183, 184, 185, 186, 187, 188, 189, 190, 292, 293, 294, 295, 296, 297, 298, 299, 204, 205, 206, 207, 300, 301, 302, 303, 90, 329, 330, 331, 332, 333, 334, 335, 336, 337, 338, 339, 340, 341, 342, 343, 344, 345, 346, 347, 348, 349, 377, 378, 362, 363, 364] (by decide +kernel) (by decide +kernel)) (goodIn_sub (fun _ h => List.mem_cons_of_mem _ (List.mem_append_left _ (List.mem_append_right _ h))) (by decide +kernel))) (goodIn_sub (fun _ h => List.mem_cons_of_mem _ (List.mem_append_right _ h)) (by decide +kernel))
set_option maxRecDepth 20000 in
theorem gL_areMinima_X10_lost : GoodIn wsL_areMinima (wsV RL 126 RX10 yX10_lost wsX10_lost) := goodIn_app (goodIn_of _ (by decide +kernel)) ggL_areMinima_X10_lost
theorem dL_areMinima_0 : decode cL_areMinima 0 = .ok (.iconst 1, 1) := by decide +kernel
theorem dL_areMinima_1 : decode cL_areMinima 1 = .ok (.istore 5, 2) := by decide +kernel
theorem dL_areMinima_3 : decode cL_areMinima 3 = .ok (.bipush 30, 2) := by decide +kernel
theorem dL_areMinima_5 : decode cL_areMinima 5 = .ok (.iload 4, 2) := by decide +kernel
theorem dL_areMinima_7 : decode cL_areMinima 7 = .ok (.sipush 5000, 3) := by decide +kernel
theorem dL_areMinima_10 : decode cL_areMinima 10 = .ok (.irem, 1) := by decide +kernel
theorem dL_areMinima_11 : decode cL_areMinima 11 = .ok (.iadd, 1) := by decide +kernel
theorem dL_areMinima_12 : decode cL_areMinima 12 = .ok (.istore 6, 2) := by decide +kernel
theorem dL_areMinima_14 : decode cL_areMinima 14 = .ok (.iconst 0, 1) := by decide +kernel
theorem dL_areMinima_15 : decode cL_areMinima 15 = .ok (.istore 7, 2) := by decide +kernel
theorem dL_areMinima_17 : decode cL_areMinima 17 = .ok (.iload 7, 2) := by decide +kernel
theorem dL_areMinima_19 : decode cL_areMinima 19 = .ok (.aload_n 3, 1) := by decide +kernel
theorem dL_areMinima_20 : decode cL_areMinima 20 = .ok (.iconst 0, 1) := by decide +kernel
theorem dL_areMinima_21 : decode cL_areMinima 21 = .ok (.iaload, 1) := by decide +kernel
theorem dL_areMinima_22 : decode cL_areMinima 22 = .ok (.if_icmp .ge 444, 3) := by decide +kernel
theorem dL_areMinima_25 : decode cL_areMinima 25 = .ok (.iload 5, 2) := by decide +kernel
theorem dL_areMinima_27 : decode cL_areMinima 27 = .ok (.ifCond .eq 439, 3) := by decide +kernel
theorem dL_areMinima_30 : decode cL_areMinima 30 = .ok (.iconst 0, 1) := by decide +kernel
theorem dL_areMinima_31 : decode cL_areMinima 31 = .ok (.istore 8, 2) := by decide +kernel
theorem dL_areMinima_33 : decode cL_areMinima 33 = .ok (.bipush 10, 2) := by decide +kernel
theorem dL_areMinima_35 : decode cL_areMinima 35 = .ok (.newarray .int, 2) := by decide +kernel
theorem dL_areMinima_37 : decode cL_areMinima 37 = .ok (.astore 9, 2) := by decide +kernel
theorem dL_areMinima_39 : decode cL_areMinima 39 = .ok (.iconst 0, 1) := by decide +kernel
theorem dL_areMinima_40 : decode cL_areMinima 40 = .ok (.istore 10, 2) := by decide +kernel
theorem dL_areMinima_42 : decode cL_areMinima 42 = .ok (.iload 10, 2) := by decide +kernel
theorem dL_areMinima_44 : decode cL_areMinima 44 = .ok (.aload_n 3, 1) := by decide +kernel
theorem dL_areMinima_45 : decode cL_areMinima 45 = .ok (.iconst 4, 1) := by decide +kernel
theorem dL_areMinima_46 : decode cL_areMinima 46 = .ok (.iaload, 1) := by decide +kernel
theorem dL_areMinima_47 : decode cL_areMinima 47 = .ok (.if_icmp .ge 205, 3) := by decide +kernel
theorem dL_areMinima_50 : decode cL_areMinima 50 = .ok (.iconst 0, 1) := by decide +kernel
theorem dL_areMinima_51 : decode cL_areMinima 51 = .ok (.istore 11, 2) := by decide +kernel
theorem dL_areMinima_53 : decode cL_areMinima 53 = .ok (.aload_n 2, 1) := by decide +kernel
theorem dL_areMinima_54 : decode cL_areMinima 54 = .ok (.iconst 2, 1) := by decide +kernel
theorem dL_areMinima_55 : decode cL_areMinima 55 = .ok (.iload 10, 2) := by decide +kernel
theorem dL_areMinima_57 : decode cL_areMinima 57 = .ok (.imul, 1) := by decide +kernel
theorem dL_areMinima_58 : decode cL_areMinima 58 = .ok (.iconst 1, 1) := by decide +kernel
theorem dL_areMinima_59 : decode cL_areMinima 59 = .ok (.iadd, 1) := by decide +kernel
theorem dL_areMinima_60 : decode cL_areMinima 60 = .ok (.iaload, 1) := by decide +kernel
theorem dL_areMinima_61 : decode cL_areMinima 61 = .ok (.aload_n 2, 1) := by decide +kernel
theorem dL_areMinima_62 : decode cL_areMinima 62 = .ok (.iconst 2, 1) := by decide +kernel
theorem dL_areMinima_63 : decode cL_areMinima 63 = .ok (.iload 10, 2) := by decide +kernel
theorem dL_areMinima_65 : decode cL_areMinima 65 = .ok (.imul, 1) := by decide +kernel
theorem dL_areMinima_66 : decode cL_areMinima 66 = .ok (.iconst 1, 1) := by decide +kernel
theorem dL_areMinima_67 : decode cL_areMinima 67 = .ok (.iadd, 1) := by decide +kernel
theorem dL_areMinima_68 : decode cL_areMinima 68 = .ok (.iaload, 1) := by decide +kernel
theorem dL_areMinima_69 : decode cL_areMinima 69 = .ok (.aload_n 1, 1) := by decide +kernel
theorem dL_areMinima_70 : decode cL_areMinima 70 = .ok (.iconst 4, 1) := by decide +kernel
theorem dL_areMinima_71 : decode cL_areMinima 71 = .ok (.aload_n 2, 1) := by decide +kernel
theorem dL_areMinima_72 : decode cL_areMinima 72 = .ok (.iconst 2, 1) := by decide +kernel
theorem dL_areMinima_73 : decode cL_areMinima 73 = .ok (.iload 10, 2) := by decide +kernel
theorem dL_areMinima_75 : decode cL_areMinima 75 = .ok (.imul, 1) := by decide +kernel
theorem dL_areMinima_76 : decode cL_areMinima 76 = .ok (.iaload, 1) := by decide +kernel
theorem dL_areMinima_77 : decode cL_areMinima 77 = .ok (.imul, 1) := by decide +kernel
theorem dL_areMinima_78 : decode cL_areMinima 78 = .ok (.iaload, 1) := by decide +kernel
theorem dL_areMinima_79 : decode cL_areMinima 79 = .ok (.invokestatic 17, 3) := by decide +kernel
theorem dL_areMinima_82 : decode cL_areMinima 82 = .ok (.iadd, 1) := by decide +kernel
theorem dL_areMinima_83 : decode cL_areMinima 83 = .ok (.istore 12, 2) := by decide +kernel
theorem dL_areMinima_85 : decode cL_areMinima 85 = .ok (.aload_n 1, 1) := by decide +kernel
theorem dL_areMinima_86 : decode cL_areMinima 86 = .ok (.iconst 4, 1) := by decide +kernel
theorem dL_areMinima_87 : decode cL_areMinima 87 = .ok (.iload 7, 2) := by decide +kernel
theorem dL_areMinima_89 : decode cL_areMinima 89 = .ok (.imul, 1) := by decide +kernel
theorem dL_areMinima_90 : decode cL_areMinima 90 = .ok (.iconst 1, 1) := by decide +kernel
theorem dL_areMinima_91 : decode cL_areMinima 91 = .ok (.iadd, 1) := by decide +kernel
theorem dL_areMinima_92 : decode cL_areMinima 92 = .ok (.iaload, 1) := by decide +kernel
theorem dL_areMinima_93 : decode cL_areMinima 93 = .ok (.aload_n 2, 1) := by decide +kernel
theorem dL_areMinima_94 : decode cL_areMinima 94 = .ok (.iconst 2, 1) := by decide +kernel
theorem dL_areMinima_95 : decode cL_areMinima 95 = .ok (.iload 10, 2) := by decide +kernel
theorem dL_areMinima_97 : decode cL_areMinima 97 = .ok (.imul, 1) := by decide +kernel
theorem dL_areMinima_98 : decode cL_areMinima 98 = .ok (.iaload, 1) := by decide +kernel
theorem dL_areMinima_99 : decode cL_areMinima 99 = .ok (.ishr, 1) := by decide +kernel
theorem dL_areMinima_100 : decode cL_areMinima 100 = .ok (.iconst 1, 1) := by decide +kernel
theorem dL_areMinima_101 : decode cL_areMinima 101 = .ok (.iand, 1) := by decide +kernel
theorem dL_areMinima_102 : decode cL_areMinima 102 = .ok (.iconst 1, 1) := by decide +kernel
theorem dL_areMinima_103 : decode cL_areMinima 103 = .ok (.if_icmp .ne 7, 3) := by decide +kernel
theorem dL_areMinima_106 : decode cL_areMinima 106 = .ok (.iconst 1, 1) := by decide +kernel
theorem dL_areMinima_107 : decode cL_areMinima 107 = .ok (.goto 4, 3) := by decide +kernel
theorem dL_areMinima_110 : decode cL_areMinima 110 = .ok (.iconst 0, 1) := by decide +kernel
theorem dL_areMinima_111 : decode cL_areMinima 111 = .ok (.istore 13, 2) := by decide +kernel
theorem dL_areMinima_113 : decode cL_areMinima 113 = .ok (.iconst 0, 1) := by decide +kernel
theorem dL_areMinima_114 : decode cL_areMinima 114 = .ok (.istore 14, 2) := by decide +kernel
theorem dL_areMinima_116 : decode cL_areMinima 116 = .ok (.iload 14, 2) := by decide +kernel
theorem dL_areMinima_118 : decode cL_areMinima 118 = .ok (.aload_n 3, 1) := by decide +kernel
theorem dL_areMinima_119 : decode cL_areMinima 119 = .ok (.iconst 4, 1) := by decide +kernel
theorem dL_areMinima_120 : decode cL_areMinima 120 = .ok (.iaload, 1) := by decide +kernel
theorem dL_areMinima_121 : decode cL_areMinima 121 = .ok (.if_icmp .ge 93, 3) := by decide +kernel
theorem dL_areMinima_124 : decode cL_areMinima 124 = .ok (.aload_n 2, 1) := by decide +kernel
theorem dL_areMinima_125 : decode cL_areMinima 125 = .ok (.iconst 2, 1) := by decide +kernel
theorem dL_areMinima_126 : decode cL_areMinima 126 = .ok (.iload 14, 2) := by decide +kernel
theorem dL_areMinima_128 : decode cL_areMinima 128 = .ok (.imul, 1) := by decide +kernel
theorem dL_areMinima_129 : decode cL_areMinima 129 = .ok (.iconst 1, 1) := by decide +kernel
theorem dL_areMinima_130 : decode cL_areMinima 130 = .ok (.iadd, 1) := by decide +kernel
theorem dL_areMinima_131 : decode cL_areMinima 131 = .ok (.iaload, 1) := by decide +kernel
theorem dL_areMinima_132 : decode cL_areMinima 132 = .ok (.aload_n 2, 1) := by decide +kernel
theorem dL_areMinima_133 : decode cL_areMinima 133 = .ok (.iconst 2, 1) := by decide +kernel
theorem dL_areMinima_134 : decode cL_areMinima 134 = .ok (.iload 14, 2) := by decide +kernel
theorem dL_areMinima_136 : decode cL_areMinima 136 = .ok (.imul, 1) := by decide +kernel
theorem dL_areMinima_137 : decode cL_areMinima 137 = .ok (.iconst 1, 1) := by decide +kernel
theorem dL_areMinima_138 : decode cL_areMinima 138 = .ok (.iadd, 1) := by decide +kernel
theorem dL_areMinima_139 : decode cL_areMinima 139 = .ok (.iaload, 1) := by decide +kernel
theorem dL_areMinima_140 : decode cL_areMinima 140 = .ok (.aload_n 1, 1) := by decide +kernel
theorem dL_areMinima_141 : decode cL_areMinima 141 = .ok (.iconst 4, 1) := by decide +kernel
theorem dL_areMinima_142 : decode cL_areMinima 142 = .ok (.aload_n 2, 1) := by decide +kernel
theorem dL_areMinima_143 : decode cL_areMinima 143 = .ok (.iconst 2, 1) := by decide +kernel
theorem dL_areMinima_144 : decode cL_areMinima 144 = .ok (.iload 14, 2) := by decide +kernel
theorem dL_areMinima_146 : decode cL_areMinima 146 = .ok (.imul, 1) := by decide +kernel
theorem dL_areMinima_147 : decode cL_areMinima 147 = .ok (.iaload, 1) := by decide +kernel
theorem dL_areMinima_148 : decode cL_areMinima 148 = .ok (.imul, 1) := by decide +kernel
theorem dL_areMinima_149 : decode cL_areMinima 149 = .ok (.iaload, 1) := by decide +kernel
theorem dL_areMinima_150 : decode cL_areMinima 150 = .ok (.invokestatic 17, 3) := by decide +kernel
theorem dL_areMinima_153 : decode cL_areMinima 153 = .ok (.iadd, 1) := by decide +kernel
theorem dL_areMinima_154 : decode cL_areMinima 154 = .ok (.istore 15, 2) := by decide +kernel
theorem dL_areMinima_156 : decode cL_areMinima 156 = .ok (.iload 11, 2) := by decide +kernel
theorem dL_areMinima_158 : decode cL_areMinima 158 = .ok (.aload_n 1, 1) := by decide +kernel
theorem dL_areMinima_159 : decode cL_areMinima 159 = .ok (.iconst 4, 1) := by decide +kernel
theorem dL_areMinima_160 : decode cL_areMinima 160 = .ok (.iload 7, 2) := by decide +kernel
theorem dL_areMinima_162 : decode cL_areMinima 162 = .ok (.imul, 1) := by decide +kernel
theorem dL_areMinima_163 : decode cL_areMinima 163 = .ok (.iconst 1, 1) := by decide +kernel
theorem dL_areMinima_164 : decode cL_areMinima 164 = .ok (.iadd, 1) := by decide +kernel
theorem dL_areMinima_165 : decode cL_areMinima 165 = .ok (.iaload, 1) := by decide +kernel
theorem dL_areMinima_166 : decode cL_areMinima 166 = .ok (.aload_n 2, 1) := by decide +kernel
theorem dL_areMinima_167 : decode cL_areMinima 167 = .ok (.iconst 2, 1) := by decide +kernel
theorem dL_areMinima_168 : decode cL_areMinima 168 = .ok (.iload 14, 2) := by decide +kernel
theorem dL_areMinima_170 : decode cL_areMinima 170 = .ok (.imul, 1) := by decide +kernel
theorem dL_areMinima_171 : decode cL_areMinima 171 = .ok (.iaload, 1) := by decide +kernel
theorem dL_areMinima_172 : decode cL_areMinima 172 = .ok (.ishr, 1) := by decide +kernel
theorem dL_areMinima_173 : decode cL_areMinima 173 = .ok (.iconst 1, 1) := by decide +kernel
theorem dL_areMinima_174 : decode cL_areMinima 174 = .ok (.iand, 1) := by decide +kernel
theorem dL_areMinima_175 : decode cL_areMinima 175 = .ok (.iconst 1, 1) := by decide +kernel
theorem dL_areMinima_176 : decode cL_areMinima 176 = .ok (.if_icmp .ne 28, 3) := by decide +kernel
theorem dL_areMinima_179 : decode cL_areMinima 179 = .ok (.iload 15, 2) := by decide +kernel
theorem dL_areMinima_181 : decode cL_areMinima 181 = .ok (.iload 12, 2) := by decide +kernel
theorem dL_areMinima_183 : decode cL_areMinima 183 = .ok (.if_icmp .lt 17, 3) := by decide +kernel
theorem dL_areMinima_186 : decode cL_areMinima 186 = .ok (.iload 15, 2) := by decide +kernel
theorem dL_areMinima_188 : decode cL_areMinima 188 = .ok (.iload 12, 2) := by decide +kernel
theorem dL_areMinima_190 : decode cL_areMinima 190 = .ok (.if_icmp .ne 14, 3) := by decide +kernel
theorem dL_areMinima_193 : decode cL_areMinima 193 = .ok (.iload 14, 2) := by decide +kernel
theorem dL_areMinima_195 : decode cL_areMinima 195 = .ok (.iload 10, 2) := by decide +kernel
theorem dL_areMinima_197 : decode cL_areMinima 197 = .ok (.if_icmp .ge 7, 3) := by decide +kernel
theorem dL_areMinima_200 : decode cL_areMinima 200 = .ok (.iconst 1, 1) := by decide +kernel
theorem dL_areMinima_201 : decode cL_areMinima 201 = .ok (.goto 4, 3) := by decide +kernel
theorem dL_areMinima_204 : decode cL_areMinima 204 = .ok (.iconst 0, 1) := by decide +kernel
theorem dL_areMinima_205 : decode cL_areMinima 205 = .ok (.iadd, 1) := by decide +kernel
theorem dL_areMinima_206 : decode cL_areMinima 206 = .ok (.istore 11, 2) := by decide +kernel
theorem dL_areMinima_208 : decode cL_areMinima 208 = .ok (.iinc 14 1, 3) := by decide +kernel
theorem dL_areMinima_211 : decode cL_areMinima 211 = .ok (.goto (-95), 3) := by decide +kernel
theorem dL_areMinima_214 : decode cL_areMinima 214 = .ok (.aload 9, 2) := by decide +kernel
theorem dL_areMinima_216 : decode cL_areMinima 216 = .ok (.iload 13, 2) := by decide +kernel
theorem dL_areMinima_218 : decode cL_areMinima 218 = .ok (.ifCond .eq 8, 3) := by decide +kernel
theorem dL_areMinima_221 : decode cL_areMinima 221 = .ok (.iload 11, 2) := by decide +kernel
theorem dL_areMinima_223 : decode cL_areMinima 223 = .ok (.goto 5, 3) := by decide +kernel
theorem dL_areMinima_226 : decode cL_areMinima 226 = .ok (.bipush 9, 2) := by decide +kernel
theorem dL_areMinima_228 : decode cL_areMinima 228 = .ok (.iload 12, 2) := by decide +kernel
theorem dL_areMinima_230 : decode cL_areMinima 230 = .ok (.iastore, 1) := by decide +kernel
theorem dL_areMinima_231 : decode cL_areMinima 231 = .ok (.iload 8, 2) := by decide +kernel
theorem dL_areMinima_233 : decode cL_areMinima 233 = .ok (.iload 13, 2) := by decide +kernel
theorem dL_areMinima_235 : decode cL_areMinima 235 = .ok (.ifCond .eq 7, 3) := by decide +kernel
theorem dL_areMinima_238 : decode cL_areMinima 238 = .ok (.iconst 1, 1) := by decide +kernel
theorem dL_areMinima_239 : decode cL_areMinima 239 = .ok (.goto 4, 3) := by decide +kernel
theorem dL_areMinima_242 : decode cL_areMinima 242 = .ok (.iconst 0, 1) := by decide +kernel
theorem dL_areMinima_243 : decode cL_areMinima 243 = .ok (.iadd, 1) := by decide +kernel
theorem dL_areMinima_244 : decode cL_areMinima 244 = .ok (.istore 8, 2) := by decide +kernel
theorem dL_areMinima_246 : decode cL_areMinima 246 = .ok (.iinc 10 1, 3) := by decide +kernel
theorem dL_areMinima_249 : decode cL_areMinima 249 = .ok (.goto (-207), 3) := by decide +kernel
theorem dL_areMinima_252 : decode cL_areMinima 252 = .ok (.iconst 0, 1) := by decide +kernel
theorem dL_areMinima_253 : decode cL_areMinima 253 = .ok (.istore 10, 2) := by decide +kernel
theorem dL_areMinima_255 : decode cL_areMinima 255 = .ok (.iconst 0, 1) := by decide +kernel
theorem dL_areMinima_256 : decode cL_areMinima 256 = .ok (.istore 11, 2) := by decide +kernel
theorem dL_areMinima_258 : decode cL_areMinima 258 = .ok (.iconst 0, 1) := by decide +kernel
theorem dL_areMinima_259 : decode cL_areMinima 259 = .ok (.istore 12, 2) := by decide +kernel
theorem dL_areMinima_261 : decode cL_areMinima 261 = .ok (.iload 12, 2) := by decide +kernel
theorem dL_areMinima_263 : decode cL_areMinima 263 = .ok (.iload 8, 2) := by decide +kernel
theorem dL_areMinima_265 : decode cL_areMinima 265 = .ok (.if_icmp .ge 152, 3) := by decide +kernel
theorem dL_areMinima_268 : decode cL_areMinima 268 = .ok (.iload 5, 2) := by decide +kernel
theorem dL_areMinima_270 : decode cL_areMinima 270 = .ok (.ifCond .eq 147, 3) := by decide +kernel
theorem dL_areMinima_273 : decode cL_areMinima 273 = .ok (.aload 9, 2) := by decide +kernel
theorem dL_areMinima_275 : decode cL_areMinima 275 = .ok (.iload 12, 2) := by decide +kernel
theorem dL_areMinima_277 : decode cL_areMinima 277 = .ok (.iaload, 1) := by decide +kernel
theorem dL_areMinima_278 : decode cL_areMinima 278 = .ok (.aload 9, 2) := by decide +kernel
theorem dL_areMinima_280 : decode cL_areMinima 280 = .ok (.iconst 0, 1) := by decide +kernel
theorem dL_areMinima_281 : decode cL_areMinima 281 = .ok (.iaload, 1) := by decide +kernel
theorem dL_areMinima_282 : decode cL_areMinima 282 = .ok (.isub, 1) := by decide +kernel
theorem dL_areMinima_283 : decode cL_areMinima 283 = .ok (.istore 13, 2) := by decide +kernel
theorem dL_areMinima_285 : decode cL_areMinima 285 = .ok (.iload 13, 2) := by decide +kernel
theorem dL_areMinima_287 : decode cL_areMinima 287 = .ok (.iload 6, 2) := by decide +kernel
theorem dL_areMinima_289 : decode cL_areMinima 289 = .ok (.idiv, 1) := by decide +kernel
theorem dL_areMinima_290 : decode cL_areMinima 290 = .ok (.iconst 2, 1) := by decide +kernel
theorem dL_areMinima_291 : decode cL_areMinima 291 = .ok (.iload 13, 2) := by decide +kernel
theorem dL_areMinima_293 : decode cL_areMinima 293 = .ok (.iload 6, 2) := by decide +kernel
theorem dL_areMinima_295 : decode cL_areMinima 295 = .ok (.irem, 1) := by decide +kernel
theorem dL_areMinima_296 : decode cL_areMinima 296 = .ok (.imul, 1) := by decide +kernel
theorem dL_areMinima_297 : decode cL_areMinima 297 = .ok (.iload 6, 2) := by decide +kernel
theorem dL_areMinima_299 : decode cL_areMinima 299 = .ok (.if_icmp .lt 7, 3) := by decide +kernel
theorem dL_areMinima_302 : decode cL_areMinima 302 = .ok (.iconst 1, 1) := by decide +kernel
theorem dL_areMinima_303 : decode cL_areMinima 303 = .ok (.goto 4, 3) := by decide +kernel
theorem dL_areMinima_306 : decode cL_areMinima 306 = .ok (.iconst 0, 1) := by decide +kernel
theorem dL_areMinima_307 : decode cL_areMinima 307 = .ok (.iadd, 1) := by decide +kernel
theorem dL_areMinima_308 : decode cL_areMinima 308 = .ok (.istore 14, 2) := by decide +kernel
theorem dL_areMinima_310 : decode cL_areMinima 310 = .ok (.iload 13, 2) := by decide +kernel
theorem dL_areMinima_312 : decode cL_areMinima 312 = .ok (.iload 14, 2) := by decide +kernel
theorem dL_areMinima_314 : decode cL_areMinima 314 = .ok (.iload 6, 2) := by decide +kernel
theorem dL_areMinima_316 : decode cL_areMinima 316 = .ok (.imul, 1) := by decide +kernel
theorem dL_areMinima_317 : decode cL_areMinima 317 = .ok (.isub, 1) := by decide +kernel
theorem dL_areMinima_318 : decode cL_areMinima 318 = .ok (.istore 15, 2) := by decide +kernel
theorem dL_areMinima_320 : decode cL_areMinima 320 = .ok (.iload 10, 2) := by decide +kernel
theorem dL_areMinima_322 : decode cL_areMinima 322 = .ok (.iload 12, 2) := by decide +kernel
theorem dL_areMinima_324 : decode cL_areMinima 324 = .ok (.ifCond .le 34, 3) := by decide +kernel
theorem dL_areMinima_327 : decode cL_areMinima 327 = .ok (.iconst 4, 1) := by decide +kernel
theorem dL_areMinima_328 : decode cL_areMinima 328 = .ok (.iload 15, 2) := by decide +kernel
theorem dL_areMinima_330 : decode cL_areMinima 330 = .ok (.iload 11, 2) := by decide +kernel
theorem dL_areMinima_332 : decode cL_areMinima 332 = .ok (.if_icmp .le 11, 3) := by decide +kernel
theorem dL_areMinima_335 : decode cL_areMinima 335 = .ok (.iload 15, 2) := by decide +kernel
theorem dL_areMinima_337 : decode cL_areMinima 337 = .ok (.iload 11, 2) := by decide +kernel
theorem dL_areMinima_339 : decode cL_areMinima 339 = .ok (.isub, 1) := by decide +kernel
theorem dL_areMinima_340 : decode cL_areMinima 340 = .ok (.goto 8, 3) := by decide +kernel
theorem dL_areMinima_343 : decode cL_areMinima 343 = .ok (.iload 11, 2) := by decide +kernel
theorem dL_areMinima_345 : decode cL_areMinima 345 = .ok (.iload 15, 2) := by decide +kernel
theorem dL_areMinima_347 : decode cL_areMinima 347 = .ok (.isub, 1) := by decide +kernel
theorem dL_areMinima_348 : decode cL_areMinima 348 = .ok (.imul, 1) := by decide +kernel
theorem dL_areMinima_349 : decode cL_areMinima 349 = .ok (.iload 6, 2) := by decide +kernel
theorem dL_areMinima_351 : decode cL_areMinima 351 = .ok (.if_icmp .le 7, 3) := by decide +kernel
theorem dL_areMinima_354 : decode cL_areMinima 354 = .ok (.iconst 1, 1) := by decide +kernel
theorem dL_areMinima_355 : decode cL_areMinima 355 = .ok (.goto 4, 3) := by decide +kernel
theorem dL_areMinima_358 : decode cL_areMinima 358 = .ok (.iconst 0, 1) := by decide +kernel
theorem dL_areMinima_359 : decode cL_areMinima 359 = .ok (.iadd, 1) := by decide +kernel
theorem dL_areMinima_360 : decode cL_areMinima 360 = .ok (.istore 10, 2) := by decide +kernel
theorem dL_areMinima_362 : decode cL_areMinima 362 = .ok (.iload 15, 2) := by decide +kernel
theorem dL_areMinima_364 : decode cL_areMinima 364 = .ok (.istore 11, 2) := by decide +kernel
theorem dL_areMinima_366 : decode cL_areMinima 366 = .ok (.aload_n 0, 1) := by decide +kernel
theorem dL_areMinima_367 : decode cL_areMinima 367 = .ok (.bipush 7, 2) := by decide +kernel
theorem dL_areMinima_369 : decode cL_areMinima 369 = .ok (.iload 7, 2) := by decide +kernel
theorem dL_areMinima_371 : decode cL_areMinima 371 = .ok (.iload 6, 2) := by decide +kernel
theorem dL_areMinima_373 : decode cL_areMinima 373 = .ok (.iload 12, 2) := by decide +kernel
theorem dL_areMinima_375 : decode cL_areMinima 375 = .ok (.iconst 0, 1) := by decide +kernel
theorem dL_areMinima_376 : decode cL_areMinima 376 = .ok (.iconst 0, 1) := by decide +kernel
theorem dL_areMinima_377 : decode cL_areMinima 377 = .ok (.invokestatic 110, 3) := by decide +kernel
theorem dL_areMinima_380 : decode cL_areMinima 380 = .ok (.iload 14, 2) := by decide +kernel
theorem dL_areMinima_382 : decode cL_areMinima 382 = .ok (.if_icmp .ne 26, 3) := by decide +kernel
theorem dL_areMinima_385 : decode cL_areMinima 385 = .ok (.aload_n 0, 1) := by decide +kernel
theorem dL_areMinima_386 : decode cL_areMinima 386 = .ok (.bipush 7, 2) := by decide +kernel
theorem dL_areMinima_388 : decode cL_areMinima 388 = .ok (.iload 7, 2) := by decide +kernel
theorem dL_areMinima_390 : decode cL_areMinima 390 = .ok (.iload 6, 2) := by decide +kernel
theorem dL_areMinima_392 : decode cL_areMinima 392 = .ok (.iload 12, 2) := by decide +kernel
theorem dL_areMinima_394 : decode cL_areMinima 394 = .ok (.iconst 1, 1) := by decide +kernel
theorem dL_areMinima_395 : decode cL_areMinima 395 = .ok (.iconst 0, 1) := by decide +kernel
theorem dL_areMinima_396 : decode cL_areMinima 396 = .ok (.invokestatic 110, 3) := by decide +kernel
theorem dL_areMinima_399 : decode cL_areMinima 399 = .ok (.iload 15, 2) := by decide +kernel
theorem dL_areMinima_401 : decode cL_areMinima 401 = .ok (.if_icmp .ne 7, 3) := by decide +kernel
theorem dL_areMinima_404 : decode cL_areMinima 404 = .ok (.iconst 1, 1) := by decide +kernel
theorem dL_areMinima_405 : decode cL_areMinima 405 = .ok (.goto 4, 3) := by decide +kernel
theorem dL_areMinima_408 : decode cL_areMinima 408 = .ok (.iconst 0, 1) := by decide +kernel
theorem dL_areMinima_409 : decode cL_areMinima 409 = .ok (.istore 5, 2) := by decide +kernel
theorem dL_areMinima_411 : decode cL_areMinima 411 = .ok (.iinc 12 1, 3) := by decide +kernel
theorem dL_areMinima_414 : decode cL_areMinima 414 = .ok (.goto (-153), 3) := by decide +kernel
theorem dL_areMinima_417 : decode cL_areMinima 417 = .ok (.iload 5, 2) := by decide +kernel
theorem dL_areMinima_419 : decode cL_areMinima 419 = .ok (.ifCond .eq 38, 3) := by decide +kernel
theorem dL_areMinima_422 : decode cL_areMinima 422 = .ok (.aload_n 0, 1) := by decide +kernel
theorem dL_areMinima_423 : decode cL_areMinima 423 = .ok (.iload 7, 2) := by decide +kernel
theorem dL_areMinima_425 : decode cL_areMinima 425 = .ok (.iload 6, 2) := by decide +kernel
theorem dL_areMinima_427 : decode cL_areMinima 427 = .ok (.invokevirtual 126, 3) := by decide +kernel
theorem dL_areMinima_430 : decode cL_areMinima 430 = .ok (.iload 10, 2) := by decide +kernel
theorem dL_areMinima_432 : decode cL_areMinima 432 = .ok (.if_icmp .ne 25, 3) := by decide +kernel
theorem dL_areMinima_435 : decode cL_areMinima 435 = .ok (.aload_n 0, 1) := by decide +kernel
theorem dL_areMinima_436 : decode cL_areMinima 436 = .ok (.bipush 7, 2) := by decide +kernel
theorem dL_areMinima_438 : decode cL_areMinima 438 = .ok (.iload 7, 2) := by decide +kernel
theorem dL_areMinima_440 : decode cL_areMinima 440 = .ok (.iconst 5, 1) := by decide +kernel
theorem dL_areMinima_441 : decode cL_areMinima 441 = .ok (.iload 8, 2) := by decide +kernel
theorem dL_areMinima_443 : decode cL_areMinima 443 = .ok (.iconst 0, 1) := by decide +kernel
theorem dL_areMinima_444 : decode cL_areMinima 444 = .ok (.iconst 0, 1) := by decide +kernel
theorem dL_areMinima_445 : decode cL_areMinima 445 = .ok (.invokestatic 110, 3) := by decide +kernel
theorem dL_areMinima_448 : decode cL_areMinima 448 = .ok (.ldc 90, 2) := by decide +kernel
theorem dL_areMinima_450 : decode cL_areMinima 450 = .ok (.if_icmp .ne 7, 3) := by decide +kernel
theorem dL_areMinima_453 : decode cL_areMinima 453 = .ok (.iconst 1, 1) := by decide +kernel
theorem dL_areMinima_454 : decode cL_areMinima 454 = .ok (.goto 4, 3) := by decide +kernel
theorem dL_areMinima_457 : decode cL_areMinima 457 = .ok (.iconst 0, 1) := by decide +kernel
theorem dL_areMinima_458 : decode cL_areMinima 458 = .ok (.istore 5, 2) := by decide +kernel
theorem dL_areMinima_460 : decode cL_areMinima 460 = .ok (.iinc 7 1, 3) := by decide +kernel
theorem dL_areMinima_463 : decode cL_areMinima 463 = .ok (.goto (-446), 3) := by decide +kernel
theorem dL_areMinima_466 : decode cL_areMinima 466 = .ok (.iload 5, 2) := by decide +kernel
theorem dL_areMinima_468 : decode cL_areMinima 468 = .ok (.ireturn, 1) := by decide +kernel
set_option maxRecDepth 20000 in
theorem ggL_areNear_L_lowest : GoodIn wsL_areNear wsL_lowest := goodIn_r _ [4] (by decide +kernel) (by decide +kernel)
set_option maxRecDepth 20000 in
theorem gL_areNear_L_lowest : GoodIn wsL_areNear (va_wsS RL 51 yL_lowest wsL_lowest) := goodIn_app (goodIn_of _ (by decide +kernel)) ggL_areNear_L_lowest
set_option maxRecDepth 20000 in
theorem ggL_areNear_L_many : GoodIn wsL_areNear wsL_many := goodIn_r _ [7, 8, 9, 3, 10] (by decide +kernel) (by decide +kernel)
set_option maxRecDepth 20000 in
theorem gL_areNear_L_many : GoodIn wsL_areNear (va_wsS RL 43 yL_many wsL_many) := goodIn_app (goodIn_of _ (by decide +kernel)) ggL_areNear_L_many
set_option maxRecDepth 20000 in
theorem ggL_areNear_L_claim : GoodIn wsL_areNear wsL_claim := goodIn_r _ [13] (by decide +kernel) (by decide +kernel)
set_option maxRecDepth 20000 in
theorem gL_areNear_L_claim : GoodIn wsL_areNear (va_wsS RL 35 yL_claim wsL_claim) := goodIn_app (goodIn_of _ (by decide +kernel)) ggL_areNear_L_claim
set_option maxRecDepth 20000 in
theorem ggL_areNear_L_modulus : GoodIn wsL_areNear wsL_modulus := goodIn_r _ [16, 11, 12, 3, 13, 17, 18, 19, 8, 9, 10, 5, 6, 7, 20, 21, 22, 1, 2, 4] (by decide +kernel) (by decide +kernel)
set_option maxRecDepth 20000 in
theorem gL_areNear_L_modulus : GoodIn wsL_areNear (va_wsS RL 114 yL_modulus wsL_modulus) := goodIn_app (goodIn_of _ (by decide +kernel)) ggL_areNear_L_modulus
set_option maxRecDepth 20000 in
theorem ggL_areNear_X10_nearest : GoodIn wsL_areNear wsX10_nearest := goodIn_ca (goodIn_r _ [27, 28, 29, 30, 31, 32, 33, 34, 35, 36, 37, 38, 39, 40, 41, 42, 43, 44, 45, 46, 47, 48, 49, 50, 51, 52, 53, 54, 55, 56, 57, 58, 59, 60, 61, 62, 63, 64, 65, 66, 67, 68, 69, 70, 71, 26, 72, 73, 74, 75, 76, 77, 78, 79, 80, 81, 82, 83, 84, 85, 86, 87, 88, 89, 90, 91, 92, 93, 94, 95, 96, 97, 98, 99, 100, 101, 102, 103, 104, 105, 106, 107, 108, 109, 110, 111, 112, 113, 114, 115, 116, 117, 118, 119, 120, 121, 122, 123, 124, 125, 126, 127, 128, 129, 130, 131, 132, 133, 134, 135, 136, 137, 138, 139, 140, 141, 142, 143, 144, 145, 146, 147, 148, 149, 150, 151, 152, 153, 154, 155, 156, 157, 158, 159, 160, 161, 162, 163, 164, 165, 166, 167, 168, 169, 170, 171, 172, 173, 174, 175, 176, 177, 178, 179, 180, 181, 182, 183, 184, 185, 186, 187, 188, 189, 190, 191, 192, 193, 194, 195, 196, 197, 198, 199, 200, 201, 202, 203, 204, 205, 206, 207, 208, 209, 210, 211, 212, 213, 214, 215, 216, 217, 218, 219, 220, 221, 222, 223, 224, 225, 226, 227, 228, 229, 230] (by decide +kernel) (by decide +kernel)) (goodIn_sub (fun _ h => List.mem_cons_of_mem _ (List.mem_append_right _ h)) (by decide +kernel))
set_option maxRecDepth 20000 in
theorem gL_areNear_X10_nearest : GoodIn wsL_areNear (wsV RL 129 RX10 yX10_nearest wsX10_nearest) := goodIn_app (goodIn_of _ (by decide +kernel)) ggL_areNear_X10_nearest
theorem dL_areNear_0 : decode cL_areNear 0 = .ok (.iconst 1, 1) := by decide +kernel
theorem dL_areNear_1 : decode cL_areNear 1 = .ok (.istore 5, 2) := by decide +kernel
theorem dL_areNear_3 : decode cL_areNear 3 = .ok (.iconst 0, 1) := by decide +kernel
theorem dL_areNear_4 : decode cL_areNear 4 = .ok (.istore 6, 2) := by decide +kernel
theorem dL_areNear_6 : decode cL_areNear 6 = .ok (.iconst 0, 1) := by decide +kernel
theorem dL_areNear_7 : decode cL_areNear 7 = .ok (.istore 7, 2) := by decide +kernel
theorem dL_areNear_9 : decode cL_areNear 9 = .ok (.iload 7, 2) := by decide +kernel
theorem dL_areNear_11 : decode cL_areNear 11 = .ok (.aload_n 3, 1) := by decide +kernel
theorem dL_areNear_12 : decode cL_areNear 12 = .ok (.iconst 0, 1) := by decide +kernel
theorem dL_areNear_13 : decode cL_areNear 13 = .ok (.iaload, 1) := by decide +kernel
theorem dL_areNear_14 : decode cL_areNear 14 = .ok (.if_icmp .ge 247, 3) := by decide +kernel
theorem dL_areNear_17 : decode cL_areNear 17 = .ok (.iload 5, 2) := by decide +kernel
theorem dL_areNear_19 : decode cL_areNear 19 = .ok (.ifCond .eq 242, 3) := by decide +kernel
theorem dL_areNear_22 : decode cL_areNear 22 = .ok (.aload_n 1, 1) := by decide +kernel
theorem dL_areNear_23 : decode cL_areNear 23 = .ok (.iconst 4, 1) := by decide +kernel
theorem dL_areNear_24 : decode cL_areNear 24 = .ok (.iload 7, 2) := by decide +kernel
theorem dL_areNear_26 : decode cL_areNear 26 = .ok (.imul, 1) := by decide +kernel
theorem dL_areNear_27 : decode cL_areNear 27 = .ok (.iconst 1, 1) := by decide +kernel
theorem dL_areNear_28 : decode cL_areNear 28 = .ok (.iadd, 1) := by decide +kernel
theorem dL_areNear_29 : decode cL_areNear 29 = .ok (.iaload, 1) := by decide +kernel
theorem dL_areNear_30 : decode cL_areNear 30 = .ok (.istore 8, 2) := by decide +kernel
theorem dL_areNear_32 : decode cL_areNear 32 = .ok (.iload 8, 2) := by decide +kernel
theorem dL_areNear_34 : decode cL_areNear 34 = .ok (.invokestatic 51, 3) := by decide +kernel
theorem dL_areNear_37 : decode cL_areNear 37 = .ok (.iload 7, 2) := by decide +kernel
theorem dL_areNear_39 : decode cL_areNear 39 = .ok (.if_icmp .ne 26, 3) := by decide +kernel
theorem dL_areNear_42 : decode cL_areNear 42 = .ok (.aload_n 2, 1) := by decide +kernel
theorem dL_areNear_43 : decode cL_areNear 43 = .ok (.aload_n 3, 1) := by decide +kernel
theorem dL_areNear_44 : decode cL_areNear 44 = .ok (.iload 8, 2) := by decide +kernel
theorem dL_areNear_46 : decode cL_areNear 46 = .ok (.invokestatic 43, 3) := by decide +kernel
theorem dL_areNear_49 : decode cL_areNear 49 = .ok (.ifCond .le 16, 3) := by decide +kernel
theorem dL_areNear_52 : decode cL_areNear 52 = .ok (.aload_n 1, 1) := by decide +kernel
theorem dL_areNear_53 : decode cL_areNear 53 = .ok (.iload 8, 2) := by decide +kernel
theorem dL_areNear_55 : decode cL_areNear 55 = .ok (.invokestatic 35, 3) := by decide +kernel
theorem dL_areNear_58 : decode cL_areNear 58 = .ok (.ifCond .le 7, 3) := by decide +kernel
theorem dL_areNear_61 : decode cL_areNear 61 = .ok (.iconst 1, 1) := by decide +kernel
theorem dL_areNear_62 : decode cL_areNear 62 = .ok (.goto 4, 3) := by decide +kernel
theorem dL_areNear_65 : decode cL_areNear 65 = .ok (.iconst 0, 1) := by decide +kernel
theorem dL_areNear_66 : decode cL_areNear 66 = .ok (.istore 9, 2) := by decide +kernel
theorem dL_areNear_68 : decode cL_areNear 68 = .ok (.iload 9, 2) := by decide +kernel
theorem dL_areNear_70 : decode cL_areNear 70 = .ok (.ifCond .eq 16, 3) := by decide +kernel
theorem dL_areNear_73 : decode cL_areNear 73 = .ok (.aload_n 1, 1) := by decide +kernel
theorem dL_areNear_74 : decode cL_areNear 74 = .ok (.aload_n 2, 1) := by decide +kernel
theorem dL_areNear_75 : decode cL_areNear 75 = .ok (.aload_n 3, 1) := by decide +kernel
theorem dL_areNear_76 : decode cL_areNear 76 = .ok (.aload 4, 2) := by decide +kernel
theorem dL_areNear_78 : decode cL_areNear 78 = .ok (.iload 8, 2) := by decide +kernel
theorem dL_areNear_80 : decode cL_areNear 80 = .ok (.invokestatic 114, 3) := by decide +kernel
theorem dL_areNear_83 : decode cL_areNear 83 = .ok (.goto 4, 3) := by decide +kernel
theorem dL_areNear_86 : decode cL_areNear 86 = .ok (.iconst 0, 1) := by decide +kernel
theorem dL_areNear_87 : decode cL_areNear 87 = .ok (.istore 10, 2) := by decide +kernel
theorem dL_areNear_89 : decode cL_areNear 89 = .ok (.iconst 0, 1) := by decide +kernel
theorem dL_areNear_90 : decode cL_areNear 90 = .ok (.istore 11, 2) := by decide +kernel
theorem dL_areNear_92 : decode cL_areNear 92 = .ok (.iconst 0, 1) := by decide +kernel
theorem dL_areNear_93 : decode cL_areNear 93 = .ok (.istore 12, 2) := by decide +kernel
theorem dL_areNear_95 : decode cL_areNear 95 = .ok (.iload 12, 2) := by decide +kernel
theorem dL_areNear_97 : decode cL_areNear 97 = .ok (.aload_n 3, 1) := by decide +kernel
theorem dL_areNear_98 : decode cL_areNear 98 = .ok (.iconst 0, 1) := by decide +kernel
theorem dL_areNear_99 : decode cL_areNear 99 = .ok (.iaload, 1) := by decide +kernel
theorem dL_areNear_100 : decode cL_areNear 100 = .ok (.if_icmp .ge 117, 3) := by decide +kernel
theorem dL_areNear_103 : decode cL_areNear 103 = .ok (.iload 9, 2) := by decide +kernel
theorem dL_areNear_105 : decode cL_areNear 105 = .ok (.ifCond .eq 112, 3) := by decide +kernel
theorem dL_areNear_108 : decode cL_areNear 108 = .ok (.aload_n 1, 1) := by decide +kernel
theorem dL_areNear_109 : decode cL_areNear 109 = .ok (.iconst 4, 1) := by decide +kernel
theorem dL_areNear_110 : decode cL_areNear 110 = .ok (.iload 12, 2) := by decide +kernel
theorem dL_areNear_112 : decode cL_areNear 112 = .ok (.imul, 1) := by decide +kernel
theorem dL_areNear_113 : decode cL_areNear 113 = .ok (.iconst 1, 1) := by decide +kernel
theorem dL_areNear_114 : decode cL_areNear 114 = .ok (.iadd, 1) := by decide +kernel
theorem dL_areNear_115 : decode cL_areNear 115 = .ok (.iaload, 1) := by decide +kernel
theorem dL_areNear_116 : decode cL_areNear 116 = .ok (.istore 13, 2) := by decide +kernel
theorem dL_areNear_118 : decode cL_areNear 118 = .ok (.iload 13, 2) := by decide +kernel
theorem dL_areNear_120 : decode cL_areNear 120 = .ok (.invokestatic 51, 3) := by decide +kernel
theorem dL_areNear_123 : decode cL_areNear 123 = .ok (.iload 12, 2) := by decide +kernel
theorem dL_areNear_125 : decode cL_areNear 125 = .ok (.if_icmp .ne 26, 3) := by decide +kernel
theorem dL_areNear_128 : decode cL_areNear 128 = .ok (.aload_n 2, 1) := by decide +kernel
theorem dL_areNear_129 : decode cL_areNear 129 = .ok (.aload_n 3, 1) := by decide +kernel
theorem dL_areNear_130 : decode cL_areNear 130 = .ok (.iload 13, 2) := by decide +kernel
theorem dL_areNear_132 : decode cL_areNear 132 = .ok (.invokestatic 43, 3) := by decide +kernel
theorem dL_areNear_135 : decode cL_areNear 135 = .ok (.ifCond .le 16, 3) := by decide +kernel
theorem dL_areNear_138 : decode cL_areNear 138 = .ok (.aload_n 1, 1) := by decide +kernel
theorem dL_areNear_139 : decode cL_areNear 139 = .ok (.iload 13, 2) := by decide +kernel
theorem dL_areNear_141 : decode cL_areNear 141 = .ok (.invokestatic 35, 3) := by decide +kernel
theorem dL_areNear_144 : decode cL_areNear 144 = .ok (.ifCond .le 7, 3) := by decide +kernel
theorem dL_areNear_147 : decode cL_areNear 147 = .ok (.iconst 1, 1) := by decide +kernel
theorem dL_areNear_148 : decode cL_areNear 148 = .ok (.goto 4, 3) := by decide +kernel
theorem dL_areNear_151 : decode cL_areNear 151 = .ok (.iconst 0, 1) := by decide +kernel
theorem dL_areNear_152 : decode cL_areNear 152 = .ok (.istore 14, 2) := by decide +kernel
theorem dL_areNear_154 : decode cL_areNear 154 = .ok (.iload 14, 2) := by decide +kernel
theorem dL_areNear_156 : decode cL_areNear 156 = .ok (.ifCond .eq 16, 3) := by decide +kernel
theorem dL_areNear_159 : decode cL_areNear 159 = .ok (.aload_n 1, 1) := by decide +kernel
theorem dL_areNear_160 : decode cL_areNear 160 = .ok (.aload_n 2, 1) := by decide +kernel
theorem dL_areNear_161 : decode cL_areNear 161 = .ok (.aload_n 3, 1) := by decide +kernel
theorem dL_areNear_162 : decode cL_areNear 162 = .ok (.aload 4, 2) := by decide +kernel
theorem dL_areNear_164 : decode cL_areNear 164 = .ok (.iload 13, 2) := by decide +kernel
theorem dL_areNear_166 : decode cL_areNear 166 = .ok (.invokestatic 114, 3) := by decide +kernel
theorem dL_areNear_169 : decode cL_areNear 169 = .ok (.goto 4, 3) := by decide +kernel
theorem dL_areNear_172 : decode cL_areNear 172 = .ok (.iconst 0, 1) := by decide +kernel
theorem dL_areNear_173 : decode cL_areNear 173 = .ok (.istore 15, 2) := by decide +kernel
theorem dL_areNear_175 : decode cL_areNear 175 = .ok (.iload 11, 2) := by decide +kernel
theorem dL_areNear_177 : decode cL_areNear 177 = .ok (.iload 14, 2) := by decide +kernel
theorem dL_areNear_179 : decode cL_areNear 179 = .ok (.ifCond .eq 28, 3) := by decide +kernel
theorem dL_areNear_182 : decode cL_areNear 182 = .ok (.iload 15, 2) := by decide +kernel
theorem dL_areNear_184 : decode cL_areNear 184 = .ok (.iload 10, 2) := by decide +kernel
theorem dL_areNear_186 : decode cL_areNear 186 = .ok (.if_icmp .lt 17, 3) := by decide +kernel
theorem dL_areNear_189 : decode cL_areNear 189 = .ok (.iload 15, 2) := by decide +kernel
theorem dL_areNear_191 : decode cL_areNear 191 = .ok (.iload 10, 2) := by decide +kernel
theorem dL_areNear_193 : decode cL_areNear 193 = .ok (.if_icmp .ne 14, 3) := by decide +kernel
theorem dL_areNear_196 : decode cL_areNear 196 = .ok (.iload 12, 2) := by decide +kernel
theorem dL_areNear_198 : decode cL_areNear 198 = .ok (.iload 7, 2) := by decide +kernel
theorem dL_areNear_200 : decode cL_areNear 200 = .ok (.if_icmp .ge 7, 3) := by decide +kernel
theorem dL_areNear_203 : decode cL_areNear 203 = .ok (.iconst 1, 1) := by decide +kernel
theorem dL_areNear_204 : decode cL_areNear 204 = .ok (.goto 4, 3) := by decide +kernel
theorem dL_areNear_207 : decode cL_areNear 207 = .ok (.iconst 0, 1) := by decide +kernel
theorem dL_areNear_208 : decode cL_areNear 208 = .ok (.iadd, 1) := by decide +kernel
theorem dL_areNear_209 : decode cL_areNear 209 = .ok (.istore 11, 2) := by decide +kernel
theorem dL_areNear_211 : decode cL_areNear 211 = .ok (.iinc 12 1, 3) := by decide +kernel
theorem dL_areNear_214 : decode cL_areNear 214 = .ok (.goto (-119), 3) := by decide +kernel
theorem dL_areNear_217 : decode cL_areNear 217 = .ok (.iload 9, 2) := by decide +kernel
theorem dL_areNear_219 : decode cL_areNear 219 = .ok (.ifCond .eq 14, 3) := by decide +kernel
theorem dL_areNear_222 : decode cL_areNear 222 = .ok (.aload_n 0, 1) := by decide +kernel
theorem dL_areNear_223 : decode cL_areNear 223 = .ok (.iload 11, 2) := by decide +kernel
theorem dL_areNear_225 : decode cL_areNear 225 = .ok (.invokevirtual 129, 3) := by decide +kernel
theorem dL_areNear_228 : decode cL_areNear 228 = .ok (.iload 7, 2) := by decide +kernel
theorem dL_areNear_230 : decode cL_areNear 230 = .ok (.if_icmp .ne 7, 3) := by decide +kernel
theorem dL_areNear_233 : decode cL_areNear 233 = .ok (.iconst 1, 1) := by decide +kernel
theorem dL_areNear_234 : decode cL_areNear 234 = .ok (.goto 4, 3) := by decide +kernel
theorem dL_areNear_237 : decode cL_areNear 237 = .ok (.iconst 0, 1) := by decide +kernel
theorem dL_areNear_238 : decode cL_areNear 238 = .ok (.istore 5, 2) := by decide +kernel
theorem dL_areNear_240 : decode cL_areNear 240 = .ok (.iload 6, 2) := by decide +kernel
theorem dL_areNear_242 : decode cL_areNear 242 = .ok (.iload 9, 2) := by decide +kernel
theorem dL_areNear_244 : decode cL_areNear 244 = .ok (.ifCond .eq 7, 3) := by decide +kernel
theorem dL_areNear_247 : decode cL_areNear 247 = .ok (.iconst 1, 1) := by decide +kernel
theorem dL_areNear_248 : decode cL_areNear 248 = .ok (.goto 4, 3) := by decide +kernel
theorem dL_areNear_251 : decode cL_areNear 251 = .ok (.iconst 0, 1) := by decide +kernel
theorem dL_areNear_252 : decode cL_areNear 252 = .ok (.iadd, 1) := by decide +kernel
theorem dL_areNear_253 : decode cL_areNear 253 = .ok (.istore 6, 2) := by decide +kernel
theorem dL_areNear_255 : decode cL_areNear 255 = .ok (.iinc 7 1, 3) := by decide +kernel
theorem dL_areNear_258 : decode cL_areNear 258 = .ok (.goto (-249), 3) := by decide +kernel
theorem dL_areNear_261 : decode cL_areNear 261 = .ok (.iload 5, 2) := by decide +kernel
theorem dL_areNear_263 : decode cL_areNear 263 = .ok (.ifCond .eq 17, 3) := by decide +kernel
theorem dL_areNear_266 : decode cL_areNear 266 = .ok (.aload_n 0, 1) := by decide +kernel
theorem dL_areNear_267 : decode cL_areNear 267 = .ok (.iload 6, 2) := by decide +kernel
theorem dL_areNear_269 : decode cL_areNear 269 = .ok (.invokevirtual 129, 3) := by decide +kernel
theorem dL_areNear_272 : decode cL_areNear 272 = .ok (.iconst (-1), 1) := by decide +kernel
theorem dL_areNear_273 : decode cL_areNear 273 = .ok (.if_icmp .ne 7, 3) := by decide +kernel
theorem dL_areNear_276 : decode cL_areNear 276 = .ok (.iconst 1, 1) := by decide +kernel
theorem dL_areNear_277 : decode cL_areNear 277 = .ok (.goto 4, 3) := by decide +kernel
theorem dL_areNear_280 : decode cL_areNear 280 = .ok (.iconst 0, 1) := by decide +kernel
theorem dL_areNear_281 : decode cL_areNear 281 = .ok (.ireturn, 1) := by decide +kernel
