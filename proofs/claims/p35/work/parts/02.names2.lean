set_option maxRecDepth 20000 in
theorem gX10_starAt_Jx4a65c_size_8abf5 : GoodIn wsX10_starAt (wsV RX10 81 RJx4a65c yJx4a65c_size_8abf5 wsJx4a65c_size_8abf5) := goodIn_app (goodIn_of _ (by decide +kernel)) ggX10_starAt_Jx4a65c_size_8abf5
set_option maxRecDepth 20000 in
theorem ggX10_starAt_Jx4a65c_get_915e3 : GoodIn wsX10_starAt wsJx4a65c_get_915e3 := goodIn_r _ [14, 10, 15, 16, 17, 18, 19, 20, 21, 22, 23, 24, 25, 8, 26, 27, 41, 42, 43] (by decide +kernel) (by decide +kernel)
set_option maxRecDepth 20000 in
theorem gX10_starAt_Jx4a65c_get_915e3 : GoodIn wsX10_starAt (wsV RX10 188 RJx4a65c yJx4a65c_get_915e3 wsJx4a65c_get_915e3) := goodIn_app (goodIn_of _ (by decide +kernel)) ggX10_starAt_Jx4a65c_get_915e3
theorem dX10_starAt_0 : decode cX10_starAt 0 = .ok (.iload_n 1, 1) := by decide +kernel
theorem dX10_starAt_1 : decode cX10_starAt 1 = .ok (.ifCond .lt 14, 3) := by decide +kernel
theorem dX10_starAt_4 : decode cX10_starAt 4 = .ok (.iload_n 1, 1) := by decide +kernel
theorem dX10_starAt_5 : decode cX10_starAt 5 = .ok (.aload_n 0, 1) := by decide +kernel
theorem dX10_starAt_6 : decode cX10_starAt 6 = .ok (.getfield 19, 3) := by decide +kernel
theorem dX10_starAt_9 : decode cX10_starAt 9 = .ok (.invokevirtual 81, 3) := by decide +kernel
theorem dX10_starAt_12 : decode cX10_starAt 12 = .ok (.if_icmp .lt 14, 3) := by decide +kernel
theorem dX10_starAt_15 : decode cX10_starAt 15 = .ok (.new 183, 3) := by decide +kernel
theorem dX10_starAt_18 : decode cX10_starAt 18 = .ok (.dup, 1) := by decide +kernel
theorem dX10_starAt_19 : decode cX10_starAt 19 = .ok (.ldc_w 311, 3) := by decide +kernel
theorem dX10_starAt_22 : decode cX10_starAt 22 = .ok (.invokespecial 187, 3) := by decide +kernel
theorem dX10_starAt_25 : decode cX10_starAt 25 = .ok (.athrow, 1) := by decide +kernel
theorem dX10_starAt_26 : decode cX10_starAt 26 = .ok (.aload_n 0, 1) := by decide +kernel
theorem dX10_starAt_27 : decode cX10_starAt 27 = .ok (.getfield 19, 3) := by decide +kernel
theorem dX10_starAt_30 : decode cX10_starAt 30 = .ok (.iload_n 1, 1) := by decide +kernel
theorem dX10_starAt_31 : decode cX10_starAt 31 = .ok (.invokevirtual 188, 3) := by decide +kernel
theorem dX10_starAt_34 : decode cX10_starAt 34 = .ok (.checkcast 89, 3) := by decide +kernel
theorem dX10_starAt_37 : decode cX10_starAt 37 = .ok (.areturn, 1) := by decide +kernel
set_option maxRecDepth 20000 in
theorem ggX10_plateAt_Jx4a65c_size_8abf5 : GoodIn wsX10_plateAt wsJx4a65c_size_8abf5 := goodIn_r _ [9, 10, 41, 42, 43] (by decide +kernel) (by decide +kernel)
set_option maxRecDepth 20000 in
theorem gX10_plateAt_Jx4a65c_size_8abf5 : GoodIn wsX10_plateAt (wsV RX10 81 RJx4a65c yJx4a65c_size_8abf5 wsJx4a65c_size_8abf5) := goodIn_app (goodIn_of _ (by decide +kernel)) ggX10_plateAt_Jx4a65c_size_8abf5
set_option maxRecDepth 20000 in
theorem ggX10_plateAt_Jx4a65c_get_915e3 : GoodIn wsX10_plateAt wsJx4a65c_get_915e3 := goodIn_r _ [14, 10, 15, 16, 17, 18, 19, 20, 21, 22, 23, 24, 25, 8, 26, 27, 41, 42, 43] (by decide +kernel) (by decide +kernel)
set_option maxRecDepth 20000 in
theorem gX10_plateAt_Jx4a65c_get_915e3 : GoodIn wsX10_plateAt (wsV RX10 188 RJx4a65c yJx4a65c_get_915e3 wsJx4a65c_get_915e3) := goodIn_app (goodIn_of _ (by decide +kernel)) ggX10_plateAt_Jx4a65c_get_915e3
theorem dX10_plateAt_0 : decode cX10_plateAt 0 = .ok (.iload_n 1, 1) := by decide +kernel
theorem dX10_plateAt_1 : decode cX10_plateAt 1 = .ok (.ifCond .lt 14, 3) := by decide +kernel
theorem dX10_plateAt_4 : decode cX10_plateAt 4 = .ok (.iload_n 1, 1) := by decide +kernel
theorem dX10_plateAt_5 : decode cX10_plateAt 5 = .ok (.aload_n 0, 1) := by decide +kernel
theorem dX10_plateAt_6 : decode cX10_plateAt 6 = .ok (.getfield 22, 3) := by decide +kernel
theorem dX10_plateAt_9 : decode cX10_plateAt 9 = .ok (.invokevirtual 81, 3) := by decide +kernel
theorem dX10_plateAt_12 : decode cX10_plateAt 12 = .ok (.if_icmp .lt 14, 3) := by decide +kernel
theorem dX10_plateAt_15 : decode cX10_plateAt 15 = .ok (.new 183, 3) := by decide +kernel
theorem dX10_plateAt_18 : decode cX10_plateAt 18 = .ok (.dup, 1) := by decide +kernel
theorem dX10_plateAt_19 : decode cX10_plateAt 19 = .ok (.ldc_w 313, 3) := by decide +kernel
theorem dX10_plateAt_22 : decode cX10_plateAt 22 = .ok (.invokespecial 187, 3) := by decide +kernel
theorem dX10_plateAt_25 : decode cX10_plateAt 25 = .ok (.athrow, 1) := by decide +kernel
theorem dX10_plateAt_26 : decode cX10_plateAt 26 = .ok (.aload_n 0, 1) := by decide +kernel
theorem dX10_plateAt_27 : decode cX10_plateAt 27 = .ok (.getfield 22, 3) := by decide +kernel
theorem dX10_plateAt_30 : decode cX10_plateAt 30 = .ok (.iload_n 1, 1) := by decide +kernel
theorem dX10_plateAt_31 : decode cX10_plateAt 31 = .ok (.invokevirtual 188, 3) := by decide +kernel
theorem dX10_plateAt_34 : decode cX10_plateAt 34 = .ok (.checkcast 107, 3) := by decide +kernel
theorem dX10_plateAt_37 : decode cX10_plateAt 37 = .ok (.areturn, 1) := by decide +kernel
set_option maxRecDepth 20000 in
theorem ggX10_lookAt_Jx4a65c_size_8abf5 : GoodIn wsX10_lookAt wsJx4a65c_size_8abf5 := goodIn_r _ [9, 10, 41, 42, 43] (by decide +kernel) (by decide +kernel)
set_option maxRecDepth 20000 in
theorem gX10_lookAt_Jx4a65c_size_8abf5 : GoodIn wsX10_lookAt (wsV RX10 81 RJx4a65c yJx4a65c_size_8abf5 wsJx4a65c_size_8abf5) := goodIn_app (goodIn_of _ (by decide +kernel)) ggX10_lookAt_Jx4a65c_size_8abf5
set_option maxRecDepth 20000 in
theorem ggX10_lookAt_Jx4a65c_get_915e3 : GoodIn wsX10_lookAt wsJx4a65c_get_915e3 := goodIn_r _ [14, 10, 15, 16, 17, 18, 19, 20, 21, 22, 23, 24, 25, 8, 26, 27, 41, 42, 43] (by decide +kernel) (by decide +kernel)
set_option maxRecDepth 20000 in
theorem gX10_lookAt_Jx4a65c_get_915e3 : GoodIn wsX10_lookAt (wsV RX10 188 RJx4a65c yJx4a65c_get_915e3 wsJx4a65c_get_915e3) := goodIn_app (goodIn_of _ (by decide +kernel)) ggX10_lookAt_Jx4a65c_get_915e3
theorem dX10_lookAt_0 : decode cX10_lookAt 0 = .ok (.iload_n 1, 1) := by decide +kernel
theorem dX10_lookAt_1 : decode cX10_lookAt 1 = .ok (.ifCond .lt 14, 3) := by decide +kernel
theorem dX10_lookAt_4 : decode cX10_lookAt 4 = .ok (.iload_n 1, 1) := by decide +kernel
theorem dX10_lookAt_5 : decode cX10_lookAt 5 = .ok (.aload_n 0, 1) := by decide +kernel
theorem dX10_lookAt_6 : decode cX10_lookAt 6 = .ok (.getfield 25, 3) := by decide +kernel
theorem dX10_lookAt_9 : decode cX10_lookAt 9 = .ok (.invokevirtual 81, 3) := by decide +kernel
theorem dX10_lookAt_12 : decode cX10_lookAt 12 = .ok (.if_icmp .lt 14, 3) := by decide +kernel
theorem dX10_lookAt_15 : decode cX10_lookAt 15 = .ok (.new 183, 3) := by decide +kernel
theorem dX10_lookAt_18 : decode cX10_lookAt 18 = .ok (.dup, 1) := by decide +kernel
theorem dX10_lookAt_19 : decode cX10_lookAt 19 = .ok (.ldc_w 315, 3) := by decide +kernel
theorem dX10_lookAt_22 : decode cX10_lookAt 22 = .ok (.invokespecial 187, 3) := by decide +kernel
theorem dX10_lookAt_25 : decode cX10_lookAt 25 = .ok (.athrow, 1) := by decide +kernel
theorem dX10_lookAt_26 : decode cX10_lookAt 26 = .ok (.aload_n 0, 1) := by decide +kernel
theorem dX10_lookAt_27 : decode cX10_lookAt 27 = .ok (.getfield 25, 3) := by decide +kernel
theorem dX10_lookAt_30 : decode cX10_lookAt 30 = .ok (.iload_n 1, 1) := by decide +kernel
theorem dX10_lookAt_31 : decode cX10_lookAt 31 = .ok (.invokevirtual 188, 3) := by decide +kernel
theorem dX10_lookAt_34 : decode cX10_lookAt 34 = .ok (.checkcast 144, 3) := by decide +kernel
theorem dX10_lookAt_37 : decode cX10_lookAt 37 = .ok (.areturn, 1) := by decide +kernel
set_option maxRecDepth 20000 in
theorem ggX10_ruleAt_Jx4a65c_size_8abf5 : GoodIn wsX10_ruleAt wsJx4a65c_size_8abf5 := goodIn_r _ [9, 10, 41, 42, 43] (by decide +kernel) (by decide +kernel)
set_option maxRecDepth 20000 in
theorem gX10_ruleAt_Jx4a65c_size_8abf5 : GoodIn wsX10_ruleAt (wsV RX10 81 RJx4a65c yJx4a65c_size_8abf5 wsJx4a65c_size_8abf5) := goodIn_app (goodIn_of _ (by decide +kernel)) ggX10_ruleAt_Jx4a65c_size_8abf5
set_option maxRecDepth 20000 in
theorem ggX10_ruleAt_Jx4a65c_get_915e3 : GoodIn wsX10_ruleAt wsJx4a65c_get_915e3 := goodIn_r _ [14, 10, 15, 16, 17, 18, 19, 20, 21, 22, 23, 24, 25, 8, 26, 27, 41, 42, 43] (by decide +kernel) (by decide +kernel)
set_option maxRecDepth 20000 in
theorem gX10_ruleAt_Jx4a65c_get_915e3 : GoodIn wsX10_ruleAt (wsV RX10 188 RJx4a65c yJx4a65c_get_915e3 wsJx4a65c_get_915e3) := goodIn_app (goodIn_of _ (by decide +kernel)) ggX10_ruleAt_Jx4a65c_get_915e3
theorem dX10_ruleAt_0 : decode cX10_ruleAt 0 = .ok (.iload_n 1, 1) := by decide +kernel
theorem dX10_ruleAt_1 : decode cX10_ruleAt 1 = .ok (.ifCond .lt 14, 3) := by decide +kernel
theorem dX10_ruleAt_4 : decode cX10_ruleAt 4 = .ok (.iload_n 1, 1) := by decide +kernel
theorem dX10_ruleAt_5 : decode cX10_ruleAt 5 = .ok (.aload_n 0, 1) := by decide +kernel
theorem dX10_ruleAt_6 : decode cX10_ruleAt 6 = .ok (.getfield 28, 3) := by decide +kernel
theorem dX10_ruleAt_9 : decode cX10_ruleAt 9 = .ok (.invokevirtual 81, 3) := by decide +kernel
theorem dX10_ruleAt_12 : decode cX10_ruleAt 12 = .ok (.if_icmp .lt 14, 3) := by decide +kernel
theorem dX10_ruleAt_15 : decode cX10_ruleAt 15 = .ok (.new 183, 3) := by decide +kernel
theorem dX10_ruleAt_18 : decode cX10_ruleAt 18 = .ok (.dup, 1) := by decide +kernel
theorem dX10_ruleAt_19 : decode cX10_ruleAt 19 = .ok (.ldc_w 317, 3) := by decide +kernel
theorem dX10_ruleAt_22 : decode cX10_ruleAt 22 = .ok (.invokespecial 187, 3) := by decide +kernel
theorem dX10_ruleAt_25 : decode cX10_ruleAt 25 = .ok (.athrow, 1) := by decide +kernel
theorem dX10_ruleAt_26 : decode cX10_ruleAt 26 = .ok (.aload_n 0, 1) := by decide +kernel
theorem dX10_ruleAt_27 : decode cX10_ruleAt 27 = .ok (.getfield 28, 3) := by decide +kernel
theorem dX10_ruleAt_30 : decode cX10_ruleAt 30 = .ok (.iload_n 1, 1) := by decide +kernel
theorem dX10_ruleAt_31 : decode cX10_ruleAt 31 = .ok (.invokevirtual 188, 3) := by decide +kernel
theorem dX10_ruleAt_34 : decode cX10_ruleAt 34 = .ok (.checkcast 249, 3) := by decide +kernel
theorem dX10_ruleAt_37 : decode cX10_ruleAt 37 = .ok (.areturn, 1) := by decide +kernel
theorem dX10_needPlace_0 : decode cX10_needPlace 0 = .ok (.iload_n 0, 1) := by decide +kernel
theorem dX10_needPlace_1 : decode cX10_needPlace 1 = .ok (.ifCond .lt 8, 3) := by decide +kernel
theorem dX10_needPlace_4 : decode cX10_needPlace 4 = .ok (.iload_n 0, 1) := by decide +kernel
theorem dX10_needPlace_5 : decode cX10_needPlace 5 = .ok (.iload_n 1, 1) := by decide +kernel
theorem dX10_needPlace_6 : decode cX10_needPlace 6 = .ok (.if_icmp .lt 13, 3) := by decide +kernel
theorem dX10_needPlace_9 : decode cX10_needPlace 9 = .ok (.new 183, 3) := by decide +kernel
theorem dX10_needPlace_12 : decode cX10_needPlace 12 = .ok (.dup, 1) := by decide +kernel
theorem dX10_needPlace_13 : decode cX10_needPlace 13 = .ok (.ldc 185, 2) := by decide +kernel
theorem dX10_needPlace_15 : decode cX10_needPlace 15 = .ok (.invokespecial 187, 3) := by decide +kernel
theorem dX10_needPlace_18 : decode cX10_needPlace 18 = .ok (.athrow, 1) := by decide +kernel
theorem dX10_needPlace_19 : decode cX10_needPlace 19 = .ok (.return_, 1) := by decide +kernel
theorem dX10_needRange_0 : decode cX10_needRange 0 = .ok (.iload_n 0, 1) := by decide +kernel
theorem dX10_needRange_1 : decode cX10_needRange 1 = .ok (.iload_n 1, 1) := by decide +kernel
theorem dX10_needRange_2 : decode cX10_needRange 2 = .ok (.if_icmp .lt 8, 3) := by decide +kernel
theorem dX10_needRange_5 : decode cX10_needRange 5 = .ok (.iload_n 0, 1) := by decide +kernel
theorem dX10_needRange_6 : decode cX10_needRange 6 = .ok (.iload_n 2, 1) := by decide +kernel
theorem dX10_needRange_7 : decode cX10_needRange 7 = .ok (.if_icmp .le 14, 3) := by decide +kernel
theorem dX10_needRange_10 : decode cX10_needRange 10 = .ok (.new 122, 3) := by decide +kernel
theorem dX10_needRange_13 : decode cX10_needRange 13 = .ok (.dup, 1) := by decide +kernel
theorem dX10_needRange_14 : decode cX10_needRange 14 = .ok (.ldc_w 319, 3) := by decide +kernel
theorem dX10_needRange_17 : decode cX10_needRange 17 = .ok (.invokespecial 126, 3) := by decide +kernel
theorem dX10_needRange_20 : decode cX10_needRange 20 = .ok (.athrow, 1) := by decide +kernel
theorem dX10_needRange_21 : decode cX10_needRange 21 = .ok (.return_, 1) := by decide +kernel
set_option maxRecDepth 20000 in
theorem ggX10_needPeriod_X10_needRange : GoodIn wsX10_needPeriod wsX10_needRange := goodIn_ca (goodIn_r _ [5, 6, 7] (by decide +kernel) (by decide +kernel)) (goodIn_sub (fun _ h => List.mem_cons_of_mem _ (List.mem_append_right _ h)) (by decide +kernel))
set_option maxRecDepth 20000 in
theorem gX10_needPeriod_X10_needRange : GoodIn wsX10_needPeriod (va_wsS RX10 74 yX10_needRange wsX10_needRange) := goodIn_app (goodIn_of _ (by decide +kernel)) ggX10_needPeriod_X10_needRange
theorem dX10_needPeriod_0 : decode cX10_needPeriod 0 = .ok (.iload_n 0, 1) := by decide +kernel
theorem dX10_needPeriod_1 : decode cX10_needPeriod 1 = .ok (.bipush 30, 2) := by decide +kernel
theorem dX10_needPeriod_3 : decode cX10_needPeriod 3 = .ok (.ldc 246, 2) := by decide +kernel
theorem dX10_needPeriod_5 : decode cX10_needPeriod 5 = .ok (.invokestatic 74, 3) := by decide +kernel
theorem dX10_needPeriod_8 : decode cX10_needPeriod 8 = .ok (.return_, 1) := by decide +kernel
set_option maxRecDepth 20000 in
theorem ggX10_needPlateZero_X10_needRange : GoodIn wsX10_needPlateZero wsX10_needRange := goodIn_ca (goodIn_r _ [4, 5, 6] (by decide +kernel) (by decide +kernel)) (goodIn_sub (fun _ h => List.mem_cons_of_mem _ (List.mem_append_right _ h)) (by decide +kernel))
set_option maxRecDepth 20000 in
theorem gX10_needPlateZero_X10_needRange : GoodIn wsX10_needPlateZero (va_wsS RX10 74 yX10_needRange wsX10_needRange) := goodIn_app (goodIn_of _ (by decide +kernel)) ggX10_needPlateZero_X10_needRange
theorem dX10_needPlateZero_0 : decode cX10_needPlateZero 0 = .ok (.iload_n 0, 1) := by decide +kernel
theorem dX10_needPlateZero_1 : decode cX10_needPlateZero 1 = .ok (.sipush (-500), 3) := by decide +kernel
theorem dX10_needPlateZero_4 : decode cX10_needPlateZero 4 = .ok (.sipush 3000, 3) := by decide +kernel
theorem dX10_needPlateZero_7 : decode cX10_needPlateZero 7 = .ok (.invokestatic 74, 3) := by decide +kernel
theorem dX10_needPlateZero_10 : decode cX10_needPlateZero 10 = .ok (.return_, 1) := by decide +kernel
theorem dX10_needRoom_0 : decode cX10_needRoom 0 = .ok (.iload_n 0, 1) := by decide +kernel
theorem dX10_needRoom_1 : decode cX10_needRoom 1 = .ok (.iload_n 1, 1) := by decide +kernel
theorem dX10_needRoom_2 : decode cX10_needRoom 2 = .ok (.if_icmp .lt 14, 3) := by decide +kernel
theorem dX10_needRoom_5 : decode cX10_needRoom 5 = .ok (.new 157, 3) := by decide +kernel
theorem dX10_needRoom_8 : decode cX10_needRoom 8 = .ok (.dup, 1) := by decide +kernel
theorem dX10_needRoom_9 : decode cX10_needRoom 9 = .ok (.ldc_w 321, 3) := by decide +kernel
theorem dX10_needRoom_12 : decode cX10_needRoom 12 = .ok (.invokespecial 161, 3) := by decide +kernel
theorem dX10_needRoom_15 : decode cX10_needRoom 15 = .ok (.athrow, 1) := by decide +kernel
theorem dX10_needRoom_16 : decode cX10_needRoom 16 = .ok (.return_, 1) := by decide +kernel
set_option maxRecDepth 20000 in
theorem ggX10_countTrials_X10_needPeriod : GoodIn wsX10_countTrials wsX10_needPeriod := goodIn_ca (goodIn_r _ [5, 1, 6, 7, 4, 8, 9, 10] (by decide +kernel) (by decide +kernel)) (goodIn_sub (fun _ h => List.mem_cons_of_mem _ (List.mem_append_right _ h)) (by decide +kernel))
set_option maxRecDepth 20000 in
theorem gX10_countTrials_X10_needPeriod : GoodIn wsX10_countTrials (va_wsS RX10 214 yX10_needPeriod wsX10_needPeriod) := goodIn_app (goodIn_of _ (by decide +kernel)) ggX10_countTrials_X10_needPeriod
set_option maxRecDepth 20000 in
theorem ggX10_countTrials_X10_needRange : GoodIn wsX10_countTrials wsX10_needRange := goodIn_ca (goodIn_r _ [8, 9, 10] (by decide +kernel) (by decide +kernel)) (goodIn_sub (fun _ h => List.mem_cons_of_mem _ (List.mem_append_right _ h)) (by decide +kernel))
set_option maxRecDepth 20000 in
theorem gX10_countTrials_X10_needRange : GoodIn wsX10_countTrials (va_wsS RX10 74 yX10_needRange wsX10_needRange) := goodIn_app (goodIn_of _ (by decide +kernel)) ggX10_countTrials_X10_needRange
set_option maxRecDepth 20000 in
theorem ggX10_countTrials_X10_quotient : GoodIn wsX10_countTrials wsX10_quotient := goodIn_r _ [13, 14, 15, 16, 17] (by decide +kernel) (by decide +kernel)
set_option maxRecDepth 20000 in
theorem gX10_countTrials_X10_quotient : GoodIn wsX10_countTrials (va_wsS RX10 323 yX10_quotient wsX10_quotient) := goodIn_app (goodIn_of _ (by decide +kernel)) ggX10_countTrials_X10_quotient
theorem dX10_countTrials_0 : decode cX10_countTrials 0 = .ok (.iload_n 0, 1) := by decide +kernel
theorem dX10_countTrials_1 : decode cX10_countTrials 1 = .ok (.invokestatic 214, 3) := by decide +kernel
theorem dX10_countTrials_4 : decode cX10_countTrials 4 = .ok (.iload_n 1, 1) := by decide +kernel
theorem dX10_countTrials_5 : decode cX10_countTrials 5 = .ok (.iload_n 0, 1) := by decide +kernel
theorem dX10_countTrials_6 : decode cX10_countTrials 6 = .ok (.ldc 246, 2) := by decide +kernel
theorem dX10_countTrials_8 : decode cX10_countTrials 8 = .ok (.invokestatic 74, 3) := by decide +kernel
theorem dX10_countTrials_11 : decode cX10_countTrials 11 = .ok (.iload_n 2, 1) := by decide +kernel
theorem dX10_countTrials_12 : decode cX10_countTrials 12 = .ok (.iconst 1, 1) := by decide +kernel
theorem dX10_countTrials_13 : decode cX10_countTrials 13 = .ok (.ldc 246, 2) := by decide +kernel
theorem dX10_countTrials_15 : decode cX10_countTrials 15 = .ok (.invokestatic 74, 3) := by decide +kernel
theorem dX10_countTrials_18 : decode cX10_countTrials 18 = .ok (.iload_n 1, 1) := by decide +kernel
theorem dX10_countTrials_19 : decode cX10_countTrials 19 = .ok (.iload_n 0, 1) := by decide +kernel
theorem dX10_countTrials_20 : decode cX10_countTrials 20 = .ok (.isub, 1) := by decide +kernel
theorem dX10_countTrials_21 : decode cX10_countTrials 21 = .ok (.iload_n 2, 1) := by decide +kernel
theorem dX10_countTrials_22 : decode cX10_countTrials 22 = .ok (.invokestatic 323, 3) := by decide +kernel
theorem dX10_countTrials_25 : decode cX10_countTrials 25 = .ok (.iconst 1, 1) := by decide +kernel
theorem dX10_countTrials_26 : decode cX10_countTrials 26 = .ok (.iadd, 1) := by decide +kernel
theorem dX10_countTrials_27 : decode cX10_countTrials 27 = .ok (.istore_n 3, 1) := by decide +kernel
theorem dX10_countTrials_28 : decode cX10_countTrials 28 = .ok (.iload_n 3, 1) := by decide +kernel
theorem dX10_countTrials_29 : decode cX10_countTrials 29 = .ok (.iconst 1, 1) := by decide +kernel
theorem dX10_countTrials_30 : decode cX10_countTrials 30 = .ok (.sipush 200, 3) := by decide +kernel
theorem dX10_countTrials_33 : decode cX10_countTrials 33 = .ok (.invokestatic 74, 3) := by decide +kernel
theorem dX10_countTrials_36 : decode cX10_countTrials 36 = .ok (.iload_n 3, 1) := by decide +kernel
theorem dX10_countTrials_37 : decode cX10_countTrials 37 = .ok (.ireturn, 1) := by decide +kernel
set_option maxRecDepth 20000 in
theorem ggX10_renumber_Jx4a65c_size_8abf5 : GoodIn wsX10_renumber wsJx4a65c_size_8abf5 := goodIn_r _ [8, 9, 45, 46, 47] (by decide +kernel) (by decide +kernel)
set_option maxRecDepth 20000 in
theorem gX10_renumber_Jx4a65c_size_8abf5 : GoodIn wsX10_renumber (wsV RX10 81 RJx4a65c yJx4a65c_size_8abf5 wsJx4a65c_size_8abf5) := goodIn_app (goodIn_of _ (by decide +kernel)) ggX10_renumber_Jx4a65c_size_8abf5
set_option maxRecDepth 20000 in
theorem ggX10_renumber_Jx4a65c_get_915e3 : GoodIn wsX10_renumber wsJx4a65c_get_915e3 := goodIn_r _ [13, 9, 14, 15, 16, 17, 18, 19, 20, 21, 22, 23, 24, 7, 25, 26, 45, 46, 47] (by decide +kernel) (by decide +kernel)
set_option maxRecDepth 20000 in
theorem gX10_renumber_Jx4a65c_get_915e3 : GoodIn wsX10_renumber (wsV RX10 188 RJx4a65c yJx4a65c_get_915e3 wsJx4a65c_get_915e3) := goodIn_app (goodIn_of _ (by decide +kernel)) ggX10_renumber_Jx4a65c_get_915e3
theorem dX10_renumber_0 : decode cX10_renumber 0 = .ok (.iconst 0, 1) := by decide +kernel
theorem dX10_renumber_1 : decode cX10_renumber 1 = .ok (.istore_n 3, 1) := by decide +kernel
theorem dX10_renumber_2 : decode cX10_renumber 2 = .ok (.iload_n 3, 1) := by decide +kernel
theorem dX10_renumber_3 : decode cX10_renumber 3 = .ok (.aload_n 0, 1) := by decide +kernel
theorem dX10_renumber_4 : decode cX10_renumber 4 = .ok (.getfield 19, 3) := by decide +kernel
theorem dX10_renumber_7 : decode cX10_renumber 7 = .ok (.invokevirtual 81, 3) := by decide +kernel
theorem dX10_renumber_10 : decode cX10_renumber 10 = .ok (.if_icmp .ge 37, 3) := by decide +kernel
theorem dX10_renumber_13 : decode cX10_renumber 13 = .ok (.aload_n 0, 1) := by decide +kernel
theorem dX10_renumber_14 : decode cX10_renumber 14 = .ok (.getfield 19, 3) := by decide +kernel
theorem dX10_renumber_17 : decode cX10_renumber 17 = .ok (.iload_n 3, 1) := by decide +kernel
theorem dX10_renumber_18 : decode cX10_renumber 18 = .ok (.invokevirtual 188, 3) := by decide +kernel
theorem dX10_renumber_21 : decode cX10_renumber 21 = .ok (.checkcast 89, 3) := by decide +kernel
theorem dX10_renumber_24 : decode cX10_renumber 24 = .ok (.astore 4, 2) := by decide +kernel
theorem dX10_renumber_26 : decode cX10_renumber 26 = .ok (.aload 4, 2) := by decide +kernel
theorem dX10_renumber_28 : decode cX10_renumber 28 = .ok (.getfield 154, 3) := by decide +kernel
theorem dX10_renumber_31 : decode cX10_renumber 31 = .ok (.iload_n 1, 1) := by decide +kernel
theorem dX10_renumber_32 : decode cX10_renumber 32 = .ok (.if_icmp .ne 9, 3) := by decide +kernel
theorem dX10_renumber_35 : decode cX10_renumber 35 = .ok (.aload 4, 2) := by decide +kernel
theorem dX10_renumber_37 : decode cX10_renumber 37 = .ok (.iload_n 2, 1) := by decide +kernel
theorem dX10_renumber_38 : decode cX10_renumber 38 = .ok (.putfield 154, 3) := by decide +kernel
theorem dX10_renumber_41 : decode cX10_renumber 41 = .ok (.iinc 3 1, 3) := by decide +kernel
theorem dX10_renumber_44 : decode cX10_renumber 44 = .ok (.goto (-42), 3) := by decide +kernel
theorem dX10_renumber_47 : decode cX10_renumber 47 = .ok (.return_, 1) := by decide +kernel
set_option maxRecDepth 20000 in
theorem ggX10_lowestOther_Jx4a65c_size_8abf5 : GoodIn wsX10_lowestOther wsJx4a65c_size_8abf5 := goodIn_r _ [9, 10, 46, 47, 48] (by decide +kernel) (by decide +kernel)
set_option maxRecDepth 20000 in
theorem gX10_lowestOther_Jx4a65c_size_8abf5 : GoodIn wsX10_lowestOther (wsV RX10 81 RJx4a65c yJx4a65c_size_8abf5 wsJx4a65c_size_8abf5) := goodIn_app (goodIn_of _ (by decide +kernel)) ggX10_lowestOther_Jx4a65c_size_8abf5
set_option maxRecDepth 20000 in
theorem ggX10_lowestOther_Jx4a65c_get_915e3 : GoodIn wsX10_lowestOther wsJx4a65c_get_915e3 := goodIn_r _ [14, 10, 15, 16, 17, 18, 19, 20, 21, 22, 23, 24, 25, 8, 26, 27, 46, 47, 48] (by decide +kernel) (by decide +kernel)
set_option maxRecDepth 20000 in
theorem gX10_lowestOther_Jx4a65c_get_915e3 : GoodIn wsX10_lowestOther (wsV RX10 188 RJx4a65c yJx4a65c_get_915e3 wsJx4a65c_get_915e3) := goodIn_app (goodIn_of _ (by decide +kernel)) ggX10_lowestOther_Jx4a65c_get_915e3
theorem dX10_lowestOther_0 : decode cX10_lowestOther 0 = .ok (.iconst 0, 1) := by decide +kernel
theorem dX10_lowestOther_1 : decode cX10_lowestOther 1 = .ok (.istore_n 2, 1) := by decide +kernel
theorem dX10_lowestOther_2 : decode cX10_lowestOther 2 = .ok (.iload_n 2, 1) := by decide +kernel
theorem dX10_lowestOther_3 : decode cX10_lowestOther 3 = .ok (.aload_n 0, 1) := by decide +kernel
theorem dX10_lowestOther_4 : decode cX10_lowestOther 4 = .ok (.getfield 19, 3) := by decide +kernel
theorem dX10_lowestOther_7 : decode cX10_lowestOther 7 = .ok (.invokevirtual 81, 3) := by decide +kernel
theorem dX10_lowestOther_10 : decode cX10_lowestOther 10 = .ok (.if_icmp .ge 40, 3) := by decide +kernel
theorem dX10_lowestOther_13 : decode cX10_lowestOther 13 = .ok (.iload_n 2, 1) := by decide +kernel
theorem dX10_lowestOther_14 : decode cX10_lowestOther 14 = .ok (.aload_n 1, 1) := by decide +kernel
theorem dX10_lowestOther_15 : decode cX10_lowestOther 15 = .ok (.getfield 180, 3) := by decide +kernel
theorem dX10_lowestOther_18 : decode cX10_lowestOther 18 = .ok (.if_icmp .eq 26, 3) := by decide +kernel
theorem dX10_lowestOther_21 : decode cX10_lowestOther 21 = .ok (.aload_n 0, 1) := by decide +kernel
theorem dX10_lowestOther_22 : decode cX10_lowestOther 22 = .ok (.getfield 19, 3) := by decide +kernel
theorem dX10_lowestOther_25 : decode cX10_lowestOther 25 = .ok (.iload_n 2, 1) := by decide +kernel
theorem dX10_lowestOther_26 : decode cX10_lowestOther 26 = .ok (.invokevirtual 188, 3) := by decide +kernel
theorem dX10_lowestOther_29 : decode cX10_lowestOther 29 = .ok (.checkcast 89, 3) := by decide +kernel
theorem dX10_lowestOther_32 : decode cX10_lowestOther 32 = .ok (.getfield 154, 3) := by decide +kernel
theorem dX10_lowestOther_35 : decode cX10_lowestOther 35 = .ok (.aload_n 1, 1) := by decide +kernel
theorem dX10_lowestOther_36 : decode cX10_lowestOther 36 = .ok (.getfield 154, 3) := by decide +kernel
theorem dX10_lowestOther_39 : decode cX10_lowestOther 39 = .ok (.if_icmp .ne 5, 3) := by decide +kernel
theorem dX10_lowestOther_42 : decode cX10_lowestOther 42 = .ok (.iload_n 2, 1) := by decide +kernel
theorem dX10_lowestOther_43 : decode cX10_lowestOther 43 = .ok (.ireturn, 1) := by decide +kernel
theorem dX10_lowestOther_44 : decode cX10_lowestOther 44 = .ok (.iinc 2 1, 3) := by decide +kernel
theorem dX10_lowestOther_47 : decode cX10_lowestOther 47 = .ok (.goto (-45), 3) := by decide +kernel
theorem dX10_lowestOther_50 : decode cX10_lowestOther 50 = .ok (.iconst (-1), 1) := by decide +kernel
theorem dX10_lowestOther_51 : decode cX10_lowestOther 51 = .ok (.ireturn, 1) := by decide +kernel
set_option maxRecDepth 20000 in
theorem ggX10_claimOf_Jx4a65c_size_8abf5 : GoodIn wsX10_claimOf wsJx4a65c_size_8abf5 := goodIn_r _ [9, 10, 46, 47, 48] (by decide +kernel) (by decide +kernel)
set_option maxRecDepth 20000 in
theorem gX10_claimOf_Jx4a65c_size_8abf5 : GoodIn wsX10_claimOf (wsV RX10 81 RJx4a65c yJx4a65c_size_8abf5 wsJx4a65c_size_8abf5) := goodIn_app (goodIn_of _ (by decide +kernel)) ggX10_claimOf_Jx4a65c_size_8abf5
set_option maxRecDepth 20000 in
theorem ggX10_claimOf_Jx4a65c_get_915e3 : GoodIn wsX10_claimOf wsJx4a65c_get_915e3 := goodIn_r _ [14, 10, 15, 16, 17, 18, 19, 20, 21, 22, 23, 24, 25, 8, 26, 27, 46, 47, 48] (by decide +kernel) (by decide +kernel)
set_option maxRecDepth 20000 in
theorem gX10_claimOf_Jx4a65c_get_915e3 : GoodIn wsX10_claimOf (wsV RX10 188 RJx4a65c yJx4a65c_get_915e3 wsJx4a65c_get_915e3) := goodIn_app (goodIn_of _ (by decide +kernel)) ggX10_claimOf_Jx4a65c_get_915e3
theorem dX10_claimOf_0 : decode cX10_claimOf 0 = .ok (.iconst 0, 1) := by decide +kernel
theorem dX10_claimOf_1 : decode cX10_claimOf 1 = .ok (.istore_n 2, 1) := by decide +kernel
theorem dX10_claimOf_2 : decode cX10_claimOf 2 = .ok (.iload_n 2, 1) := by decide +kernel
theorem dX10_claimOf_3 : decode cX10_claimOf 3 = .ok (.aload_n 0, 1) := by decide +kernel
theorem dX10_claimOf_4 : decode cX10_claimOf 4 = .ok (.getfield 19, 3) := by decide +kernel
theorem dX10_claimOf_7 : decode cX10_claimOf 7 = .ok (.invokevirtual 81, 3) := by decide +kernel
theorem dX10_claimOf_10 : decode cX10_claimOf 10 = .ok (.if_icmp .ge 41, 3) := by decide +kernel
theorem dX10_claimOf_13 : decode cX10_claimOf 13 = .ok (.aload_n 0, 1) := by decide +kernel
theorem dX10_claimOf_14 : decode cX10_claimOf 14 = .ok (.getfield 19, 3) := by decide +kernel
theorem dX10_claimOf_17 : decode cX10_claimOf 17 = .ok (.iload_n 2, 1) := by decide +kernel
theorem dX10_claimOf_18 : decode cX10_claimOf 18 = .ok (.invokevirtual 188, 3) := by decide +kernel
theorem dX10_claimOf_21 : decode cX10_claimOf 21 = .ok (.checkcast 89, 3) := by decide +kernel
theorem dX10_claimOf_24 : decode cX10_claimOf 24 = .ok (.astore_n 3, 1) := by decide +kernel
theorem dX10_claimOf_25 : decode cX10_claimOf 25 = .ok (.aload_n 3, 1) := by decide +kernel
theorem dX10_claimOf_26 : decode cX10_claimOf 26 = .ok (.getfield 154, 3) := by decide +kernel
theorem dX10_claimOf_29 : decode cX10_claimOf 29 = .ok (.iload_n 1, 1) := by decide +kernel
theorem dX10_claimOf_30 : decode cX10_claimOf 30 = .ok (.if_icmp .ne 15, 3) := by decide +kernel
theorem dX10_claimOf_33 : decode cX10_claimOf 33 = .ok (.aload_n 3, 1) := by decide +kernel
theorem dX10_claimOf_34 : decode cX10_claimOf 34 = .ok (.getfield 237, 3) := by decide +kernel
theorem dX10_claimOf_37 : decode cX10_claimOf 37 = .ok (.ifCond .eq 8, 3) := by decide +kernel
theorem dX10_claimOf_40 : decode cX10_claimOf 40 = .ok (.aload_n 3, 1) := by decide +kernel
theorem dX10_claimOf_41 : decode cX10_claimOf 41 = .ok (.getfield 237, 3) := by decide +kernel
theorem dX10_claimOf_44 : decode cX10_claimOf 44 = .ok (.ireturn, 1) := by decide +kernel
theorem dX10_claimOf_45 : decode cX10_claimOf 45 = .ok (.iinc 2 1, 3) := by decide +kernel
theorem dX10_claimOf_48 : decode cX10_claimOf 48 = .ok (.goto (-46), 3) := by decide +kernel
theorem dX10_claimOf_51 : decode cX10_claimOf 51 = .ok (.iconst 0, 1) := by decide +kernel
theorem dX10_claimOf_52 : decode cX10_claimOf 52 = .ok (.ireturn, 1) := by decide +kernel
set_option maxRecDepth 20000 in
theorem ggX10_gatherCurve_X5_clear : GoodIn wsX10_gatherCurve wsX5_clear := goodIn_r _ [11, 12, 147, 148, 149] (by decide +kernel) (by decide +kernel)
set_option maxRecDepth 20000 in
theorem gX10_gatherCurve_X5_clear : GoodIn wsX10_gatherCurve (wsV RX10 292 RX5 yX5_clear wsX5_clear) := goodIn_app (goodIn_of _ (by decide +kernel)) ggX10_gatherCurve_X5_clear
set_option maxRecDepth 20000 in
theorem ggX10_gatherCurve_Jx4a65c_size_8abf5 : GoodIn wsX10_gatherCurve wsJx4a65c_size_8abf5 := goodIn_r _ [17, 18, 150, 151, 152] (by decide +kernel) (by decide +kernel)
set_option maxRecDepth 20000 in
theorem gX10_gatherCurve_Jx4a65c_size_8abf5 : GoodIn wsX10_gatherCurve (wsV RX10 81 RJx4a65c yJx4a65c_size_8abf5 wsJx4a65c_size_8abf5) := goodIn_app (goodIn_of _ (by decide +kernel)) ggX10_gatherCurve_Jx4a65c_size_8abf5
set_option maxRecDepth 20000 in
theorem ggX10_gatherCurve_Jx4a65c_get_915e3 : GoodIn wsX10_gatherCurve wsJx4a65c_get_915e3 := goodIn_r _ [22, 18, 23, 24, 25, 26, 27, 28, 29, 30, 31, 32, 33, 16, 34, 35, 150, 151, 152] (by decide +kernel) (by decide +kernel)
set_option maxRecDepth 20000 in
theorem gX10_gatherCurve_Jx4a65c_get_915e3 : GoodIn wsX10_gatherCurve (wsV RX10 188 RJx4a65c yJx4a65c_get_915e3 wsJx4a65c_get_915e3) := goodIn_app (goodIn_of _ (by decide +kernel)) ggX10_gatherCurve_Jx4a65c_get_915e3
set_option maxRecDepth 20000 in
theorem ggX10_gatherCurve_X1_trueTime : GoodIn wsX10_gatherCurve wsX1_trueTime := goodIn_r _ [41, 42, 43, 44, 45, 46, 47, 48, 49, 50, 51, 52, 53, 54, 55, 56, 57, 58, 59, 60, 61, 62, 63, 64, 65, 66, 67, 130, 131, 132, 133, 134, 135, 136, 137, 138, 139, 140, 141, 153, 154, 155, 142, 143, 144, 145, 146] (by decide +kernel) (by decide +kernel)
set_option maxRecDepth 20000 in
theorem gX10_gatherCurve_X1_trueTime_u202X1 : GoodIn wsX10_gatherCurve (va_wsU RX10 202 RX1 "LightcurveHouse$Look" ⟨"LightcurveHouse$Look", "trueTime", "()I"⟩ yX1_trueTime wsX1_trueTime) := goodIn_app (goodIn_of _ (by decide +kernel)) ggX10_gatherCurve_X1_trueTime
set_option maxRecDepth 20000 in
theorem ggX10_gatherCurve_X8_trueTime : GoodIn wsX10_gatherCurve wsX8_trueTime := goodIn_r _ [71, 72, 73, 74, 75, 76, 77, 47, 48, 49, 50, 51, 52, 53, 54, 55, 56, 57, 58, 59, 60, 61, 62, 63, 64, 65, 66, 67, 130, 131, 132, 133, 134, 135, 136, 137, 138, 139, 140, 141, 156, 157, 142, 143, 144, 145, 146] (by decide +kernel) (by decide +kernel)
set_option maxRecDepth 20000 in
theorem gX10_gatherCurve_X8_trueTime_u202X8 : GoodIn wsX10_gatherCurve (va_wsU RX10 202 RX8 "LightcurveHouse$Look" ⟨"LightcurveHouse$Look", "trueTime", "()I"⟩ yX8_trueTime wsX8_trueTime) := goodIn_app (goodIn_of _ (by decide +kernel)) ggX10_gatherCurve_X8_trueTime
set_option maxRecDepth 20000 in
theorem ggX10_gatherCurve_X1_trueLight : GoodIn wsX10_gatherCurve wsX1_trueLight := goodIn_r _ [82, 83, 84, 85, 40, 86, 44, 87, 88, 89, 56, 57, 58, 59, 60, 61, 62, 130, 131, 132, 133, 153, 154, 155] (by decide +kernel) (by decide +kernel)
set_option maxRecDepth 20000 in
theorem gX10_gatherCurve_X1_trueLight_u199X1 : GoodIn wsX10_gatherCurve (va_wsU RX10 199 RX1 "LightcurveHouse$Look" ⟨"LightcurveHouse$Look", "trueLight", "()I"⟩ yX1_trueLight wsX1_trueLight) := goodIn_app (goodIn_of _ (by decide +kernel)) ggX10_gatherCurve_X1_trueLight
set_option maxRecDepth 20000 in
theorem ggX10_gatherCurve_X8_trueLight : GoodIn wsX10_gatherCurve wsX8_trueLight := goodIn_r _ [92, 75, 93, 94, 95, 96, 70, 97, 98, 99, 100, 101, 102, 56, 57, 58, 59, 60, 61, 62, 134, 135, 136, 137, 138, 139, 140, 141, 156, 157, 158] (by decide +kernel) (by decide +kernel)
set_option maxRecDepth 20000 in
theorem gX10_gatherCurve_X8_trueLight_u199X8 : GoodIn wsX10_gatherCurve (va_wsU RX10 199 RX8 "LightcurveHouse$Look" ⟨"LightcurveHouse$Look", "trueLight", "()I"⟩ yX8_trueLight wsX8_trueLight) := goodIn_app (goodIn_of _ (by decide +kernel)) ggX10_gatherCurve_X8_trueLight
set_option maxRecDepth 20000 in
theorem ggX10_gatherCurve_X5_add : GoodIn wsX10_gatherCurve wsX5_add := goodIn_r _ [106, 12, 107, 108, 109, 110, 111, 112, 113, 114, 115, 10, 116, 147, 148, 149] (by decide +kernel) (by decide +kernel)
set_option maxRecDepth 20000 in
theorem gX10_gatherCurve_X5_add : GoodIn wsX10_gatherCurve (wsV RX10 302 RX5 yX5_add wsX5_add) := goodIn_app (goodIn_of _ (by decide +kernel)) ggX10_gatherCurve_X5_add
theorem dX10_gatherCurve_0 : decode cX10_gatherCurve 0 = .ok (.aload_n 0, 1) := by decide +kernel
theorem dX10_gatherCurve_1 : decode cX10_gatherCurve 1 = .ok (.getfield 43, 3) := by decide +kernel
theorem dX10_gatherCurve_4 : decode cX10_gatherCurve 4 = .ok (.invokevirtual 292, 3) := by decide +kernel
theorem dX10_gatherCurve_7 : decode cX10_gatherCurve 7 = .ok (.iconst 0, 1) := by decide +kernel
theorem dX10_gatherCurve_8 : decode cX10_gatherCurve 8 = .ok (.istore_n 3, 1) := by decide +kernel
theorem dX10_gatherCurve_9 : decode cX10_gatherCurve 9 = .ok (.iload_n 3, 1) := by decide +kernel
theorem dX10_gatherCurve_10 : decode cX10_gatherCurve 10 = .ok (.aload_n 0, 1) := by decide +kernel
theorem dX10_gatherCurve_11 : decode cX10_gatherCurve 11 = .ok (.getfield 25, 3) := by decide +kernel
theorem dX10_gatherCurve_14 : decode cX10_gatherCurve 14 = .ok (.invokevirtual 81, 3) := by decide +kernel
theorem dX10_gatherCurve_17 : decode cX10_gatherCurve 17 = .ok (.if_icmp .ge 69, 3) := by decide +kernel
theorem dX10_gatherCurve_20 : decode cX10_gatherCurve 20 = .ok (.aload_n 0, 1) := by decide +kernel
theorem dX10_gatherCurve_21 : decode cX10_gatherCurve 21 = .ok (.getfield 25, 3) := by decide +kernel
theorem dX10_gatherCurve_24 : decode cX10_gatherCurve 24 = .ok (.iload_n 3, 1) := by decide +kernel
theorem dX10_gatherCurve_25 : decode cX10_gatherCurve 25 = .ok (.invokevirtual 188, 3) := by decide +kernel
theorem dX10_gatherCurve_28 : decode cX10_gatherCurve 28 = .ok (.checkcast 144, 3) := by decide +kernel
theorem dX10_gatherCurve_31 : decode cX10_gatherCurve 31 = .ok (.astore 4, 2) := by decide +kernel
theorem dX10_gatherCurve_33 : decode cX10_gatherCurve 33 = .ok (.aload 4, 2) := by decide +kernel
theorem dX10_gatherCurve_35 : decode cX10_gatherCurve 35 = .ok (.getfield 205, 3) := by decide +kernel
theorem dX10_gatherCurve_38 : decode cX10_gatherCurve 38 = .ok (.getfield 154, 3) := by decide +kernel
theorem dX10_gatherCurve_41 : decode cX10_gatherCurve 41 = .ok (.istore 5, 2) := by decide +kernel
theorem dX10_gatherCurve_43 : decode cX10_gatherCurve 43 = .ok (.aload 4, 2) := by decide +kernel
theorem dX10_gatherCurve_45 : decode cX10_gatherCurve 45 = .ok (.getfield 143, 3) := by decide +kernel
theorem dX10_gatherCurve_48 : decode cX10_gatherCurve 48 = .ok (.ifCond .ne 32, 3) := by decide +kernel
theorem dX10_gatherCurve_51 : decode cX10_gatherCurve 51 = .ok (.iload 5, 2) := by decide +kernel
theorem dX10_gatherCurve_53 : decode cX10_gatherCurve 53 = .ok (.iload_n 1, 1) := by decide +kernel
theorem dX10_gatherCurve_54 : decode cX10_gatherCurve 54 = .ok (.if_icmp .eq 9, 3) := by decide +kernel
theorem dX10_gatherCurve_57 : decode cX10_gatherCurve 57 = .ok (.iload 5, 2) := by decide +kernel
theorem dX10_gatherCurve_59 : decode cX10_gatherCurve 59 = .ok (.iload_n 2, 1) := by decide +kernel
theorem dX10_gatherCurve_60 : decode cX10_gatherCurve 60 = .ok (.if_icmp .ne 20, 3) := by decide +kernel
theorem dX10_gatherCurve_63 : decode cX10_gatherCurve 63 = .ok (.aload_n 0, 1) := by decide +kernel
theorem dX10_gatherCurve_64 : decode cX10_gatherCurve 64 = .ok (.getfield 43, 3) := by decide +kernel
theorem dX10_gatherCurve_67 : decode cX10_gatherCurve 67 = .ok (.aload 4, 2) := by decide +kernel
theorem dX10_gatherCurve_69 : decode cX10_gatherCurve 69 = .ok (.invokevirtual 202, 3) := by decide +kernel
theorem dX10_gatherCurve_72 : decode cX10_gatherCurve 72 = .ok (.aload 4, 2) := by decide +kernel
theorem dX10_gatherCurve_74 : decode cX10_gatherCurve 74 = .ok (.invokevirtual 199, 3) := by decide +kernel
theorem dX10_gatherCurve_77 : decode cX10_gatherCurve 77 = .ok (.invokevirtual 302, 3) := by decide +kernel
theorem dX10_gatherCurve_80 : decode cX10_gatherCurve 80 = .ok (.iinc 3 1, 3) := by decide +kernel
theorem dX10_gatherCurve_83 : decode cX10_gatherCurve 83 = .ok (.goto (-74), 3) := by decide +kernel
theorem dX10_gatherCurve_86 : decode cX10_gatherCurve 86 = .ok (.return_, 1) := by decide +kernel
set_option maxRecDepth 20000 in
theorem ggX10_gatherCurveForTrials_X10_gatherCurve : GoodIn wsX10_gatherCurveForTrials wsX10_gatherCurve := goodIn_r _ [8, 3, 9, 10, 11, 12, 13, 14, 15, 16, 17, 18, 19, 20, 21, 22, 23, 24, 25, 26, 27, 28, 29, 30, 31, 32, 33, 34, 35, 36, 37, 38, 39, 40, 41, 42, 43, 44, 45, 46, 47, 48, 49, 50, 51, 52, 53, 54, 55, 56, 57, 58, 59, 60, 61, 62, 63, 7, 64, 65, 66, 67, 68, 69, 70, 71, 72, 73, 74, 75, 76, 77, 78, 79, 80, 81, 82, 83, 84, 85, 86, 87, 88, 89, 90, 91, 92, 93, 94, 95, 96, 97, 98, 99, 100, 101, 102, 103, 104, 105, 106, 107, 108, 109, 110, 111, 112, 113, 114, 115, 116, 117, 118, 119, 120, 121, 122, 127, 128, 129, 130, 131, 132, 133, 134, 135, 136, 137, 138, 139, 140, 141, 142, 143, 144, 145, 146, 147, 148, 149, 150, 151, 152, 153, 154, 155, 156, 157, 158, 159, 160, 161, 162, 163, 164, 165, 166, 167, 168] (by decide +kernel) (by decide +kernel)
set_option maxRecDepth 20000 in
theorem gX10_gatherCurveForTrials_X10_gatherCurve : GoodIn wsX10_gatherCurveForTrials (wsV RX10 217 RX10 yX10_gatherCurve wsX10_gatherCurve) := goodIn_app (goodIn_of _ (by decide +kernel)) ggX10_gatherCurveForTrials_X10_gatherCurve
set_option maxRecDepth 20000 in
theorem ggX10_gatherCurveForTrials_X5_size : GoodIn wsX10_gatherCurveForTrials wsX5_size := goodIn_r _ [126, 19, 157, 158, 159] (by decide +kernel) (by decide +kernel)
set_option maxRecDepth 20000 in
theorem gX10_gatherCurveForTrials_X5_size : GoodIn wsX10_gatherCurveForTrials (wsV RX10 267 RX5 yX5_size wsX5_size) := goodIn_app (goodIn_of _ (by decide +kernel)) ggX10_gatherCurveForTrials_X5_size
theorem dX10_gatherCurveForTrials_0 : decode cX10_gatherCurveForTrials 0 = .ok (.aload_n 0, 1) := by decide +kernel
theorem dX10_gatherCurveForTrials_1 : decode cX10_gatherCurveForTrials 1 = .ok (.iload_n 1, 1) := by decide +kernel
theorem dX10_gatherCurveForTrials_2 : decode cX10_gatherCurveForTrials 2 = .ok (.iload_n 1, 1) := by decide +kernel
theorem dX10_gatherCurveForTrials_3 : decode cX10_gatherCurveForTrials 3 = .ok (.invokevirtual 217, 3) := by decide +kernel
theorem dX10_gatherCurveForTrials_6 : decode cX10_gatherCurveForTrials 6 = .ok (.aload_n 0, 1) := by decide +kernel
theorem dX10_gatherCurveForTrials_7 : decode cX10_gatherCurveForTrials 7 = .ok (.getfield 43, 3) := by decide +kernel
theorem dX10_gatherCurveForTrials_10 : decode cX10_gatherCurveForTrials 10 = .ok (.invokevirtual 267, 3) := by decide +kernel
theorem dX10_gatherCurveForTrials_13 : decode cX10_gatherCurveForTrials 13 = .ok (.iconst 3, 1) := by decide +kernel
theorem dX10_gatherCurveForTrials_14 : decode cX10_gatherCurveForTrials 14 = .ok (.if_icmp .ge 14, 3) := by decide +kernel
theorem dX10_gatherCurveForTrials_17 : decode cX10_gatherCurveForTrials 17 = .ok (.new 157, 3) := by decide +kernel
theorem dX10_gatherCurveForTrials_20 : decode cX10_gatherCurveForTrials 20 = .ok (.dup, 1) := by decide +kernel
theorem dX10_gatherCurveForTrials_21 : decode cX10_gatherCurveForTrials 21 = .ok (.ldc_w 326, 3) := by decide +kernel
theorem dX10_gatherCurveForTrials_24 : decode cX10_gatherCurveForTrials 24 = .ok (.invokespecial 161, 3) := by decide +kernel
theorem dX10_gatherCurveForTrials_27 : decode cX10_gatherCurveForTrials 27 = .ok (.athrow, 1) := by decide +kernel
theorem dX10_gatherCurveForTrials_28 : decode cX10_gatherCurveForTrials 28 = .ok (.return_, 1) := by decide +kernel
set_option maxRecDepth 20000 in
theorem ggX10_gatherClaimedCurve_X10_gatherCurve : GoodIn wsX10_gatherClaimedCurve wsX10_gatherCurve := goodIn_r _ [7, 8, 9, 10, 11, 12, 13, 14, 15, 16, 17, 18, 19, 20, 21, 22, 23, 24, 25, 26, 27, 28, 29, 30, 31, 32, 33, 34, 35, 36, 37, 38, 39, 40, 41, 42, 43, 44, 45, 46, 47, 48, 49, 50, 51, 52, 53, 54, 55, 56, 57, 58, 59, 60, 61, 62, 63, 6, 64, 65, 66, 67, 68, 69, 70, 71, 72, 73, 74, 75, 76, 77, 78, 79, 80, 81, 82, 83, 84, 85, 86, 87, 88, 89, 90, 91, 92, 93, 94, 95, 96, 97, 98, 99, 100, 101, 102, 103, 104, 105, 106, 107, 108, 109, 110, 111, 112, 113, 114, 115, 116, 117, 118, 119, 120, 121, 122, 138, 139, 140, 141, 142, 143, 144, 145, 146, 147, 148, 149, 150, 151, 152, 153, 154, 155, 156, 157, 158, 159, 160, 161, 162, 163, 164, 165, 166, 167, 168, 169, 170, 171, 172, 173, 174, 175, 176, 177, 178, 179] (by decide +kernel) (by decide +kernel)
set_option maxRecDepth 20000 in
theorem gX10_gatherClaimedCurve_X10_gatherCurve : GoodIn wsX10_gatherClaimedCurve (wsV RX10 217 RX10 yX10_gatherCurve wsX10_gatherCurve) := goodIn_app (goodIn_of _ (by decide +kernel)) ggX10_gatherClaimedCurve_X10_gatherCurve
set_option maxRecDepth 20000 in
theorem ggX10_gatherClaimedCurve_X10_claimOf : GoodIn wsX10_gatherClaimedCurve wsX10_claimOf := goodIn_r _ [126, 127, 128, 12, 129, 20, 21, 22, 23, 24, 25, 26, 27, 28, 29, 30, 31, 32, 33, 34, 35, 36, 37, 38, 39, 40, 41, 42, 138, 139, 140, 141, 142, 143, 144, 145, 146, 147, 148, 149, 150, 163, 164, 165, 166, 167, 171, 172, 173] (by decide +kernel) (by decide +kernel)
set_option maxRecDepth 20000 in
theorem gX10_gatherClaimedCurve_X10_claimOf : GoodIn wsX10_gatherClaimedCurve (wsV RX10 295 RX10 yX10_claimOf wsX10_claimOf) := goodIn_app (goodIn_of _ (by decide +kernel)) ggX10_gatherClaimedCurve_X10_claimOf
set_option maxRecDepth 20000 in
theorem ggX10_gatherClaimedCurve_X10_hasFeatures : GoodIn wsX10_gatherClaimedCurve wsX10_hasFeatures := goodIn_r _ [133, 8, 134, 135, 136, 17, 137, 19, 138, 139, 140, 141, 142, 143, 144, 145, 146, 147, 148, 149, 150, 168, 169, 170] (by decide +kernel) (by decide +kernel)
set_option maxRecDepth 20000 in
theorem gX10_gatherClaimedCurve_X10_hasFeatures : GoodIn wsX10_gatherClaimedCurve (wsV RX10 298 RX10 yX10_hasFeatures wsX10_hasFeatures) := goodIn_app (goodIn_of _ (by decide +kernel)) ggX10_gatherClaimedCurve_X10_hasFeatures
theorem dX10_gatherClaimedCurve_0 : decode cX10_gatherClaimedCurve 0 = .ok (.aload_n 0, 1) := by decide +kernel
theorem dX10_gatherClaimedCurve_1 : decode cX10_gatherClaimedCurve 1 = .ok (.iload_n 1, 1) := by decide +kernel
theorem dX10_gatherClaimedCurve_2 : decode cX10_gatherClaimedCurve 2 = .ok (.iload_n 1, 1) := by decide +kernel
theorem dX10_gatherClaimedCurve_3 : decode cX10_gatherClaimedCurve 3 = .ok (.invokevirtual 217, 3) := by decide +kernel
theorem dX10_gatherClaimedCurve_6 : decode cX10_gatherClaimedCurve 6 = .ok (.aload_n 0, 1) := by decide +kernel
theorem dX10_gatherClaimedCurve_7 : decode cX10_gatherClaimedCurve 7 = .ok (.iload_n 1, 1) := by decide +kernel
theorem dX10_gatherClaimedCurve_8 : decode cX10_gatherClaimedCurve 8 = .ok (.invokevirtual 295, 3) := by decide +kernel
theorem dX10_gatherClaimedCurve_11 : decode cX10_gatherClaimedCurve 11 = .ok (.istore_n 2, 1) := by decide +kernel
theorem dX10_gatherClaimedCurve_12 : decode cX10_gatherClaimedCurve 12 = .ok (.aload_n 0, 1) := by decide +kernel
theorem dX10_gatherClaimedCurve_13 : decode cX10_gatherClaimedCurve 13 = .ok (.iload_n 2, 1) := by decide +kernel
theorem dX10_gatherClaimedCurve_14 : decode cX10_gatherClaimedCurve 14 = .ok (.invokevirtual 298, 3) := by decide +kernel
theorem dX10_gatherClaimedCurve_17 : decode cX10_gatherClaimedCurve 17 = .ok (.ifCond .ne 14, 3) := by decide +kernel
theorem dX10_gatherClaimedCurve_20 : decode cX10_gatherClaimedCurve 20 = .ok (.new 157, 3) := by decide +kernel
theorem dX10_gatherClaimedCurve_23 : decode cX10_gatherClaimedCurve 23 = .ok (.dup, 1) := by decide +kernel
theorem dX10_gatherClaimedCurve_24 : decode cX10_gatherClaimedCurve 24 = .ok (.ldc_w 328, 3) := by decide +kernel
theorem dX10_gatherClaimedCurve_27 : decode cX10_gatherClaimedCurve 27 = .ok (.invokespecial 161, 3) := by decide +kernel
theorem dX10_gatherClaimedCurve_30 : decode cX10_gatherClaimedCurve 30 = .ok (.athrow, 1) := by decide +kernel
theorem dX10_gatherClaimedCurve_31 : decode cX10_gatherClaimedCurve 31 = .ok (.iload_n 2, 1) := by decide +kernel
theorem dX10_gatherClaimedCurve_32 : decode cX10_gatherClaimedCurve 32 = .ok (.ireturn, 1) := by decide +kernel
set_option maxRecDepth 20000 in
theorem ggX10_hasFeatures_X5_size : GoodIn wsX10_hasFeatures wsX5_size := goodIn_r _ [6, 7, 21, 22, 23] (by decide +kernel) (by decide +kernel)
set_option maxRecDepth 20000 in
theorem gX10_hasFeatures_X5_size : GoodIn wsX10_hasFeatures (wsV RX10 267 RX5 yX5_size wsX5_size) := goodIn_app (goodIn_of _ (by decide +kernel)) ggX10_hasFeatures_X5_size
theorem dX10_hasFeatures_0 : decode cX10_hasFeatures 0 = .ok (.iload_n 1, 1) := by decide +kernel
theorem dX10_hasFeatures_1 : decode cX10_hasFeatures 1 = .ok (.ifCond .eq 17, 3) := by decide +kernel
theorem dX10_hasFeatures_4 : decode cX10_hasFeatures 4 = .ok (.aload_n 0, 1) := by decide +kernel
theorem dX10_hasFeatures_5 : decode cX10_hasFeatures 5 = .ok (.getfield 43, 3) := by decide +kernel
theorem dX10_hasFeatures_8 : decode cX10_hasFeatures 8 = .ok (.invokevirtual 267, 3) := by decide +kernel
theorem dX10_hasFeatures_11 : decode cX10_hasFeatures 11 = .ok (.ifCond .le 7, 3) := by decide +kernel
theorem dX10_hasFeatures_14 : decode cX10_hasFeatures 14 = .ok (.iconst 1, 1) := by decide +kernel
theorem dX10_hasFeatures_15 : decode cX10_hasFeatures 15 = .ok (.goto 4, 3) := by decide +kernel
theorem dX10_hasFeatures_18 : decode cX10_hasFeatures 18 = .ok (.iconst 0, 1) := by decide +kernel
theorem dX10_hasFeatures_19 : decode cX10_hasFeatures 19 = .ok (.ireturn, 1) := by decide +kernel
set_option maxRecDepth 20000 in
theorem ggX10_stringLength_X5_clear : GoodIn wsX10_stringLength wsX5_clear := goodIn_r _ [11, 12, 60, 61, 62] (by decide +kernel) (by decide +kernel)
set_option maxRecDepth 20000 in
theorem gX10_stringLength_X5_clear : GoodIn wsX10_stringLength (wsV RX10 292 RX5 yX5_clear wsX5_clear) := goodIn_app (goodIn_of _ (by decide +kernel)) ggX10_stringLength_X5_clear
set_option maxRecDepth 20000 in
theorem ggX10_stringLength_X5_size : GoodIn wsX10_stringLength wsX5_size := goodIn_r _ [16, 12, 60, 61, 62] (by decide +kernel) (by decide +kernel)
set_option maxRecDepth 20000 in
theorem gX10_stringLength_X5_size : GoodIn wsX10_stringLength (wsV RX10 267 RX5 yX5_size wsX5_size) := goodIn_app (goodIn_of _ (by decide +kernel)) ggX10_stringLength_X5_size
set_option maxRecDepth 20000 in
theorem ggX10_stringLength_X5_key : GoodIn wsX10_stringLength wsX5_key := goodIn_r _ [20, 12, 21, 60, 61, 62] (by decide +kernel) (by decide +kernel)
set_option maxRecDepth 20000 in
theorem gX10_stringLength_X5_key : GoodIn wsX10_stringLength (wsV RX10 330 RX5 yX5_key wsX5_key) := goodIn_app (goodIn_of _ (by decide +kernel)) ggX10_stringLength_X5_key
set_option maxRecDepth 20000 in
theorem ggX10_stringLength_X10_remainder : GoodIn wsX10_stringLength wsX10_remainder := goodIn_r _ [25, 26, 27, 28, 29] (by decide +kernel) (by decide +kernel)
set_option maxRecDepth 20000 in
theorem gX10_stringLength_X10_remainder : GoodIn wsX10_stringLength (va_wsS RX10 333 yX10_remainder wsX10_remainder) := goodIn_app (goodIn_of _ (by decide +kernel)) ggX10_stringLength_X10_remainder
set_option maxRecDepth 20000 in
theorem ggX10_stringLength_X5_value : GoodIn wsX10_stringLength wsX5_value := goodIn_r _ [33, 12, 34, 60, 61, 62] (by decide +kernel) (by decide +kernel)
set_option maxRecDepth 20000 in
theorem gX10_stringLength_X5_value : GoodIn wsX10_stringLength (wsV RX10 304 RX5 yX5_value wsX5_value) := goodIn_app (goodIn_of _ (by decide +kernel)) ggX10_stringLength_X5_value
set_option maxRecDepth 20000 in
theorem ggX10_stringLength_X5_add : GoodIn wsX10_stringLength wsX5_add := goodIn_r _ [38, 12, 21, 39, 40, 41, 42, 34, 43, 44, 45, 10, 46, 60, 61, 62] (by decide +kernel) (by decide +kernel)
set_option maxRecDepth 20000 in
theorem gX10_stringLength_X5_add : GoodIn wsX10_stringLength (wsV RX10 302 RX5 yX5_add wsX5_add) := goodIn_app (goodIn_of _ (by decide +kernel)) ggX10_stringLength_X5_add
theorem dX10_stringLength_0 : decode cX10_stringLength 0 = .ok (.aload_n 0, 1) := by decide +kernel
theorem dX10_stringLength_1 : decode cX10_stringLength 1 = .ok (.getfield 47, 3) := by decide +kernel
theorem dX10_stringLength_4 : decode cX10_stringLength 4 = .ok (.invokevirtual 292, 3) := by decide +kernel
theorem dX10_stringLength_7 : decode cX10_stringLength 7 = .ok (.iconst 0, 1) := by decide +kernel
theorem dX10_stringLength_8 : decode cX10_stringLength 8 = .ok (.istore_n 2, 1) := by decide +kernel
theorem dX10_stringLength_9 : decode cX10_stringLength 9 = .ok (.iload_n 2, 1) := by decide +kernel
theorem dX10_stringLength_10 : decode cX10_stringLength 10 = .ok (.aload_n 0, 1) := by decide +kernel
theorem dX10_stringLength_11 : decode cX10_stringLength 11 = .ok (.getfield 43, 3) := by decide +kernel
theorem dX10_stringLength_14 : decode cX10_stringLength 14 = .ok (.invokevirtual 267, 3) := by decide +kernel
theorem dX10_stringLength_17 : decode cX10_stringLength 17 = .ok (.if_icmp .ge 36, 3) := by decide +kernel
theorem dX10_stringLength_20 : decode cX10_stringLength 20 = .ok (.aload_n 0, 1) := by decide +kernel
theorem dX10_stringLength_21 : decode cX10_stringLength 21 = .ok (.getfield 47, 3) := by decide +kernel
theorem dX10_stringLength_24 : decode cX10_stringLength 24 = .ok (.aload_n 0, 1) := by decide +kernel
theorem dX10_stringLength_25 : decode cX10_stringLength 25 = .ok (.getfield 43, 3) := by decide +kernel
theorem dX10_stringLength_28 : decode cX10_stringLength 28 = .ok (.iload_n 2, 1) := by decide +kernel
theorem dX10_stringLength_29 : decode cX10_stringLength 29 = .ok (.invokevirtual 330, 3) := by decide +kernel
theorem dX10_stringLength_32 : decode cX10_stringLength 32 = .ok (.iload_n 1, 1) := by decide +kernel
theorem dX10_stringLength_33 : decode cX10_stringLength 33 = .ok (.invokestatic 333, 3) := by decide +kernel
theorem dX10_stringLength_36 : decode cX10_stringLength 36 = .ok (.aload_n 0, 1) := by decide +kernel
theorem dX10_stringLength_37 : decode cX10_stringLength 37 = .ok (.getfield 43, 3) := by decide +kernel
theorem dX10_stringLength_40 : decode cX10_stringLength 40 = .ok (.iload_n 2, 1) := by decide +kernel
theorem dX10_stringLength_41 : decode cX10_stringLength 41 = .ok (.invokevirtual 304, 3) := by decide +kernel
theorem dX10_stringLength_44 : decode cX10_stringLength 44 = .ok (.invokevirtual 302, 3) := by decide +kernel
theorem dX10_stringLength_47 : decode cX10_stringLength 47 = .ok (.iinc 2 1, 3) := by decide +kernel
theorem dX10_stringLength_50 : decode cX10_stringLength 50 = .ok (.goto (-41), 3) := by decide +kernel
theorem dX10_stringLength_53 : decode cX10_stringLength 53 = .ok (.iconst 0, 1) := by decide +kernel
theorem dX10_stringLength_54 : decode cX10_stringLength 54 = .ok (.istore_n 2, 1) := by decide +kernel
theorem dX10_stringLength_55 : decode cX10_stringLength 55 = .ok (.aload_n 0, 1) := by decide +kernel
theorem dX10_stringLength_56 : decode cX10_stringLength 56 = .ok (.getfield 47, 3) := by decide +kernel
theorem dX10_stringLength_59 : decode cX10_stringLength 59 = .ok (.aload_n 0, 1) := by decide +kernel
theorem dX10_stringLength_60 : decode cX10_stringLength 60 = .ok (.getfield 47, 3) := by decide +kernel
theorem dX10_stringLength_63 : decode cX10_stringLength 63 = .ok (.invokevirtual 267, 3) := by decide +kernel
theorem dX10_stringLength_66 : decode cX10_stringLength 66 = .ok (.iconst 1, 1) := by decide +kernel
theorem dX10_stringLength_67 : decode cX10_stringLength 67 = .ok (.isub, 1) := by decide +kernel
theorem dX10_stringLength_68 : decode cX10_stringLength 68 = .ok (.invokevirtual 304, 3) := by decide +kernel
theorem dX10_stringLength_71 : decode cX10_stringLength 71 = .ok (.istore_n 3, 1) := by decide +kernel
theorem dX10_stringLength_72 : decode cX10_stringLength 72 = .ok (.iconst 0, 1) := by decide +kernel
theorem dX10_stringLength_73 : decode cX10_stringLength 73 = .ok (.istore 4, 2) := by decide +kernel
theorem dX10_stringLength_75 : decode cX10_stringLength 75 = .ok (.iload 4, 2) := by decide +kernel
theorem dX10_stringLength_77 : decode cX10_stringLength 77 = .ok (.aload_n 0, 1) := by decide +kernel
theorem dX10_stringLength_78 : decode cX10_stringLength 78 = .ok (.getfield 47, 3) := by decide +kernel
theorem dX10_stringLength_81 : decode cX10_stringLength 81 = .ok (.invokevirtual 267, 3) := by decide +kernel
theorem dX10_stringLength_84 : decode cX10_stringLength 84 = .ok (.if_icmp .ge 33, 3) := by decide +kernel
theorem dX10_stringLength_87 : decode cX10_stringLength 87 = .ok (.aload_n 0, 1) := by decide +kernel
theorem dX10_stringLength_88 : decode cX10_stringLength 88 = .ok (.getfield 47, 3) := by decide +kernel
theorem dX10_stringLength_91 : decode cX10_stringLength 91 = .ok (.iload 4, 2) := by decide +kernel
theorem dX10_stringLength_93 : decode cX10_stringLength 93 = .ok (.invokevirtual 304, 3) := by decide +kernel
theorem dX10_stringLength_96 : decode cX10_stringLength 96 = .ok (.istore 5, 2) := by decide +kernel
theorem dX10_stringLength_98 : decode cX10_stringLength 98 = .ok (.iload_n 2, 1) := by decide +kernel
theorem dX10_stringLength_99 : decode cX10_stringLength 99 = .ok (.iload 5, 2) := by decide +kernel
theorem dX10_stringLength_101 : decode cX10_stringLength 101 = .ok (.iload_n 3, 1) := by decide +kernel
theorem dX10_stringLength_102 : decode cX10_stringLength 102 = .ok (.isub, 1) := by decide +kernel
theorem dX10_stringLength_103 : decode cX10_stringLength 103 = .ok (.invokestatic 277, 3) := by decide +kernel
theorem dX10_stringLength_106 : decode cX10_stringLength 106 = .ok (.iadd, 1) := by decide +kernel
theorem dX10_stringLength_107 : decode cX10_stringLength 107 = .ok (.istore_n 2, 1) := by decide +kernel
theorem dX10_stringLength_108 : decode cX10_stringLength 108 = .ok (.iload 5, 2) := by decide +kernel
theorem dX10_stringLength_110 : decode cX10_stringLength 110 = .ok (.istore_n 3, 1) := by decide +kernel
theorem dX10_stringLength_111 : decode cX10_stringLength 111 = .ok (.iinc 4 1, 3) := by decide +kernel
theorem dX10_stringLength_114 : decode cX10_stringLength 114 = .ok (.goto (-39), 3) := by decide +kernel
theorem dX10_stringLength_117 : decode cX10_stringLength 117 = .ok (.iload_n 2, 1) := by decide +kernel
theorem dX10_stringLength_118 : decode cX10_stringLength 118 = .ok (.ireturn, 1) := by decide +kernel
set_option maxRecDepth 20000 in
theorem ggX10_bestTrial_X10_stringLength : GoodIn wsX10_bestTrial wsX10_stringLength := goodIn_r _ [6, 7, 8, 9, 10, 11, 12, 13, 14, 15, 16, 17, 18, 19, 20, 21, 22, 23, 24, 25, 26, 27, 28, 29, 5, 30, 31, 32, 33, 34, 35, 36, 37, 38, 39, 40, 41, 42, 43, 44, 45, 46, 47, 48, 49, 50, 51, 52, 53, 54, 55, 56, 57, 58, 59, 60, 61, 62, 63, 64, 65, 66, 67] (by decide +kernel) (by decide +kernel)
set_option maxRecDepth 20000 in
theorem gX10_bestTrial_X10_stringLength : GoodIn wsX10_bestTrial (wsV RX10 220 RX10 yX10_stringLength wsX10_stringLength) := goodIn_app (goodIn_of _ (by decide +kernel)) ggX10_bestTrial_X10_stringLength
theorem dX10_bestTrial_0 : decode cX10_bestTrial 0 = .ok (.iconst 0, 1) := by decide +kernel
theorem dX10_bestTrial_1 : decode cX10_bestTrial 1 = .ok (.istore 4, 2) := by decide +kernel
theorem dX10_bestTrial_3 : decode cX10_bestTrial 3 = .ok (.iconst 0, 1) := by decide +kernel
theorem dX10_bestTrial_4 : decode cX10_bestTrial 4 = .ok (.istore 5, 2) := by decide +kernel
theorem dX10_bestTrial_6 : decode cX10_bestTrial 6 = .ok (.iload 5, 2) := by decide +kernel
theorem dX10_bestTrial_8 : decode cX10_bestTrial 8 = .ok (.iload_n 3, 1) := by decide +kernel
theorem dX10_bestTrial_9 : decode cX10_bestTrial 9 = .ok (.if_icmp .ge 57, 3) := by decide +kernel
theorem dX10_bestTrial_12 : decode cX10_bestTrial 12 = .ok (.iload 5, 2) := by decide +kernel
theorem dX10_bestTrial_14 : decode cX10_bestTrial 14 = .ok (.aload_n 0, 1) := by decide +kernel
theorem dX10_bestTrial_15 : decode cX10_bestTrial 15 = .ok (.getfield 56, 3) := by decide +kernel
theorem dX10_bestTrial_18 : decode cX10_bestTrial 18 = .ok (.arraylength, 1) := by decide +kernel
theorem dX10_bestTrial_19 : decode cX10_bestTrial 19 = .ok (.if_icmp .ge 47, 3) := by decide +kernel
theorem dX10_bestTrial_22 : decode cX10_bestTrial 22 = .ok (.aload_n 0, 1) := by decide +kernel
theorem dX10_bestTrial_23 : decode cX10_bestTrial 23 = .ok (.getfield 56, 3) := by decide +kernel
theorem dX10_bestTrial_26 : decode cX10_bestTrial 26 = .ok (.iload 5, 2) := by decide +kernel
theorem dX10_bestTrial_28 : decode cX10_bestTrial 28 = .ok (.aload_n 0, 1) := by decide +kernel
theorem dX10_bestTrial_29 : decode cX10_bestTrial 29 = .ok (.iload_n 1, 1) := by decide +kernel
theorem dX10_bestTrial_30 : decode cX10_bestTrial 30 = .ok (.iload 5, 2) := by decide +kernel
theorem dX10_bestTrial_32 : decode cX10_bestTrial 32 = .ok (.iload_n 2, 1) := by decide +kernel
theorem dX10_bestTrial_33 : decode cX10_bestTrial 33 = .ok (.imul, 1) := by decide +kernel
theorem dX10_bestTrial_34 : decode cX10_bestTrial 34 = .ok (.iadd, 1) := by decide +kernel
theorem dX10_bestTrial_35 : decode cX10_bestTrial 35 = .ok (.invokevirtual 220, 3) := by decide +kernel
theorem dX10_bestTrial_38 : decode cX10_bestTrial 38 = .ok (.iastore, 1) := by decide +kernel
theorem dX10_bestTrial_39 : decode cX10_bestTrial 39 = .ok (.aload_n 0, 1) := by decide +kernel
theorem dX10_bestTrial_40 : decode cX10_bestTrial 40 = .ok (.getfield 56, 3) := by decide +kernel
theorem dX10_bestTrial_43 : decode cX10_bestTrial 43 = .ok (.iload 5, 2) := by decide +kernel
theorem dX10_bestTrial_45 : decode cX10_bestTrial 45 = .ok (.iaload, 1) := by decide +kernel
theorem dX10_bestTrial_46 : decode cX10_bestTrial 46 = .ok (.aload_n 0, 1) := by decide +kernel
theorem dX10_bestTrial_47 : decode cX10_bestTrial 47 = .ok (.getfield 56, 3) := by decide +kernel
theorem dX10_bestTrial_50 : decode cX10_bestTrial 50 = .ok (.iload 4, 2) := by decide +kernel
theorem dX10_bestTrial_52 : decode cX10_bestTrial 52 = .ok (.iaload, 1) := by decide +kernel
theorem dX10_bestTrial_53 : decode cX10_bestTrial 53 = .ok (.if_icmp .ge 7, 3) := by decide +kernel
theorem dX10_bestTrial_56 : decode cX10_bestTrial 56 = .ok (.iload 5, 2) := by decide +kernel
theorem dX10_bestTrial_58 : decode cX10_bestTrial 58 = .ok (.istore 4, 2) := by decide +kernel
theorem dX10_bestTrial_60 : decode cX10_bestTrial 60 = .ok (.iinc 5 1, 3) := by decide +kernel
theorem dX10_bestTrial_63 : decode cX10_bestTrial 63 = .ok (.goto (-57), 3) := by decide +kernel
theorem dX10_bestTrial_66 : decode cX10_bestTrial 66 = .ok (.iload 4, 2) := by decide +kernel
theorem dX10_bestTrial_68 : decode cX10_bestTrial 68 = .ok (.ireturn, 1) := by decide +kernel
theorem dX10_countAliases_0 : decode cX10_countAliases 0 = .ok (.iload_n 1, 1) := by decide +kernel
theorem dX10_countAliases_1 : decode cX10_countAliases 1 = .ok (.ifCond .lt 12, 3) := by decide +kernel
theorem dX10_countAliases_4 : decode cX10_countAliases 4 = .ok (.iload_n 1, 1) := by decide +kernel
theorem dX10_countAliases_5 : decode cX10_countAliases 5 = .ok (.aload_n 0, 1) := by decide +kernel
theorem dX10_countAliases_6 : decode cX10_countAliases 6 = .ok (.getfield 56, 3) := by decide +kernel
theorem dX10_countAliases_9 : decode cX10_countAliases 9 = .ok (.arraylength, 1) := by decide +kernel
theorem dX10_countAliases_10 : decode cX10_countAliases 10 = .ok (.if_icmp .lt 5, 3) := by decide +kernel
theorem dX10_countAliases_13 : decode cX10_countAliases 13 = .ok (.iconst 0, 1) := by decide +kernel
theorem dX10_countAliases_14 : decode cX10_countAliases 14 = .ok (.ireturn, 1) := by decide +kernel
theorem dX10_countAliases_15 : decode cX10_countAliases 15 = .ok (.bipush 100, 2) := by decide +kernel
theorem dX10_countAliases_17 : decode cX10_countAliases 17 = .ok (.iload_n 3, 1) := by decide +kernel
theorem dX10_countAliases_18 : decode cX10_countAliases 18 = .ok (.iadd, 1) := by decide +kernel
theorem dX10_countAliases_19 : decode cX10_countAliases 19 = .ok (.aload_n 0, 1) := by decide +kernel
theorem dX10_countAliases_20 : decode cX10_countAliases 20 = .ok (.getfield 56, 3) := by decide +kernel
theorem dX10_countAliases_23 : decode cX10_countAliases 23 = .ok (.iload_n 1, 1) := by decide +kernel
theorem dX10_countAliases_24 : decode cX10_countAliases 24 = .ok (.iaload, 1) := by decide +kernel
theorem dX10_countAliases_25 : decode cX10_countAliases 25 = .ok (.imul, 1) := by decide +kernel
theorem dX10_countAliases_26 : decode cX10_countAliases 26 = .ok (.istore 4, 2) := by decide +kernel
theorem dX10_countAliases_28 : decode cX10_countAliases 28 = .ok (.iconst 0, 1) := by decide +kernel
theorem dX10_countAliases_29 : decode cX10_countAliases 29 = .ok (.istore 5, 2) := by decide +kernel
theorem dX10_countAliases_31 : decode cX10_countAliases 31 = .ok (.iconst 0, 1) := by decide +kernel
theorem dX10_countAliases_32 : decode cX10_countAliases 32 = .ok (.istore 6, 2) := by decide +kernel
theorem dX10_countAliases_34 : decode cX10_countAliases 34 = .ok (.iload 6, 2) := by decide +kernel
theorem dX10_countAliases_36 : decode cX10_countAliases 36 = .ok (.iload_n 2, 1) := by decide +kernel
theorem dX10_countAliases_37 : decode cX10_countAliases 37 = .ok (.if_icmp .ge 43, 3) := by decide +kernel
theorem dX10_countAliases_40 : decode cX10_countAliases 40 = .ok (.iload 6, 2) := by decide +kernel
theorem dX10_countAliases_42 : decode cX10_countAliases 42 = .ok (.aload_n 0, 1) := by decide +kernel
theorem dX10_countAliases_43 : decode cX10_countAliases 43 = .ok (.getfield 56, 3) := by decide +kernel
theorem dX10_countAliases_46 : decode cX10_countAliases 46 = .ok (.arraylength, 1) := by decide +kernel
theorem dX10_countAliases_47 : decode cX10_countAliases 47 = .ok (.if_icmp .ge 33, 3) := by decide +kernel
theorem dX10_countAliases_50 : decode cX10_countAliases 50 = .ok (.iload 6, 2) := by decide +kernel
theorem dX10_countAliases_52 : decode cX10_countAliases 52 = .ok (.iload_n 1, 1) := by decide +kernel
theorem dX10_countAliases_53 : decode cX10_countAliases 53 = .ok (.if_icmp .eq 21, 3) := by decide +kernel
theorem dX10_countAliases_56 : decode cX10_countAliases 56 = .ok (.bipush 100, 2) := by decide +kernel
theorem dX10_countAliases_58 : decode cX10_countAliases 58 = .ok (.aload_n 0, 1) := by decide +kernel
theorem dX10_countAliases_59 : decode cX10_countAliases 59 = .ok (.getfield 56, 3) := by decide +kernel
theorem dX10_countAliases_62 : decode cX10_countAliases 62 = .ok (.iload 6, 2) := by decide +kernel
theorem dX10_countAliases_64 : decode cX10_countAliases 64 = .ok (.iaload, 1) := by decide +kernel
theorem dX10_countAliases_65 : decode cX10_countAliases 65 = .ok (.imul, 1) := by decide +kernel
theorem dX10_countAliases_66 : decode cX10_countAliases 66 = .ok (.iload 4, 2) := by decide +kernel
theorem dX10_countAliases_68 : decode cX10_countAliases 68 = .ok (.if_icmp .gt 6, 3) := by decide +kernel
theorem dX10_countAliases_71 : decode cX10_countAliases 71 = .ok (.iinc 5 1, 3) := by decide +kernel
theorem dX10_countAliases_74 : decode cX10_countAliases 74 = .ok (.iinc 6 1, 3) := by decide +kernel
theorem dX10_countAliases_77 : decode cX10_countAliases 77 = .ok (.goto (-43), 3) := by decide +kernel
theorem dX10_countAliases_80 : decode cX10_countAliases 80 = .ok (.iload 5, 2) := by decide +kernel
theorem dX10_countAliases_82 : decode cX10_countAliases 82 = .ok (.ireturn, 1) := by decide +kernel
set_option maxRecDepth 20000 in
theorem ggX10_featureOfCurve_X10_brightestOfCurve : GoodIn wsX10_featureOfCurve wsX10_brightestOfCurve := goodIn_r _ [6, 1, 7, 8, 9, 10, 11, 12, 13, 14, 15, 16, 17, 40, 41, 42, 43, 44, 45, 46, 47, 48, 49, 50, 51, 52, 53, 54, 55] (by decide +kernel) (by decide +kernel)
set_option maxRecDepth 20000 in
theorem gX10_featureOfCurve_X10_brightestOfCurve : GoodIn wsX10_featureOfCurve (wsV RX10 336 RX10 yX10_brightestOfCurve wsX10_brightestOfCurve) := goodIn_app (goodIn_of _ (by decide +kernel)) ggX10_featureOfCurve_X10_brightestOfCurve
set_option maxRecDepth 20000 in
theorem ggX10_featureOfCurve_X10_faintestOfCurve : GoodIn wsX10_featureOfCurve wsX10_faintestOfCurve := goodIn_r _ [21, 1, 7, 8, 9, 10, 11, 12, 13, 14, 15, 16, 17, 40, 41, 42, 43, 44, 45, 46, 47, 48, 49, 50, 51, 52, 53, 54, 55] (by decide +kernel) (by decide +kernel)
set_option maxRecDepth 20000 in
theorem gX10_featureOfCurve_X10_faintestOfCurve : GoodIn wsX10_featureOfCurve (wsV RX10 339 RX10 yX10_faintestOfCurve wsX10_faintestOfCurve) := goodIn_app (goodIn_of _ (by decide +kernel)) ggX10_featureOfCurve_X10_faintestOfCurve
set_option maxRecDepth 20000 in
theorem ggX10_featureOfCurve_X5_value : GoodIn wsX10_featureOfCurve wsX5_value := goodIn_r _ [16, 12, 17, 53, 54, 55] (by decide +kernel) (by decide +kernel)
set_option maxRecDepth 20000 in
theorem gX10_featureOfCurve_X5_value : GoodIn wsX10_featureOfCurve (wsV RX10 304 RX5 yX5_value wsX5_value) := goodIn_app (goodIn_of _ (by decide +kernel)) ggX10_featureOfCurve_X5_value
set_option maxRecDepth 20000 in
theorem ggX10_featureOfCurve_X5_key : GoodIn wsX10_featureOfCurve wsX5_key := goodIn_r _ [25, 12, 26, 53, 54, 55] (by decide +kernel) (by decide +kernel)
set_option maxRecDepth 20000 in
theorem gX10_featureOfCurve_X5_key : GoodIn wsX10_featureOfCurve (wsV RX10 330 RX5 yX5_key wsX5_key) := goodIn_app (goodIn_of _ (by decide +kernel)) ggX10_featureOfCurve_X5_key
set_option maxRecDepth 20000 in
theorem ggX10_featureOfCurve_X10_remainder : GoodIn wsX10_featureOfCurve wsX10_remainder := goodIn_r _ [29, 30, 31, 32, 33] (by decide +kernel) (by decide +kernel)
set_option maxRecDepth 20000 in
theorem gX10_featureOfCurve_X10_remainder : GoodIn wsX10_featureOfCurve (va_wsS RX10 333 yX10_remainder wsX10_remainder) := goodIn_app (goodIn_of _ (by decide +kernel)) ggX10_featureOfCurve_X10_remainder
set_option maxRecDepth 20000 in
theorem ggX10_featureOfCurve_X10_quotient : GoodIn wsX10_featureOfCurve wsX10_quotient := goodIn_r _ [36, 37, 38, 32, 39] (by decide +kernel) (by decide +kernel)
set_option maxRecDepth 20000 in
theorem gX10_featureOfCurve_X10_quotient : GoodIn wsX10_featureOfCurve (va_wsS RX10 323 yX10_quotient wsX10_quotient) := goodIn_app (goodIn_of _ (by decide +kernel)) ggX10_featureOfCurve_X10_quotient
theorem dX10_featureOfCurve_0 : decode cX10_featureOfCurve 0 = .ok (.iload_n 1, 1) := by decide +kernel
theorem dX10_featureOfCurve_1 : decode cX10_featureOfCurve 1 = .ok (.iconst 1, 1) := by decide +kernel
theorem dX10_featureOfCurve_2 : decode cX10_featureOfCurve 2 = .ok (.if_icmp .ne 5, 3) := by decide +kernel
theorem dX10_featureOfCurve_5 : decode cX10_featureOfCurve 5 = .ok (.iload_n 2, 1) := by decide +kernel
theorem dX10_featureOfCurve_6 : decode cX10_featureOfCurve 6 = .ok (.ireturn, 1) := by decide +kernel
theorem dX10_featureOfCurve_7 : decode cX10_featureOfCurve 7 = .ok (.aload_n 0, 1) := by decide +kernel
theorem dX10_featureOfCurve_8 : decode cX10_featureOfCurve 8 = .ok (.invokevirtual 336, 3) := by decide +kernel
theorem dX10_featureOfCurve_11 : decode cX10_featureOfCurve 11 = .ok (.istore_n 3, 1) := by decide +kernel
theorem dX10_featureOfCurve_12 : decode cX10_featureOfCurve 12 = .ok (.aload_n 0, 1) := by decide +kernel
theorem dX10_featureOfCurve_13 : decode cX10_featureOfCurve 13 = .ok (.invokevirtual 339, 3) := by decide +kernel
theorem dX10_featureOfCurve_16 : decode cX10_featureOfCurve 16 = .ok (.istore 4, 2) := by decide +kernel
theorem dX10_featureOfCurve_18 : decode cX10_featureOfCurve 18 = .ok (.iload_n 1, 1) := by decide +kernel
theorem dX10_featureOfCurve_19 : decode cX10_featureOfCurve 19 = .ok (.ifCond .ne 22, 3) := by decide +kernel
theorem dX10_featureOfCurve_22 : decode cX10_featureOfCurve 22 = .ok (.aload_n 0, 1) := by decide +kernel
theorem dX10_featureOfCurve_23 : decode cX10_featureOfCurve 23 = .ok (.getfield 43, 3) := by decide +kernel
theorem dX10_featureOfCurve_26 : decode cX10_featureOfCurve 26 = .ok (.iload 4, 2) := by decide +kernel
theorem dX10_featureOfCurve_28 : decode cX10_featureOfCurve 28 = .ok (.invokevirtual 304, 3) := by decide +kernel
theorem dX10_featureOfCurve_31 : decode cX10_featureOfCurve 31 = .ok (.aload_n 0, 1) := by decide +kernel
theorem dX10_featureOfCurve_32 : decode cX10_featureOfCurve 32 = .ok (.getfield 43, 3) := by decide +kernel
theorem dX10_featureOfCurve_35 : decode cX10_featureOfCurve 35 = .ok (.iload_n 3, 1) := by decide +kernel
theorem dX10_featureOfCurve_36 : decode cX10_featureOfCurve 36 = .ok (.invokevirtual 304, 3) := by decide +kernel
theorem dX10_featureOfCurve_39 : decode cX10_featureOfCurve 39 = .ok (.isub, 1) := by decide +kernel
theorem dX10_featureOfCurve_40 : decode cX10_featureOfCurve 40 = .ok (.ireturn, 1) := by decide +kernel
theorem dX10_featureOfCurve_41 : decode cX10_featureOfCurve 41 = .ok (.aload_n 0, 1) := by decide +kernel
theorem dX10_featureOfCurve_42 : decode cX10_featureOfCurve 42 = .ok (.getfield 43, 3) := by decide +kernel
theorem dX10_featureOfCurve_45 : decode cX10_featureOfCurve 45 = .ok (.iload_n 3, 1) := by decide +kernel
theorem dX10_featureOfCurve_46 : decode cX10_featureOfCurve 46 = .ok (.invokevirtual 330, 3) := by decide +kernel
theorem dX10_featureOfCurve_49 : decode cX10_featureOfCurve 49 = .ok (.aload_n 0, 1) := by decide +kernel
theorem dX10_featureOfCurve_50 : decode cX10_featureOfCurve 50 = .ok (.getfield 43, 3) := by decide +kernel
theorem dX10_featureOfCurve_53 : decode cX10_featureOfCurve 53 = .ok (.iload 4, 2) := by decide +kernel
theorem dX10_featureOfCurve_55 : decode cX10_featureOfCurve 55 = .ok (.invokevirtual 330, 3) := by decide +kernel
theorem dX10_featureOfCurve_58 : decode cX10_featureOfCurve 58 = .ok (.isub, 1) := by decide +kernel
theorem dX10_featureOfCurve_59 : decode cX10_featureOfCurve 59 = .ok (.iload_n 2, 1) := by decide +kernel
theorem dX10_featureOfCurve_60 : decode cX10_featureOfCurve 60 = .ok (.invokestatic 333, 3) := by decide +kernel
theorem dX10_featureOfCurve_63 : decode cX10_featureOfCurve 63 = .ok (.istore 5, 2) := by decide +kernel
theorem dX10_featureOfCurve_65 : decode cX10_featureOfCurve 65 = .ok (.iload 5, 2) := by decide +kernel
theorem dX10_featureOfCurve_67 : decode cX10_featureOfCurve 67 = .ok (.bipush 100, 2) := by decide +kernel
theorem dX10_featureOfCurve_69 : decode cX10_featureOfCurve 69 = .ok (.imul, 1) := by decide +kernel
theorem dX10_featureOfCurve_70 : decode cX10_featureOfCurve 70 = .ok (.iload_n 2, 1) := by decide +kernel
theorem dX10_featureOfCurve_71 : decode cX10_featureOfCurve 71 = .ok (.invokestatic 323, 3) := by decide +kernel
theorem dX10_featureOfCurve_74 : decode cX10_featureOfCurve 74 = .ok (.ireturn, 1) := by decide +kernel
set_option maxRecDepth 20000 in
theorem ggX10_brightestOfCurve_X5_size : GoodIn wsX10_brightestOfCurve wsX5_size := goodIn_r _ [6, 7, 26, 27, 28] (by decide +kernel) (by decide +kernel)
set_option maxRecDepth 20000 in
theorem gX10_brightestOfCurve_X5_size : GoodIn wsX10_brightestOfCurve (wsV RX10 267 RX5 yX5_size wsX5_size) := goodIn_app (goodIn_of _ (by decide +kernel)) ggX10_brightestOfCurve_X5_size
set_option maxRecDepth 20000 in
theorem ggX10_brightestOfCurve_X5_value : GoodIn wsX10_brightestOfCurve wsX5_value := goodIn_r _ [11, 7, 12, 26, 27, 28] (by decide +kernel) (by decide +kernel)
set_option maxRecDepth 20000 in
theorem gX10_brightestOfCurve_X5_value : GoodIn wsX10_brightestOfCurve (wsV RX10 304 RX5 yX5_value wsX5_value) := goodIn_app (goodIn_of _ (by decide +kernel)) ggX10_brightestOfCurve_X5_value
theorem dX10_brightestOfCurve_0 : decode cX10_brightestOfCurve 0 = .ok (.iconst 0, 1) := by decide +kernel
theorem dX10_brightestOfCurve_1 : decode cX10_brightestOfCurve 1 = .ok (.istore_n 1, 1) := by decide +kernel
theorem dX10_brightestOfCurve_2 : decode cX10_brightestOfCurve 2 = .ok (.iconst 1, 1) := by decide +kernel
theorem dX10_brightestOfCurve_3 : decode cX10_brightestOfCurve 3 = .ok (.istore_n 2, 1) := by decide +kernel
theorem dX10_brightestOfCurve_4 : decode cX10_brightestOfCurve 4 = .ok (.iload_n 2, 1) := by decide +kernel
theorem dX10_brightestOfCurve_5 : decode cX10_brightestOfCurve 5 = .ok (.aload_n 0, 1) := by decide +kernel
theorem dX10_brightestOfCurve_6 : decode cX10_brightestOfCurve 6 = .ok (.getfield 43, 3) := by decide +kernel
theorem dX10_brightestOfCurve_9 : decode cX10_brightestOfCurve 9 = .ok (.invokevirtual 267, 3) := by decide +kernel
theorem dX10_brightestOfCurve_12 : decode cX10_brightestOfCurve 12 = .ok (.if_icmp .ge 30, 3) := by decide +kernel
theorem dX10_brightestOfCurve_15 : decode cX10_brightestOfCurve 15 = .ok (.aload_n 0, 1) := by decide +kernel
theorem dX10_brightestOfCurve_16 : decode cX10_brightestOfCurve 16 = .ok (.getfield 43, 3) := by decide +kernel
theorem dX10_brightestOfCurve_19 : decode cX10_brightestOfCurve 19 = .ok (.iload_n 2, 1) := by decide +kernel
theorem dX10_brightestOfCurve_20 : decode cX10_brightestOfCurve 20 = .ok (.invokevirtual 304, 3) := by decide +kernel
theorem dX10_brightestOfCurve_23 : decode cX10_brightestOfCurve 23 = .ok (.aload_n 0, 1) := by decide +kernel
theorem dX10_brightestOfCurve_24 : decode cX10_brightestOfCurve 24 = .ok (.getfield 43, 3) := by decide +kernel
theorem dX10_brightestOfCurve_27 : decode cX10_brightestOfCurve 27 = .ok (.iload_n 1, 1) := by decide +kernel
theorem dX10_brightestOfCurve_28 : decode cX10_brightestOfCurve 28 = .ok (.invokevirtual 304, 3) := by decide +kernel
theorem dX10_brightestOfCurve_31 : decode cX10_brightestOfCurve 31 = .ok (.if_icmp .ge 5, 3) := by decide +kernel
theorem dX10_brightestOfCurve_34 : decode cX10_brightestOfCurve 34 = .ok (.iload_n 2, 1) := by decide +kernel
theorem dX10_brightestOfCurve_35 : decode cX10_brightestOfCurve 35 = .ok (.istore_n 1, 1) := by decide +kernel
theorem dX10_brightestOfCurve_36 : decode cX10_brightestOfCurve 36 = .ok (.iinc 2 1, 3) := by decide +kernel
theorem dX10_brightestOfCurve_39 : decode cX10_brightestOfCurve 39 = .ok (.goto (-35), 3) := by decide +kernel
theorem dX10_brightestOfCurve_42 : decode cX10_brightestOfCurve 42 = .ok (.iload_n 1, 1) := by decide +kernel
theorem dX10_brightestOfCurve_43 : decode cX10_brightestOfCurve 43 = .ok (.ireturn, 1) := by decide +kernel
set_option maxRecDepth 20000 in
theorem ggX10_faintestOfCurve_X5_size : GoodIn wsX10_faintestOfCurve wsX5_size := goodIn_r _ [6, 7, 26, 27, 28] (by decide +kernel) (by decide +kernel)
set_option maxRecDepth 20000 in
theorem gX10_faintestOfCurve_X5_size : GoodIn wsX10_faintestOfCurve (wsV RX10 267 RX5 yX5_size wsX5_size) := goodIn_app (goodIn_of _ (by decide +kernel)) ggX10_faintestOfCurve_X5_size
set_option maxRecDepth 20000 in
theorem ggX10_faintestOfCurve_X5_value : GoodIn wsX10_faintestOfCurve wsX5_value := goodIn_r _ [11, 7, 12, 26, 27, 28] (by decide +kernel) (by decide +kernel)
set_option maxRecDepth 20000 in
theorem gX10_faintestOfCurve_X5_value : GoodIn wsX10_faintestOfCurve (wsV RX10 304 RX5 yX5_value wsX5_value) := goodIn_app (goodIn_of _ (by decide +kernel)) ggX10_faintestOfCurve_X5_value
theorem dX10_faintestOfCurve_0 : decode cX10_faintestOfCurve 0 = .ok (.iconst 0, 1) := by decide +kernel
theorem dX10_faintestOfCurve_1 : decode cX10_faintestOfCurve 1 = .ok (.istore_n 1, 1) := by decide +kernel
theorem dX10_faintestOfCurve_2 : decode cX10_faintestOfCurve 2 = .ok (.iconst 1, 1) := by decide +kernel
theorem dX10_faintestOfCurve_3 : decode cX10_faintestOfCurve 3 = .ok (.istore_n 2, 1) := by decide +kernel
theorem dX10_faintestOfCurve_4 : decode cX10_faintestOfCurve 4 = .ok (.iload_n 2, 1) := by decide +kernel
theorem dX10_faintestOfCurve_5 : decode cX10_faintestOfCurve 5 = .ok (.aload_n 0, 1) := by decide +kernel
theorem dX10_faintestOfCurve_6 : decode cX10_faintestOfCurve 6 = .ok (.getfield 43, 3) := by decide +kernel
theorem dX10_faintestOfCurve_9 : decode cX10_faintestOfCurve 9 = .ok (.invokevirtual 267, 3) := by decide +kernel
theorem dX10_faintestOfCurve_12 : decode cX10_faintestOfCurve 12 = .ok (.if_icmp .ge 30, 3) := by decide +kernel
theorem dX10_faintestOfCurve_15 : decode cX10_faintestOfCurve 15 = .ok (.aload_n 0, 1) := by decide +kernel
theorem dX10_faintestOfCurve_16 : decode cX10_faintestOfCurve 16 = .ok (.getfield 43, 3) := by decide +kernel
theorem dX10_faintestOfCurve_19 : decode cX10_faintestOfCurve 19 = .ok (.iload_n 2, 1) := by decide +kernel
theorem dX10_faintestOfCurve_20 : decode cX10_faintestOfCurve 20 = .ok (.invokevirtual 304, 3) := by decide +kernel
theorem dX10_faintestOfCurve_23 : decode cX10_faintestOfCurve 23 = .ok (.aload_n 0, 1) := by decide +kernel
theorem dX10_faintestOfCurve_24 : decode cX10_faintestOfCurve 24 = .ok (.getfield 43, 3) := by decide +kernel
theorem dX10_faintestOfCurve_27 : decode cX10_faintestOfCurve 27 = .ok (.iload_n 1, 1) := by decide +kernel
theorem dX10_faintestOfCurve_28 : decode cX10_faintestOfCurve 28 = .ok (.invokevirtual 304, 3) := by decide +kernel
theorem dX10_faintestOfCurve_31 : decode cX10_faintestOfCurve 31 = .ok (.if_icmp .le 5, 3) := by decide +kernel
theorem dX10_faintestOfCurve_34 : decode cX10_faintestOfCurve 34 = .ok (.iload_n 2, 1) := by decide +kernel
theorem dX10_faintestOfCurve_35 : decode cX10_faintestOfCurve 35 = .ok (.istore_n 1, 1) := by decide +kernel
theorem dX10_faintestOfCurve_36 : decode cX10_faintestOfCurve 36 = .ok (.iinc 2 1, 3) := by decide +kernel
theorem dX10_faintestOfCurve_39 : decode cX10_faintestOfCurve 39 = .ok (.goto (-35), 3) := by decide +kernel
theorem dX10_faintestOfCurve_42 : decode cX10_faintestOfCurve 42 = .ok (.iload_n 1, 1) := by decide +kernel
theorem dX10_faintestOfCurve_43 : decode cX10_faintestOfCurve 43 = .ok (.ireturn, 1) := by decide +kernel
set_option maxRecDepth 20000 in
theorem ggX10_votesForClass_Jx4a65c_size_8abf5 : GoodIn wsX10_votesForClass wsJx4a65c_size_8abf5 := goodIn_r _ [11, 12, 99, 100, 101] (by decide +kernel) (by decide +kernel)
set_option maxRecDepth 20000 in
theorem gX10_votesForClass_Jx4a65c_size_8abf5 : GoodIn wsX10_votesForClass (wsV RX10 81 RJx4a65c yJx4a65c_size_8abf5 wsJx4a65c_size_8abf5) := goodIn_app (goodIn_of _ (by decide +kernel)) ggX10_votesForClass_Jx4a65c_size_8abf5
set_option maxRecDepth 20000 in
theorem ggX10_votesForClass_Jx4a65c_get_915e3 : GoodIn wsX10_votesForClass wsJx4a65c_get_915e3 := goodIn_r _ [16, 12, 17, 18, 19, 20, 21, 22, 23, 24, 25, 26, 27, 10, 28, 29, 99, 100, 101] (by decide +kernel) (by decide +kernel)
set_option maxRecDepth 20000 in
theorem gX10_votesForClass_Jx4a65c_get_915e3 : GoodIn wsX10_votesForClass (wsV RX10 188 RJx4a65c yJx4a65c_get_915e3 wsJx4a65c_get_915e3) := goodIn_app (goodIn_of _ (by decide +kernel)) ggX10_votesForClass_Jx4a65c_get_915e3
set_option maxRecDepth 20000 in
theorem ggX10_votesForClass_X10_featureOfCurve : GoodIn wsX10_votesForClass wsX10_featureOfCurve := goodIn_r _ [34, 35, 36, 37, 38, 33, 39, 40, 41, 42, 43, 44, 45, 46, 47, 48, 49, 50, 51, 52, 53, 54, 55, 56, 57, 58, 59, 60, 61, 62, 63, 64, 65, 66, 67, 68, 69, 70, 71, 72, 80, 81, 82, 83, 84, 85, 86, 87, 88, 89, 90, 91, 92, 102, 103, 104] (by decide +kernel) (by decide +kernel)
set_option maxRecDepth 20000 in
theorem gX10_votesForClass_X10_featureOfCurve : GoodIn wsX10_votesForClass (wsV RX10 243 RX10 yX10_featureOfCurve wsX10_featureOfCurve) := goodIn_app (goodIn_of _ (by decide +kernel)) ggX10_votesForClass_X10_featureOfCurve
set_option maxRecDepth 20000 in
theorem ggX10_votesForClass_X6_holds : GoodIn wsX10_votesForClass wsX6_holds := goodIn_r _ [77, 78, 79, 93, 94, 95, 96, 97, 98] (by decide +kernel) (by decide +kernel)
set_option maxRecDepth 20000 in
theorem gX10_votesForClass_X6_holds : GoodIn wsX10_votesForClass (wsV RX10 348 RX6 yX6_holds wsX6_holds) := goodIn_app (goodIn_of _ (by decide +kernel)) ggX10_votesForClass_X6_holds
theorem dX10_votesForClass_0 : decode cX10_votesForClass 0 = .ok (.iconst 0, 1) := by decide +kernel
theorem dX10_votesForClass_1 : decode cX10_votesForClass 1 = .ok (.istore_n 3, 1) := by decide +kernel
theorem dX10_votesForClass_2 : decode cX10_votesForClass 2 = .ok (.iconst 0, 1) := by decide +kernel
theorem dX10_votesForClass_3 : decode cX10_votesForClass 3 = .ok (.istore 4, 2) := by decide +kernel
theorem dX10_votesForClass_5 : decode cX10_votesForClass 5 = .ok (.iload 4, 2) := by decide +kernel
theorem dX10_votesForClass_7 : decode cX10_votesForClass 7 = .ok (.aload_n 0, 1) := by decide +kernel
theorem dX10_votesForClass_8 : decode cX10_votesForClass 8 = .ok (.getfield 28, 3) := by decide +kernel
theorem dX10_votesForClass_11 : decode cX10_votesForClass 11 = .ok (.invokevirtual 81, 3) := by decide +kernel
theorem dX10_votesForClass_14 : decode cX10_votesForClass 14 = .ok (.if_icmp .ge 66, 3) := by decide +kernel
theorem dX10_votesForClass_17 : decode cX10_votesForClass 17 = .ok (.aload_n 0, 1) := by decide +kernel
theorem dX10_votesForClass_18 : decode cX10_votesForClass 18 = .ok (.getfield 28, 3) := by decide +kernel
theorem dX10_votesForClass_21 : decode cX10_votesForClass 21 = .ok (.iload 4, 2) := by decide +kernel
theorem dX10_votesForClass_23 : decode cX10_votesForClass 23 = .ok (.invokevirtual 188, 3) := by decide +kernel
theorem dX10_votesForClass_26 : decode cX10_votesForClass 26 = .ok (.checkcast 249, 3) := by decide +kernel
theorem dX10_votesForClass_29 : decode cX10_votesForClass 29 = .ok (.astore 5, 2) := by decide +kernel
theorem dX10_votesForClass_31 : decode cX10_votesForClass 31 = .ok (.aload 5, 2) := by decide +kernel
theorem dX10_votesForClass_33 : decode cX10_votesForClass 33 = .ok (.getfield 342, 3) := by decide +kernel
theorem dX10_votesForClass_36 : decode cX10_votesForClass 36 = .ok (.iload_n 1, 1) := by decide +kernel
theorem dX10_votesForClass_37 : decode cX10_votesForClass 37 = .ok (.if_icmp .ne 37, 3) := by decide +kernel
theorem dX10_votesForClass_40 : decode cX10_votesForClass 40 = .ok (.aload 5, 2) := by decide +kernel
theorem dX10_votesForClass_42 : decode cX10_votesForClass 42 = .ok (.getfield 258, 3) := by decide +kernel
theorem dX10_votesForClass_45 : decode cX10_votesForClass 45 = .ok (.ifCond .ne 29, 3) := by decide +kernel
theorem dX10_votesForClass_48 : decode cX10_votesForClass 48 = .ok (.aload 5, 2) := by decide +kernel
theorem dX10_votesForClass_50 : decode cX10_votesForClass 50 = .ok (.aload_n 0, 1) := by decide +kernel
theorem dX10_votesForClass_51 : decode cX10_votesForClass 51 = .ok (.aload 5, 2) := by decide +kernel
theorem dX10_votesForClass_53 : decode cX10_votesForClass 53 = .ok (.getfield 345, 3) := by decide +kernel
theorem dX10_votesForClass_56 : decode cX10_votesForClass 56 = .ok (.iload_n 2, 1) := by decide +kernel
theorem dX10_votesForClass_57 : decode cX10_votesForClass 57 = .ok (.invokevirtual 243, 3) := by decide +kernel
theorem dX10_votesForClass_60 : decode cX10_votesForClass 60 = .ok (.invokevirtual 348, 3) := by decide +kernel
theorem dX10_votesForClass_63 : decode cX10_votesForClass 63 = .ok (.ifCond .eq 11, 3) := by decide +kernel
theorem dX10_votesForClass_66 : decode cX10_votesForClass 66 = .ok (.iload_n 3, 1) := by decide +kernel
theorem dX10_votesForClass_67 : decode cX10_votesForClass 67 = .ok (.aload 5, 2) := by decide +kernel
theorem dX10_votesForClass_69 : decode cX10_votesForClass 69 = .ok (.getfield 351, 3) := by decide +kernel
theorem dX10_votesForClass_72 : decode cX10_votesForClass 72 = .ok (.iadd, 1) := by decide +kernel
theorem dX10_votesForClass_73 : decode cX10_votesForClass 73 = .ok (.istore_n 3, 1) := by decide +kernel
theorem dX10_votesForClass_74 : decode cX10_votesForClass 74 = .ok (.iinc 4 1, 3) := by decide +kernel
theorem dX10_votesForClass_77 : decode cX10_votesForClass 77 = .ok (.goto (-72), 3) := by decide +kernel
theorem dX10_votesForClass_80 : decode cX10_votesForClass 80 = .ok (.iload_n 3, 1) := by decide +kernel
theorem dX10_votesForClass_81 : decode cX10_votesForClass 81 = .ok (.ireturn, 1) := by decide +kernel
set_option maxRecDepth 20000 in
theorem ggX10_meanOfCurve_X5_size : GoodIn wsX10_meanOfCurve wsX5_size := goodIn_r _ [6, 7, 34, 35, 36] (by decide +kernel) (by decide +kernel)
set_option maxRecDepth 20000 in
theorem gX10_meanOfCurve_X5_size : GoodIn wsX10_meanOfCurve (wsV RX10 267 RX5 yX5_size wsX5_size) := goodIn_app (goodIn_of _ (by decide +kernel)) ggX10_meanOfCurve_X5_size
set_option maxRecDepth 20000 in
theorem ggX10_meanOfCurve_X5_value : GoodIn wsX10_meanOfCurve wsX5_value := goodIn_r _ [11, 7, 12, 34, 35, 36] (by decide +kernel) (by decide +kernel)
set_option maxRecDepth 20000 in
theorem gX10_meanOfCurve_X5_value : GoodIn wsX10_meanOfCurve (wsV RX10 304 RX5 yX5_value wsX5_value) := goodIn_app (goodIn_of _ (by decide +kernel)) ggX10_meanOfCurve_X5_value
set_option maxRecDepth 20000 in
theorem ggX10_meanOfCurve_X10_quotient : GoodIn wsX10_meanOfCurve wsX10_quotient := goodIn_r _ [16, 17, 18, 19, 20] (by decide +kernel) (by decide +kernel)
set_option maxRecDepth 20000 in
theorem gX10_meanOfCurve_X10_quotient : GoodIn wsX10_meanOfCurve (va_wsS RX10 323 yX10_quotient wsX10_quotient) := goodIn_app (goodIn_of _ (by decide +kernel)) ggX10_meanOfCurve_X10_quotient
theorem dX10_meanOfCurve_0 : decode cX10_meanOfCurve 0 = .ok (.iconst 0, 1) := by decide +kernel
theorem dX10_meanOfCurve_1 : decode cX10_meanOfCurve 1 = .ok (.istore_n 1, 1) := by decide +kernel
theorem dX10_meanOfCurve_2 : decode cX10_meanOfCurve 2 = .ok (.iconst 0, 1) := by decide +kernel
theorem dX10_meanOfCurve_3 : decode cX10_meanOfCurve 3 = .ok (.istore_n 2, 1) := by decide +kernel
theorem dX10_meanOfCurve_4 : decode cX10_meanOfCurve 4 = .ok (.iload_n 2, 1) := by decide +kernel
theorem dX10_meanOfCurve_5 : decode cX10_meanOfCurve 5 = .ok (.aload_n 0, 1) := by decide +kernel
theorem dX10_meanOfCurve_6 : decode cX10_meanOfCurve 6 = .ok (.getfield 43, 3) := by decide +kernel
theorem dX10_meanOfCurve_9 : decode cX10_meanOfCurve 9 = .ok (.invokevirtual 267, 3) := by decide +kernel
theorem dX10_meanOfCurve_12 : decode cX10_meanOfCurve 12 = .ok (.if_icmp .ge 20, 3) := by decide +kernel
theorem dX10_meanOfCurve_15 : decode cX10_meanOfCurve 15 = .ok (.iload_n 1, 1) := by decide +kernel
theorem dX10_meanOfCurve_16 : decode cX10_meanOfCurve 16 = .ok (.aload_n 0, 1) := by decide +kernel
theorem dX10_meanOfCurve_17 : decode cX10_meanOfCurve 17 = .ok (.getfield 43, 3) := by decide +kernel
theorem dX10_meanOfCurve_20 : decode cX10_meanOfCurve 20 = .ok (.iload_n 2, 1) := by decide +kernel
theorem dX10_meanOfCurve_21 : decode cX10_meanOfCurve 21 = .ok (.invokevirtual 304, 3) := by decide +kernel
theorem dX10_meanOfCurve_24 : decode cX10_meanOfCurve 24 = .ok (.iadd, 1) := by decide +kernel
theorem dX10_meanOfCurve_25 : decode cX10_meanOfCurve 25 = .ok (.istore_n 1, 1) := by decide +kernel
theorem dX10_meanOfCurve_26 : decode cX10_meanOfCurve 26 = .ok (.iinc 2 1, 3) := by decide +kernel
theorem dX10_meanOfCurve_29 : decode cX10_meanOfCurve 29 = .ok (.goto (-25), 3) := by decide +kernel
theorem dX10_meanOfCurve_32 : decode cX10_meanOfCurve 32 = .ok (.iload_n 1, 1) := by decide +kernel
theorem dX10_meanOfCurve_33 : decode cX10_meanOfCurve 33 = .ok (.aload_n 0, 1) := by decide +kernel
theorem dX10_meanOfCurve_34 : decode cX10_meanOfCurve 34 = .ok (.getfield 43, 3) := by decide +kernel
theorem dX10_meanOfCurve_37 : decode cX10_meanOfCurve 37 = .ok (.invokevirtual 267, 3) := by decide +kernel
theorem dX10_meanOfCurve_40 : decode cX10_meanOfCurve 40 = .ok (.invokestatic 323, 3) := by decide +kernel
theorem dX10_meanOfCurve_43 : decode cX10_meanOfCurve 43 = .ok (.ireturn, 1) := by decide +kernel
set_option maxRecDepth 20000 in
theorem ggX10_modulusOfCurve_X10_meanOfCurve : GoodIn wsX10_modulusOfCurve wsX10_meanOfCurve := goodIn_r _ [7, 8, 9, 10, 11, 12, 13, 14, 15, 16, 17, 18, 19, 20, 21, 6, 22, 23, 24, 25, 26, 35, 36, 37, 38, 39, 40, 41, 42, 43, 44, 45, 46, 47, 48, 49, 50] (by decide +kernel) (by decide +kernel)
set_option maxRecDepth 20000 in
theorem gX10_modulusOfCurve_X10_meanOfCurve : GoodIn wsX10_modulusOfCurve (wsV RX10 285 RX10 yX10_meanOfCurve wsX10_meanOfCurve) := goodIn_app (goodIn_of _ (by decide +kernel)) ggX10_modulusOfCurve_X10_meanOfCurve
set_option maxRecDepth 20000 in
theorem ggX10_modulusOfCurve_X10_halvings : GoodIn wsX10_modulusOfCurve wsX10_halvings := goodIn_r _ [29] (by decide +kernel) (by decide +kernel)
set_option maxRecDepth 20000 in
theorem gX10_modulusOfCurve_X10_halvings : GoodIn wsX10_modulusOfCurve (va_wsS RX10 354 yX10_halvings wsX10_halvings) := goodIn_app (goodIn_of _ (by decide +kernel)) ggX10_modulusOfCurve_X10_halvings
theorem dX10_modulusOfCurve_0 : decode cX10_modulusOfCurve 0 = .ok (.aload_n 0, 1) := by decide +kernel
theorem dX10_modulusOfCurve_1 : decode cX10_modulusOfCurve 1 = .ok (.invokevirtual 285, 3) := by decide +kernel
theorem dX10_modulusOfCurve_4 : decode cX10_modulusOfCurve 4 = .ok (.aload_n 1, 1) := by decide +kernel
theorem dX10_modulusOfCurve_5 : decode cX10_modulusOfCurve 5 = .ok (.getfield 280, 3) := by decide +kernel
theorem dX10_modulusOfCurve_8 : decode cX10_modulusOfCurve 8 = .ok (.isub, 1) := by decide +kernel
theorem dX10_modulusOfCurve_9 : decode cX10_modulusOfCurve 9 = .ok (.aload_n 0, 1) := by decide +kernel
theorem dX10_modulusOfCurve_10 : decode cX10_modulusOfCurve 10 = .ok (.getfield 34, 3) := by decide +kernel
theorem dX10_modulusOfCurve_13 : decode cX10_modulusOfCurve 13 = .ok (.isub, 1) := by decide +kernel
theorem dX10_modulusOfCurve_14 : decode cX10_modulusOfCurve 14 = .ok (.bipush 75, 2) := by decide +kernel
theorem dX10_modulusOfCurve_16 : decode cX10_modulusOfCurve 16 = .ok (.iload_n 2, 1) := by decide +kernel
theorem dX10_modulusOfCurve_17 : decode cX10_modulusOfCurve 17 = .ok (.invokestatic 354, 3) := by decide +kernel
theorem dX10_modulusOfCurve_20 : decode cX10_modulusOfCurve 20 = .ok (.imul, 1) := by decide +kernel
theorem dX10_modulusOfCurve_21 : decode cX10_modulusOfCurve 21 = .ok (.iadd, 1) := by decide +kernel
theorem dX10_modulusOfCurve_22 : decode cX10_modulusOfCurve 22 = .ok (.ireturn, 1) := by decide +kernel
theorem dX10_halvings_0 : decode cX10_halvings 0 = .ok (.iconst 0, 1) := by decide +kernel
theorem dX10_halvings_1 : decode cX10_halvings 1 = .ok (.istore_n 1, 1) := by decide +kernel
theorem dX10_halvings_2 : decode cX10_halvings 2 = .ok (.iload_n 0, 1) := by decide +kernel
theorem dX10_halvings_3 : decode cX10_halvings 3 = .ok (.istore_n 2, 1) := by decide +kernel
theorem dX10_halvings_4 : decode cX10_halvings 4 = .ok (.iload_n 2, 1) := by decide +kernel
theorem dX10_halvings_5 : decode cX10_halvings 5 = .ok (.iconst 1, 1) := by decide +kernel
theorem dX10_halvings_6 : decode cX10_halvings 6 = .ok (.if_icmp .le 13, 3) := by decide +kernel
theorem dX10_halvings_9 : decode cX10_halvings 9 = .ok (.iinc 1 1, 3) := by decide +kernel
theorem dX10_halvings_12 : decode cX10_halvings 12 = .ok (.iload_n 2, 1) := by decide +kernel
theorem dX10_halvings_13 : decode cX10_halvings 13 = .ok (.iconst 2, 1) := by decide +kernel
theorem dX10_halvings_14 : decode cX10_halvings 14 = .ok (.idiv, 1) := by decide +kernel
theorem dX10_halvings_15 : decode cX10_halvings 15 = .ok (.istore_n 2, 1) := by decide +kernel
theorem dX10_halvings_16 : decode cX10_halvings 16 = .ok (.goto (-12), 3) := by decide +kernel
theorem dX10_halvings_19 : decode cX10_halvings 19 = .ok (.iload_n 1, 1) := by decide +kernel
theorem dX10_halvings_20 : decode cX10_halvings 20 = .ok (.ireturn, 1) := by decide +kernel
set_option maxRecDepth 20000 in
theorem ggX10_gatherEclipses_X5_clear : GoodIn wsX10_gatherEclipses wsX5_clear := goodIn_r _ [11, 12, 92, 93, 94] (by decide +kernel) (by decide +kernel)
set_option maxRecDepth 20000 in
theorem gX10_gatherEclipses_X5_clear : GoodIn wsX10_gatherEclipses (wsV RX10 292 RX5 yX5_clear wsX5_clear) := goodIn_app (goodIn_of _ (by decide +kernel)) ggX10_gatherEclipses_X5_clear
set_option maxRecDepth 20000 in
theorem ggX10_gatherEclipses_Jx4a65c_size_8abf5 : GoodIn wsX10_gatherEclipses wsJx4a65c_size_8abf5 := goodIn_r _ [17, 18, 95, 96, 97] (by decide +kernel) (by decide +kernel)
set_option maxRecDepth 20000 in
theorem gX10_gatherEclipses_Jx4a65c_size_8abf5 : GoodIn wsX10_gatherEclipses (wsV RX10 81 RJx4a65c yJx4a65c_size_8abf5 wsJx4a65c_size_8abf5) := goodIn_app (goodIn_of _ (by decide +kernel)) ggX10_gatherEclipses_Jx4a65c_size_8abf5
set_option maxRecDepth 20000 in
theorem ggX10_gatherEclipses_Jx4a65c_get_915e3 : GoodIn wsX10_gatherEclipses wsJx4a65c_get_915e3 := goodIn_r _ [22, 18, 23, 24, 25, 26, 27, 28, 29, 30, 31, 32, 33, 16, 34, 35, 95, 96, 97] (by decide +kernel) (by decide +kernel)
set_option maxRecDepth 20000 in
theorem gX10_gatherEclipses_Jx4a65c_get_915e3 : GoodIn wsX10_gatherEclipses (wsV RX10 188 RJx4a65c yJx4a65c_get_915e3 wsJx4a65c_get_915e3) := goodIn_app (goodIn_of _ (by decide +kernel)) ggX10_gatherEclipses_Jx4a65c_get_915e3
set_option maxRecDepth 20000 in
theorem ggX10_gatherEclipses_X7_arrival : GoodIn wsX10_gatherEclipses wsX7_arrival := goodIn_r _ [40, 41, 42, 43, 44, 45, 46, 47, 48, 49, 50, 51, 52, 53, 54, 55, 56, 57, 87, 88, 89, 90, 91] (by decide +kernel) (by decide +kernel)
set_option maxRecDepth 20000 in
theorem gX10_gatherEclipses_X7_arrival : GoodIn wsX10_gatherEclipses (wsV RX10 361 RX7 yX7_arrival wsX7_arrival) := goodIn_app (goodIn_of _ (by decide +kernel)) ggX10_gatherEclipses_X7_arrival
set_option maxRecDepth 20000 in
theorem ggX10_gatherEclipses_X5_add : GoodIn wsX10_gatherEclipses wsX5_add := goodIn_r _ [61, 12, 62, 63, 64, 65, 66, 67, 68, 69, 70, 10, 71, 92, 93, 94] (by decide +kernel) (by decide +kernel)
set_option maxRecDepth 20000 in
theorem gX10_gatherEclipses_X5_add : GoodIn wsX10_gatherEclipses (wsV RX10 302 RX5 yX5_add wsX5_add) := goodIn_app (goodIn_of _ (by decide +kernel)) ggX10_gatherEclipses_X5_add
theorem dX10_gatherEclipses_0 : decode cX10_gatherEclipses 0 = .ok (.aload_n 0, 1) := by decide +kernel
theorem dX10_gatherEclipses_1 : decode cX10_gatherEclipses 1 = .ok (.getfield 50, 3) := by decide +kernel
theorem dX10_gatherEclipses_4 : decode cX10_gatherEclipses 4 = .ok (.invokevirtual 292, 3) := by decide +kernel
theorem dX10_gatherEclipses_7 : decode cX10_gatherEclipses 7 = .ok (.iconst 0, 1) := by decide +kernel
theorem dX10_gatherEclipses_8 : decode cX10_gatherEclipses 8 = .ok (.istore_n 2, 1) := by decide +kernel
theorem dX10_gatherEclipses_9 : decode cX10_gatherEclipses 9 = .ok (.iload_n 2, 1) := by decide +kernel
theorem dX10_gatherEclipses_10 : decode cX10_gatherEclipses 10 = .ok (.aload_n 0, 1) := by decide +kernel
theorem dX10_gatherEclipses_11 : decode cX10_gatherEclipses 11 = .ok (.getfield 31, 3) := by decide +kernel
theorem dX10_gatherEclipses_14 : decode cX10_gatherEclipses 14 = .ok (.invokevirtual 81, 3) := by decide +kernel
theorem dX10_gatherEclipses_17 : decode cX10_gatherEclipses 17 = .ok (.if_icmp .ge 51, 3) := by decide +kernel
theorem dX10_gatherEclipses_20 : decode cX10_gatherEclipses 20 = .ok (.aload_n 0, 1) := by decide +kernel
theorem dX10_gatherEclipses_21 : decode cX10_gatherEclipses 21 = .ok (.getfield 31, 3) := by decide +kernel
theorem dX10_gatherEclipses_24 : decode cX10_gatherEclipses 24 = .ok (.iload_n 2, 1) := by decide +kernel
theorem dX10_gatherEclipses_25 : decode cX10_gatherEclipses 25 = .ok (.invokevirtual 188, 3) := by decide +kernel
theorem dX10_gatherEclipses_28 : decode cX10_gatherEclipses 28 = .ok (.checkcast 149, 3) := by decide +kernel
theorem dX10_gatherEclipses_31 : decode cX10_gatherEclipses 31 = .ok (.astore_n 3, 1) := by decide +kernel
theorem dX10_gatherEclipses_32 : decode cX10_gatherEclipses 32 = .ok (.aload_n 3, 1) := by decide +kernel
theorem dX10_gatherEclipses_33 : decode cX10_gatherEclipses 33 = .ok (.getfield 357, 3) := by decide +kernel
theorem dX10_gatherEclipses_36 : decode cX10_gatherEclipses 36 = .ok (.getfield 154, 3) := by decide +kernel
theorem dX10_gatherEclipses_39 : decode cX10_gatherEclipses 39 = .ok (.iload_n 1, 1) := by decide +kernel
theorem dX10_gatherEclipses_40 : decode cX10_gatherEclipses 40 = .ok (.if_icmp .ne 22, 3) := by decide +kernel
theorem dX10_gatherEclipses_43 : decode cX10_gatherEclipses 43 = .ok (.aload_n 0, 1) := by decide +kernel
theorem dX10_gatherEclipses_44 : decode cX10_gatherEclipses 44 = .ok (.getfield 50, 3) := by decide +kernel
theorem dX10_gatherEclipses_47 : decode cX10_gatherEclipses 47 = .ok (.aload_n 3, 1) := by decide +kernel
theorem dX10_gatherEclipses_48 : decode cX10_gatherEclipses 48 = .ok (.getfield 357, 3) := by decide +kernel
theorem dX10_gatherEclipses_51 : decode cX10_gatherEclipses 51 = .ok (.aload_n 3, 1) := by decide +kernel
theorem dX10_gatherEclipses_52 : decode cX10_gatherEclipses 52 = .ok (.getfield 358, 3) := by decide +kernel
theorem dX10_gatherEclipses_55 : decode cX10_gatherEclipses 55 = .ok (.invokevirtual 361, 3) := by decide +kernel
theorem dX10_gatherEclipses_58 : decode cX10_gatherEclipses 58 = .ok (.iload_n 2, 1) := by decide +kernel
theorem dX10_gatherEclipses_59 : decode cX10_gatherEclipses 59 = .ok (.invokevirtual 302, 3) := by decide +kernel
theorem dX10_gatherEclipses_62 : decode cX10_gatherEclipses 62 = .ok (.iinc 2 1, 3) := by decide +kernel
theorem dX10_gatherEclipses_65 : decode cX10_gatherEclipses 65 = .ok (.goto (-56), 3) := by decide +kernel
theorem dX10_gatherEclipses_68 : decode cX10_gatherEclipses 68 = .ok (.return_, 1) := by decide +kernel
set_option maxRecDepth 20000 in
theorem ggX10_sinceFirst_X5_key : GoodIn wsX10_sinceFirst wsX5_key := goodIn_r _ [6, 7, 8, 22, 23, 24] (by decide +kernel) (by decide +kernel)
set_option maxRecDepth 20000 in
theorem gX10_sinceFirst_X5_key : GoodIn wsX10_sinceFirst (wsV RX10 330 RX5 yX5_key wsX5_key) := goodIn_app (goodIn_of _ (by decide +kernel)) ggX10_sinceFirst_X5_key
theorem dX10_sinceFirst_0 : decode cX10_sinceFirst 0 = .ok (.aload_n 0, 1) := by decide +kernel
theorem dX10_sinceFirst_1 : decode cX10_sinceFirst 1 = .ok (.getfield 50, 3) := by decide +kernel
theorem dX10_sinceFirst_4 : decode cX10_sinceFirst 4 = .ok (.iload_n 1, 1) := by decide +kernel
theorem dX10_sinceFirst_5 : decode cX10_sinceFirst 5 = .ok (.invokevirtual 330, 3) := by decide +kernel
theorem dX10_sinceFirst_8 : decode cX10_sinceFirst 8 = .ok (.aload_n 0, 1) := by decide +kernel
theorem dX10_sinceFirst_9 : decode cX10_sinceFirst 9 = .ok (.getfield 50, 3) := by decide +kernel
theorem dX10_sinceFirst_12 : decode cX10_sinceFirst 12 = .ok (.iconst 0, 1) := by decide +kernel
theorem dX10_sinceFirst_13 : decode cX10_sinceFirst 13 = .ok (.invokevirtual 330, 3) := by decide +kernel
theorem dX10_sinceFirst_16 : decode cX10_sinceFirst 16 = .ok (.isub, 1) := by decide +kernel
theorem dX10_sinceFirst_17 : decode cX10_sinceFirst 17 = .ok (.ireturn, 1) := by decide +kernel
set_option maxRecDepth 20000 in
theorem ggX10_cycleAt_X10_sinceFirst : GoodIn wsX10_cycleAt wsX10_sinceFirst := goodIn_r _ [5, 6, 7, 8, 9, 10, 11, 12, 13, 21, 22, 23, 24, 25, 26, 27, 28, 29, 30, 31, 32, 33, 34, 35, 36] (by decide +kernel) (by decide +kernel)
set_option maxRecDepth 20000 in
theorem gX10_cycleAt_X10_sinceFirst : GoodIn wsX10_cycleAt (wsV RX10 364 RX10 yX10_sinceFirst wsX10_sinceFirst) := goodIn_app (goodIn_of _ (by decide +kernel)) ggX10_cycleAt_X10_sinceFirst
set_option maxRecDepth 20000 in
theorem ggX10_cycleAt_X10_quotient : GoodIn wsX10_cycleAt wsX10_quotient := goodIn_r _ [16, 17, 18, 19, 20] (by decide +kernel) (by decide +kernel)
set_option maxRecDepth 20000 in
theorem gX10_cycleAt_X10_quotient : GoodIn wsX10_cycleAt (va_wsS RX10 323 yX10_quotient wsX10_quotient) := goodIn_app (goodIn_of _ (by decide +kernel)) ggX10_cycleAt_X10_quotient
theorem dX10_cycleAt_0 : decode cX10_cycleAt 0 = .ok (.iconst 2, 1) := by decide +kernel
theorem dX10_cycleAt_1 : decode cX10_cycleAt 1 = .ok (.aload_n 0, 1) := by decide +kernel
theorem dX10_cycleAt_2 : decode cX10_cycleAt 2 = .ok (.iload_n 1, 1) := by decide +kernel
theorem dX10_cycleAt_3 : decode cX10_cycleAt 3 = .ok (.invokevirtual 364, 3) := by decide +kernel
theorem dX10_cycleAt_6 : decode cX10_cycleAt 6 = .ok (.imul, 1) := by decide +kernel
theorem dX10_cycleAt_7 : decode cX10_cycleAt 7 = .ok (.iload_n 2, 1) := by decide +kernel
theorem dX10_cycleAt_8 : decode cX10_cycleAt 8 = .ok (.iadd, 1) := by decide +kernel
theorem dX10_cycleAt_9 : decode cX10_cycleAt 9 = .ok (.iconst 2, 1) := by decide +kernel
theorem dX10_cycleAt_10 : decode cX10_cycleAt 10 = .ok (.iload_n 2, 1) := by decide +kernel
theorem dX10_cycleAt_11 : decode cX10_cycleAt 11 = .ok (.imul, 1) := by decide +kernel
theorem dX10_cycleAt_12 : decode cX10_cycleAt 12 = .ok (.invokestatic 323, 3) := by decide +kernel
theorem dX10_cycleAt_15 : decode cX10_cycleAt 15 = .ok (.ireturn, 1) := by decide +kernel
set_option maxRecDepth 20000 in
theorem ggX10_offsetAt_X10_sinceFirst : GoodIn wsX10_offsetAt wsX10_sinceFirst := goodIn_r _ [5, 6, 7, 8, 9, 10, 11, 12, 13, 25, 26, 27, 28, 29, 30, 31, 32, 33, 34, 35, 36, 37, 38, 39, 40] (by decide +kernel) (by decide +kernel)
set_option maxRecDepth 20000 in
theorem gX10_offsetAt_X10_sinceFirst : GoodIn wsX10_offsetAt (wsV RX10 364 RX10 yX10_sinceFirst wsX10_sinceFirst) := goodIn_app (goodIn_of _ (by decide +kernel)) ggX10_offsetAt_X10_sinceFirst
set_option maxRecDepth 20000 in
theorem ggX10_offsetAt_X10_cycleAt : GoodIn wsX10_offsetAt wsX10_cycleAt := goodIn_r _ [17, 1, 2, 3, 4, 5, 6, 7, 8, 9, 10, 11, 12, 13, 18, 19, 20, 21, 22, 23, 24, 25, 26, 27, 28, 29, 30, 31, 32, 33, 34, 35, 36, 37, 38, 39, 40] (by decide +kernel) (by decide +kernel)
set_option maxRecDepth 20000 in
theorem gX10_offsetAt_X10_cycleAt : GoodIn wsX10_offsetAt (wsV RX10 274 RX10 yX10_cycleAt wsX10_cycleAt) := goodIn_app (goodIn_of _ (by decide +kernel)) ggX10_offsetAt_X10_cycleAt
theorem dX10_offsetAt_0 : decode cX10_offsetAt 0 = .ok (.aload_n 0, 1) := by decide +kernel
theorem dX10_offsetAt_1 : decode cX10_offsetAt 1 = .ok (.iload_n 1, 1) := by decide +kernel
theorem dX10_offsetAt_2 : decode cX10_offsetAt 2 = .ok (.invokevirtual 364, 3) := by decide +kernel
theorem dX10_offsetAt_5 : decode cX10_offsetAt 5 = .ok (.aload_n 0, 1) := by decide +kernel
theorem dX10_offsetAt_6 : decode cX10_offsetAt 6 = .ok (.iload_n 1, 1) := by decide +kernel
theorem dX10_offsetAt_7 : decode cX10_offsetAt 7 = .ok (.iload_n 2, 1) := by decide +kernel
theorem dX10_offsetAt_8 : decode cX10_offsetAt 8 = .ok (.invokevirtual 274, 3) := by decide +kernel
theorem dX10_offsetAt_11 : decode cX10_offsetAt 11 = .ok (.iload_n 2, 1) := by decide +kernel
theorem dX10_offsetAt_12 : decode cX10_offsetAt 12 = .ok (.imul, 1) := by decide +kernel
theorem dX10_offsetAt_13 : decode cX10_offsetAt 13 = .ok (.isub, 1) := by decide +kernel
theorem dX10_offsetAt_14 : decode cX10_offsetAt 14 = .ok (.ireturn, 1) := by decide +kernel
set_option maxRecDepth 20000 in
theorem ggX10_quotient_J9_floorDiv_7cf53 : GoodIn wsX10_quotient wsJ9_floorDiv_7cf53 := goodIn_r _ [4] (by decide +kernel) (by decide +kernel)
set_option maxRecDepth 20000 in
theorem gX10_quotient_J9_floorDiv_7cf53 : GoodIn wsX10_quotient (va_wsS RX10 367 yJ9_floorDiv_7cf53 wsJ9_floorDiv_7cf53) := goodIn_app (goodIn_of _ (by decide +kernel)) ggX10_quotient_J9_floorDiv_7cf53
theorem dX10_quotient_0 : decode cX10_quotient 0 = .ok (.iload_n 1, 1) := by decide +kernel
theorem dX10_quotient_1 : decode cX10_quotient 1 = .ok (.ifCond .le 11, 3) := by decide +kernel
theorem dX10_quotient_4 : decode cX10_quotient 4 = .ok (.iload_n 0, 1) := by decide +kernel
theorem dX10_quotient_5 : decode cX10_quotient 5 = .ok (.iload_n 1, 1) := by decide +kernel
theorem dX10_quotient_6 : decode cX10_quotient 6 = .ok (.invokestatic 367, 3) := by decide +kernel
theorem dX10_quotient_9 : decode cX10_quotient 9 = .ok (.goto 4, 3) := by decide +kernel
theorem dX10_quotient_12 : decode cX10_quotient 12 = .ok (.iconst 0, 1) := by decide +kernel
theorem dX10_quotient_13 : decode cX10_quotient 13 = .ok (.ireturn, 1) := by decide +kernel
set_option maxRecDepth 20000 in
theorem ggX10_remainder_J9_floorMod_7cf53 : GoodIn wsX10_remainder wsJ9_floorMod_7cf53 := goodIn_r _ [4] (by decide +kernel) (by decide +kernel)
set_option maxRecDepth 20000 in
theorem gX10_remainder_J9_floorMod_7cf53 : GoodIn wsX10_remainder (va_wsS RX10 370 yJ9_floorMod_7cf53 wsJ9_floorMod_7cf53) := goodIn_app (goodIn_of _ (by decide +kernel)) ggX10_remainder_J9_floorMod_7cf53
theorem dX10_remainder_0 : decode cX10_remainder 0 = .ok (.iload_n 1, 1) := by decide +kernel
theorem dX10_remainder_1 : decode cX10_remainder 1 = .ok (.ifCond .le 11, 3) := by decide +kernel
theorem dX10_remainder_4 : decode cX10_remainder 4 = .ok (.iload_n 0, 1) := by decide +kernel
theorem dX10_remainder_5 : decode cX10_remainder 5 = .ok (.iload_n 1, 1) := by decide +kernel
theorem dX10_remainder_6 : decode cX10_remainder 6 = .ok (.invokestatic 370, 3) := by decide +kernel
theorem dX10_remainder_9 : decode cX10_remainder 9 = .ok (.goto 4, 3) := by decide +kernel
theorem dX10_remainder_12 : decode cX10_remainder 12 = .ok (.iconst 0, 1) := by decide +kernel
theorem dX10_remainder_13 : decode cX10_remainder 13 = .ok (.ireturn, 1) := by decide +kernel
theorem dJ9_floorDiv_7cf53_0 : decode cJ9_floorDiv_7cf53 0 = .ok (.iload_n 0, 1) := by decide +kernel
theorem dJ9_floorDiv_7cf53_1 : decode cJ9_floorDiv_7cf53 1 = .ok (.iload_n 1, 1) := by decide +kernel
theorem dJ9_floorDiv_7cf53_2 : decode cJ9_floorDiv_7cf53 2 = .ok (.idiv, 1) := by decide +kernel
theorem dJ9_floorDiv_7cf53_3 : decode cJ9_floorDiv_7cf53 3 = .ok (.istore_n 2, 1) := by decide +kernel
theorem dJ9_floorDiv_7cf53_4 : decode cJ9_floorDiv_7cf53 4 = .ok (.iload_n 0, 1) := by decide +kernel
theorem dJ9_floorDiv_7cf53_5 : decode cJ9_floorDiv_7cf53 5 = .ok (.iload_n 1, 1) := by decide +kernel
theorem dJ9_floorDiv_7cf53_6 : decode cJ9_floorDiv_7cf53 6 = .ok (.ixor, 1) := by decide +kernel
theorem dJ9_floorDiv_7cf53_7 : decode cJ9_floorDiv_7cf53 7 = .ok (.ifCond .ge 14, 3) := by decide +kernel
theorem dJ9_floorDiv_7cf53_10 : decode cJ9_floorDiv_7cf53 10 = .ok (.iload_n 2, 1) := by decide +kernel
theorem dJ9_floorDiv_7cf53_11 : decode cJ9_floorDiv_7cf53 11 = .ok (.iload_n 1, 1) := by decide +kernel
theorem dJ9_floorDiv_7cf53_12 : decode cJ9_floorDiv_7cf53 12 = .ok (.imul, 1) := by decide +kernel
theorem dJ9_floorDiv_7cf53_13 : decode cJ9_floorDiv_7cf53 13 = .ok (.iload_n 0, 1) := by decide +kernel
theorem dJ9_floorDiv_7cf53_14 : decode cJ9_floorDiv_7cf53 14 = .ok (.if_icmp .eq 7, 3) := by decide +kernel
theorem dJ9_floorDiv_7cf53_17 : decode cJ9_floorDiv_7cf53 17 = .ok (.iload_n 2, 1) := by decide +kernel
theorem dJ9_floorDiv_7cf53_18 : decode cJ9_floorDiv_7cf53 18 = .ok (.iconst 1, 1) := by decide +kernel
theorem dJ9_floorDiv_7cf53_19 : decode cJ9_floorDiv_7cf53 19 = .ok (.isub, 1) := by decide +kernel
theorem dJ9_floorDiv_7cf53_20 : decode cJ9_floorDiv_7cf53 20 = .ok (.ireturn, 1) := by decide +kernel
theorem dJ9_floorDiv_7cf53_21 : decode cJ9_floorDiv_7cf53 21 = .ok (.iload_n 2, 1) := by decide +kernel
theorem dJ9_floorDiv_7cf53_22 : decode cJ9_floorDiv_7cf53 22 = .ok (.ireturn, 1) := by decide +kernel
theorem dJ9_floorMod_7cf53_0 : decode cJ9_floorMod_7cf53 0 = .ok (.iload_n 0, 1) := by decide +kernel
theorem dJ9_floorMod_7cf53_1 : decode cJ9_floorMod_7cf53 1 = .ok (.iload_n 1, 1) := by decide +kernel
theorem dJ9_floorMod_7cf53_2 : decode cJ9_floorMod_7cf53 2 = .ok (.irem, 1) := by decide +kernel
theorem dJ9_floorMod_7cf53_3 : decode cJ9_floorMod_7cf53 3 = .ok (.istore_n 2, 1) := by decide +kernel
theorem dJ9_floorMod_7cf53_4 : decode cJ9_floorMod_7cf53 4 = .ok (.iload_n 0, 1) := by decide +kernel
theorem dJ9_floorMod_7cf53_5 : decode cJ9_floorMod_7cf53 5 = .ok (.iload_n 1, 1) := by decide +kernel
theorem dJ9_floorMod_7cf53_6 : decode cJ9_floorMod_7cf53 6 = .ok (.ixor, 1) := by decide +kernel
theorem dJ9_floorMod_7cf53_7 : decode cJ9_floorMod_7cf53 7 = .ok (.ifCond .ge 11, 3) := by decide +kernel
theorem dJ9_floorMod_7cf53_10 : decode cJ9_floorMod_7cf53 10 = .ok (.iload_n 2, 1) := by decide +kernel
theorem dJ9_floorMod_7cf53_11 : decode cJ9_floorMod_7cf53 11 = .ok (.ifCond .eq 7, 3) := by decide +kernel
theorem dJ9_floorMod_7cf53_14 : decode cJ9_floorMod_7cf53 14 = .ok (.iload_n 2, 1) := by decide +kernel
theorem dJ9_floorMod_7cf53_15 : decode cJ9_floorMod_7cf53 15 = .ok (.iload_n 1, 1) := by decide +kernel
theorem dJ9_floorMod_7cf53_16 : decode cJ9_floorMod_7cf53 16 = .ok (.iadd, 1) := by decide +kernel
theorem dJ9_floorMod_7cf53_17 : decode cJ9_floorMod_7cf53 17 = .ok (.ireturn, 1) := by decide +kernel
theorem dJ9_floorMod_7cf53_18 : decode cJ9_floorMod_7cf53 18 = .ok (.iload_n 2, 1) := by decide +kernel
theorem dJ9_floorMod_7cf53_19 : decode cJ9_floorMod_7cf53 19 = .ok (.ireturn, 1) := by decide +kernel
theorem dJ9_abs_0f7a4_0 : decode cJ9_abs_0f7a4 0 = .ok (.iload_n 0, 1) := by decide +kernel
theorem dJ9_abs_0f7a4_1 : decode cJ9_abs_0f7a4 1 = .ok (.ifCond .ge 8, 3) := by decide +kernel
theorem dJ9_abs_0f7a4_4 : decode cJ9_abs_0f7a4 4 = .ok (.iload_n 0, 1) := by decide +kernel
theorem dJ9_abs_0f7a4_5 : decode cJ9_abs_0f7a4 5 = .ok (.ineg, 1) := by decide +kernel
theorem dJ9_abs_0f7a4_6 : decode cJ9_abs_0f7a4 6 = .ok (.goto 4, 3) := by decide +kernel
theorem dJ9_abs_0f7a4_9 : decode cJ9_abs_0f7a4 9 = .ok (.iload_n 0, 1) := by decide +kernel
theorem dJ9_abs_0f7a4_10 : decode cJ9_abs_0f7a4 10 = .ok (.ireturn, 1) := by decide +kernel
theorem dJ9_max_7cf53_0 : decode cJ9_max_7cf53 0 = .ok (.iload_n 0, 1) := by decide +kernel
theorem dJ9_max_7cf53_1 : decode cJ9_max_7cf53 1 = .ok (.iload_n 1, 1) := by decide +kernel
theorem dJ9_max_7cf53_2 : decode cJ9_max_7cf53 2 = .ok (.if_icmp .lt 7, 3) := by decide +kernel
theorem dJ9_max_7cf53_5 : decode cJ9_max_7cf53 5 = .ok (.iload_n 0, 1) := by decide +kernel
theorem dJ9_max_7cf53_6 : decode cJ9_max_7cf53 6 = .ok (.goto 4, 3) := by decide +kernel
theorem dJ9_max_7cf53_9 : decode cJ9_max_7cf53 9 = .ok (.iload_n 1, 1) := by decide +kernel
theorem dJ9_max_7cf53_10 : decode cJ9_max_7cf53 10 = .ok (.ireturn, 1) := by decide +kernel
theorem dJ9_min_7cf53_0 : decode cJ9_min_7cf53 0 = .ok (.iload_n 0, 1) := by decide +kernel
theorem dJ9_min_7cf53_1 : decode cJ9_min_7cf53 1 = .ok (.iload_n 1, 1) := by decide +kernel
theorem dJ9_min_7cf53_2 : decode cJ9_min_7cf53 2 = .ok (.if_icmp .gt 7, 3) := by decide +kernel
theorem dJ9_min_7cf53_5 : decode cJ9_min_7cf53 5 = .ok (.iload_n 0, 1) := by decide +kernel
theorem dJ9_min_7cf53_6 : decode cJ9_min_7cf53 6 = .ok (.goto 4, 3) := by decide +kernel
theorem dJ9_min_7cf53_9 : decode cJ9_min_7cf53 9 = .ok (.iload_n 1, 1) := by decide +kernel
theorem dJ9_min_7cf53_10 : decode cJ9_min_7cf53 10 = .ok (.ireturn, 1) := by decide +kernel
theorem dJxa1e45_init_da8c8_0 : decode cJxa1e45_init_da8c8 0 = .ok (.aload_n 0, 1) := by decide +kernel
theorem dJxa1e45_init_da8c8_1 : decode cJxa1e45_init_da8c8 1 = .ok (.invokespecial 1, 3) := by decide +kernel
theorem dJxa1e45_init_da8c8_4 : decode cJxa1e45_init_da8c8 4 = .ok (.return_, 1) := by decide +kernel
set_option maxRecDepth 20000 in
theorem ggJxc12de_init_da8c8_Jxa1e45_init_da8c8 : GoodIn wsJxc12de_init_da8c8 wsJxa1e45_init_da8c8 := goodIn_r _ [5, 6, 7, 8] (by decide +kernel) (by decide +kernel)
set_option maxRecDepth 20000 in
theorem gJxc12de_init_da8c8_Jxa1e45_init_da8c8 : GoodIn wsJxc12de_init_da8c8 (wsJxa1e45_init_da8c8) := ggJxc12de_init_da8c8_Jxa1e45_init_da8c8
theorem dJxc12de_init_da8c8_0 : decode cJxc12de_init_da8c8 0 = .ok (.aload_n 0, 1) := by decide +kernel
theorem dJxc12de_init_da8c8_1 : decode cJxc12de_init_da8c8 1 = .ok (.invokespecial 1, 3) := by decide +kernel
theorem dJxc12de_init_da8c8_4 : decode cJxc12de_init_da8c8 4 = .ok (.aload_n 0, 1) := by decide +kernel
theorem dJxc12de_init_da8c8_5 : decode cJxc12de_init_da8c8 5 = .ok (.iconst 0, 1) := by decide +kernel
theorem dJxc12de_init_da8c8_6 : decode cJxc12de_init_da8c8 6 = .ok (.putfield 7, 3) := by decide +kernel
theorem dJxc12de_init_da8c8_9 : decode cJxc12de_init_da8c8 9 = .ok (.return_, 1) := by decide +kernel
set_option maxRecDepth 20000 in
theorem ggJx4a65c_init_da8c8_Jxc12de_init_da8c8 : GoodIn wsJx4a65c_init_da8c8 wsJxc12de_init_da8c8 := goodIn_r _ [6, 7, 8, 9, 10, 11, 12, 13, 14, 15, 16, 17] (by decide +kernel) (by decide +kernel)
set_option maxRecDepth 20000 in
theorem gJx4a65c_init_da8c8_Jxc12de_init_da8c8 : GoodIn wsJx4a65c_init_da8c8 (wsJxc12de_init_da8c8) := ggJx4a65c_init_da8c8_Jxc12de_init_da8c8
theorem dJx4a65c_init_da8c8_0 : decode cJx4a65c_init_da8c8 0 = .ok (.aload_n 0, 1) := by decide +kernel
theorem dJx4a65c_init_da8c8_1 : decode cJx4a65c_init_da8c8 1 = .ok (.invokespecial 1, 3) := by decide +kernel
theorem dJx4a65c_init_da8c8_4 : decode cJx4a65c_init_da8c8 4 = .ok (.aload_n 0, 1) := by decide +kernel
theorem dJx4a65c_init_da8c8_5 : decode cJx4a65c_init_da8c8 5 = .ok (.getstatic 39, 3) := by decide +kernel
theorem dJx4a65c_init_da8c8_8 : decode cJx4a65c_init_da8c8 8 = .ok (.putfield 9, 3) := by decide +kernel
theorem dJx4a65c_init_da8c8_11 : decode cJx4a65c_init_da8c8 11 = .ok (.return_, 1) := by decide +kernel
set_option maxRecDepth 20000 in
theorem ggJx4a65c_grow_92f84_J8_newLength_cabcc : GoodIn wsJx4a65c_grow_92f84 wsJ8_newLength_cabcc := goodIn_r _ [11, 12, 4, 5, 6, 13, 14, 15, 10, 16] (by decide +kernel) (by decide +kernel)
set_option maxRecDepth 20000 in
theorem gJx4a65c_grow_92f84_J8_newLength_cabcc : GoodIn wsJx4a65c_grow_92f84 (va_wsS RJx4a65c 73 yJ8_newLength_cabcc wsJ8_newLength_cabcc) := goodIn_app (goodIn_of _ (by decide +kernel)) ggJx4a65c_grow_92f84_J8_newLength_cabcc
set_option maxRecDepth 20000 in
theorem ggJx4a65c_grow_92f84_J7_copyOf_1904c : GoodIn wsJx4a65c_grow_92f84 wsJ7_copyOf_1904c := goodIn_r _ [20, 21, 22, 23, 24, 25, 26, 19, 27, 28, 29, 30, 31, 5, 32, 33, 34, 35, 36] (by decide +kernel) (by decide +kernel)
set_option maxRecDepth 20000 in
theorem gJx4a65c_grow_92f84_J7_copyOf_1904c : GoodIn wsJx4a65c_grow_92f84 (va_wsS RJx4a65c 66 yJ7_copyOf_1904c wsJ7_copyOf_1904c) := goodIn_app (goodIn_of _ (by decide +kernel)) ggJx4a65c_grow_92f84_J7_copyOf_1904c
theorem dJx4a65c_grow_92f84_0 : decode cJx4a65c_grow_92f84 0 = .ok (.aload_n 0, 1) := by decide +kernel
theorem dJx4a65c_grow_92f84_1 : decode cJx4a65c_grow_92f84 1 = .ok (.getfield 9, 3) := by decide +kernel
theorem dJx4a65c_grow_92f84_4 : decode cJx4a65c_grow_92f84 4 = .ok (.arraylength, 1) := by decide +kernel
theorem dJx4a65c_grow_92f84_5 : decode cJx4a65c_grow_92f84 5 = .ok (.istore_n 2, 1) := by decide +kernel
theorem dJx4a65c_grow_92f84_6 : decode cJx4a65c_grow_92f84 6 = .ok (.iload_n 2, 1) := by decide +kernel
theorem dJx4a65c_grow_92f84_7 : decode cJx4a65c_grow_92f84 7 = .ok (.ifCond .gt 13, 3) := by decide +kernel
theorem dJx4a65c_grow_92f84_10 : decode cJx4a65c_grow_92f84 10 = .ok (.aload_n 0, 1) := by decide +kernel
theorem dJx4a65c_grow_92f84_11 : decode cJx4a65c_grow_92f84 11 = .ok (.getfield 9, 3) := by decide +kernel
theorem dJx4a65c_grow_92f84_14 : decode cJx4a65c_grow_92f84 14 = .ok (.getstatic 39, 3) := by decide +kernel
theorem dJx4a65c_grow_92f84_17 : decode cJx4a65c_grow_92f84 17 = .ok (.if_acmp .eq 28, 3) := by decide +kernel
theorem dJx4a65c_grow_92f84_20 : decode cJx4a65c_grow_92f84 20 = .ok (.iload_n 2, 1) := by decide +kernel
theorem dJx4a65c_grow_92f84_21 : decode cJx4a65c_grow_92f84 21 = .ok (.iload_n 1, 1) := by decide +kernel
theorem dJx4a65c_grow_92f84_22 : decode cJx4a65c_grow_92f84 22 = .ok (.iload_n 2, 1) := by decide +kernel
theorem dJx4a65c_grow_92f84_23 : decode cJx4a65c_grow_92f84 23 = .ok (.isub, 1) := by decide +kernel
theorem dJx4a65c_grow_92f84_24 : decode cJx4a65c_grow_92f84 24 = .ok (.iload_n 2, 1) := by decide +kernel
theorem dJx4a65c_grow_92f84_25 : decode cJx4a65c_grow_92f84 25 = .ok (.iconst 1, 1) := by decide +kernel
theorem dJx4a65c_grow_92f84_26 : decode cJx4a65c_grow_92f84 26 = .ok (.ishr, 1) := by decide +kernel
theorem dJx4a65c_grow_92f84_27 : decode cJx4a65c_grow_92f84 27 = .ok (.invokestatic 73, 3) := by decide +kernel
theorem dJx4a65c_grow_92f84_30 : decode cJx4a65c_grow_92f84 30 = .ok (.istore_n 3, 1) := by decide +kernel
theorem dJx4a65c_grow_92f84_31 : decode cJx4a65c_grow_92f84 31 = .ok (.aload_n 0, 1) := by decide +kernel
theorem dJx4a65c_grow_92f84_32 : decode cJx4a65c_grow_92f84 32 = .ok (.aload_n 0, 1) := by decide +kernel
theorem dJx4a65c_grow_92f84_33 : decode cJx4a65c_grow_92f84 33 = .ok (.getfield 9, 3) := by decide +kernel
theorem dJx4a65c_grow_92f84_36 : decode cJx4a65c_grow_92f84 36 = .ok (.iload_n 3, 1) := by decide +kernel
theorem dJx4a65c_grow_92f84_37 : decode cJx4a65c_grow_92f84 37 = .ok (.invokestatic 66, 3) := by decide +kernel
theorem dJx4a65c_grow_92f84_40 : decode cJx4a65c_grow_92f84 40 = .ok (.dup_x1, 1) := by decide +kernel
theorem dJx4a65c_grow_92f84_41 : decode cJx4a65c_grow_92f84 41 = .ok (.putfield 9, 3) := by decide +kernel
theorem dJx4a65c_grow_92f84_44 : decode cJx4a65c_grow_92f84 44 = .ok (.areturn, 1) := by decide +kernel
theorem dJx4a65c_grow_92f84_45 : decode cJx4a65c_grow_92f84 45 = .ok (.aload_n 0, 1) := by decide +kernel
theorem dJx4a65c_grow_92f84_46 : decode cJx4a65c_grow_92f84 46 = .ok (.bipush 10, 2) := by decide +kernel
theorem dJx4a65c_grow_92f84_48 : decode cJx4a65c_grow_92f84 48 = .ok (.iload_n 1, 1) := by decide +kernel
theorem dJx4a65c_grow_92f84_49 : decode cJx4a65c_grow_92f84 49 = .ok (.invokestatic 79, 3) := by decide +kernel
theorem dJx4a65c_grow_92f84_52 : decode cJx4a65c_grow_92f84 52 = .ok (.anewarray 7, 3) := by decide +kernel
theorem dJx4a65c_grow_92f84_55 : decode cJx4a65c_grow_92f84 55 = .ok (.dup_x1, 1) := by decide +kernel
theorem dJx4a65c_grow_92f84_56 : decode cJx4a65c_grow_92f84 56 = .ok (.putfield 9, 3) := by decide +kernel
theorem dJx4a65c_grow_92f84_59 : decode cJx4a65c_grow_92f84 59 = .ok (.areturn, 1) := by decide +kernel
set_option maxRecDepth 20000 in
theorem ggJx4a65c_grow_d5877_Jx4a65c_grow_92f84 : GoodIn wsJx4a65c_grow_d5877 wsJx4a65c_grow_92f84 := goodIn_r _ [6, 7, 8, 9, 10, 11, 12, 13, 14, 15, 16, 17, 18, 19, 20, 21, 22, 23, 24, 25, 26, 27, 28, 29, 30, 31, 32, 33, 34, 35, 36, 37, 38, 39, 40, 41, 42, 43, 44, 45] (by decide +kernel) (by decide +kernel)
set_option maxRecDepth 20000 in
theorem gJx4a65c_grow_d5877_Jx4a65c_grow_92f84 : GoodIn wsJx4a65c_grow_d5877 (wsV RJx4a65c 69 RJx4a65c yJx4a65c_grow_92f84 wsJx4a65c_grow_92f84) := goodIn_app (goodIn_of _ (by decide +kernel)) ggJx4a65c_grow_d5877_Jx4a65c_grow_92f84
theorem dJx4a65c_grow_d5877_0 : decode cJx4a65c_grow_d5877 0 = .ok (.aload_n 0, 1) := by decide +kernel
theorem dJx4a65c_grow_d5877_1 : decode cJx4a65c_grow_d5877 1 = .ok (.aload_n 0, 1) := by decide +kernel
theorem dJx4a65c_grow_d5877_2 : decode cJx4a65c_grow_d5877 2 = .ok (.getfield 48, 3) := by decide +kernel
theorem dJx4a65c_grow_d5877_5 : decode cJx4a65c_grow_d5877 5 = .ok (.iconst 1, 1) := by decide +kernel
theorem dJx4a65c_grow_d5877_6 : decode cJx4a65c_grow_d5877 6 = .ok (.iadd, 1) := by decide +kernel
theorem dJx4a65c_grow_d5877_7 : decode cJx4a65c_grow_d5877 7 = .ok (.invokevirtual 69, 3) := by decide +kernel
theorem dJx4a65c_grow_d5877_10 : decode cJx4a65c_grow_d5877 10 = .ok (.areturn, 1) := by decide +kernel
theorem dJx4a65c_size_8abf5_0 : decode cJx4a65c_size_8abf5 0 = .ok (.aload_n 0, 1) := by decide +kernel
theorem dJx4a65c_size_8abf5_1 : decode cJx4a65c_size_8abf5 1 = .ok (.getfield 48, 3) := by decide +kernel
theorem dJx4a65c_size_8abf5_4 : decode cJx4a65c_size_8abf5 4 = .ok (.ireturn, 1) := by decide +kernel
theorem dJx4a65c_elementData_915e3_0 : decode cJx4a65c_elementData_915e3 0 = .ok (.aload_n 0, 1) := by decide +kernel
theorem dJx4a65c_elementData_915e3_1 : decode cJx4a65c_elementData_915e3 1 = .ok (.getfield 9, 3) := by decide +kernel
theorem dJx4a65c_elementData_915e3_4 : decode cJx4a65c_elementData_915e3 4 = .ok (.iload_n 1, 1) := by decide +kernel
theorem dJx4a65c_elementData_915e3_5 : decode cJx4a65c_elementData_915e3 5 = .ok (.aaload, 1) := by decide +kernel
theorem dJx4a65c_elementData_915e3_6 : decode cJx4a65c_elementData_915e3 6 = .ok (.areturn, 1) := by decide +kernel
set_option maxRecDepth 20000 in
theorem ggJx4a65c_get_915e3_J15_checkIndex_7cf53 : GoodIn wsJx4a65c_get_915e3 wsJ15_checkIndex_7cf53 := goodIn_r _ [5, 6, 7, 8, 9] (by decide +kernel) (by decide +kernel)
set_option maxRecDepth 20000 in
theorem gJx4a65c_get_915e3_J15_checkIndex_7cf53 : GoodIn wsJx4a65c_get_915e3 (va_wsS RJx4a65c 118 yJ15_checkIndex_7cf53 wsJ15_checkIndex_7cf53) := goodIn_app (goodIn_of _ (by decide +kernel)) ggJx4a65c_get_915e3_J15_checkIndex_7cf53
set_option maxRecDepth 20000 in
theorem ggJx4a65c_get_915e3_Jx4a65c_elementData_915e3 : GoodIn wsJx4a65c_get_915e3 wsJx4a65c_elementData_915e3 := goodIn_r _ [14, 15, 16, 17, 18] (by decide +kernel) (by decide +kernel)
set_option maxRecDepth 20000 in
theorem gJx4a65c_get_915e3_Jx4a65c_elementData_915e3 : GoodIn wsJx4a65c_get_915e3 (wsV RJx4a65c 123 RJx4a65c yJx4a65c_elementData_915e3 wsJx4a65c_elementData_915e3) := goodIn_app (goodIn_of _ (by decide +kernel)) ggJx4a65c_get_915e3_Jx4a65c_elementData_915e3
theorem dJx4a65c_get_915e3_0 : decode cJx4a65c_get_915e3 0 = .ok (.iload_n 1, 1) := by decide +kernel
theorem dJx4a65c_get_915e3_1 : decode cJx4a65c_get_915e3 1 = .ok (.aload_n 0, 1) := by decide +kernel
theorem dJx4a65c_get_915e3_2 : decode cJx4a65c_get_915e3 2 = .ok (.getfield 48, 3) := by decide +kernel
theorem dJx4a65c_get_915e3_5 : decode cJx4a65c_get_915e3 5 = .ok (.invokestatic 118, 3) := by decide +kernel
theorem dJx4a65c_get_915e3_8 : decode cJx4a65c_get_915e3 8 = .ok (.pop, 1) := by decide +kernel
theorem dJx4a65c_get_915e3_9 : decode cJx4a65c_get_915e3 9 = .ok (.aload_n 0, 1) := by decide +kernel
theorem dJx4a65c_get_915e3_10 : decode cJx4a65c_get_915e3 10 = .ok (.iload_n 1, 1) := by decide +kernel
theorem dJx4a65c_get_915e3_11 : decode cJx4a65c_get_915e3 11 = .ok (.invokevirtual 123, 3) := by decide +kernel
theorem dJx4a65c_get_915e3_14 : decode cJx4a65c_get_915e3 14 = .ok (.areturn, 1) := by decide +kernel
set_option maxRecDepth 20000 in
theorem ggJx4a65c_add_72be8_Jx4a65c_grow_d5877 : GoodIn wsJx4a65c_add_72be8 wsJx4a65c_grow_d5877 := goodIn_r _ [6, 1, 7, 8, 9, 5, 10, 11, 12, 13, 14, 15, 16, 17, 18, 19, 20, 21, 22, 23, 24, 25, 26, 27, 28, 29, 30, 31, 32, 33, 34, 35, 36, 37, 38, 39, 40, 41, 42, 43, 44, 45, 46, 47, 48, 49] (by decide +kernel) (by decide +kernel)
set_option maxRecDepth 20000 in
theorem gJx4a65c_add_72be8_Jx4a65c_grow_d5877 : GoodIn wsJx4a65c_add_72be8 (wsV RJx4a65c 129 RJx4a65c yJx4a65c_grow_d5877 wsJx4a65c_grow_d5877) := goodIn_app (goodIn_of _ (by decide +kernel)) ggJx4a65c_add_72be8_Jx4a65c_grow_d5877
theorem dJx4a65c_add_72be8_0 : decode cJx4a65c_add_72be8 0 = .ok (.iload_n 3, 1) := by decide +kernel
theorem dJx4a65c_add_72be8_1 : decode cJx4a65c_add_72be8 1 = .ok (.aload_n 2, 1) := by decide +kernel
theorem dJx4a65c_add_72be8_2 : decode cJx4a65c_add_72be8 2 = .ok (.arraylength, 1) := by decide +kernel
theorem dJx4a65c_add_72be8_3 : decode cJx4a65c_add_72be8 3 = .ok (.if_icmp .ne 8, 3) := by decide +kernel
theorem dJx4a65c_add_72be8_6 : decode cJx4a65c_add_72be8 6 = .ok (.aload_n 0, 1) := by decide +kernel
theorem dJx4a65c_add_72be8_7 : decode cJx4a65c_add_72be8 7 = .ok (.invokevirtual 129, 3) := by decide +kernel
theorem dJx4a65c_add_72be8_10 : decode cJx4a65c_add_72be8 10 = .ok (.astore_n 2, 1) := by decide +kernel
theorem dJx4a65c_add_72be8_11 : decode cJx4a65c_add_72be8 11 = .ok (.aload_n 2, 1) := by decide +kernel
theorem dJx4a65c_add_72be8_12 : decode cJx4a65c_add_72be8 12 = .ok (.iload_n 3, 1) := by decide +kernel
theorem dJx4a65c_add_72be8_13 : decode cJx4a65c_add_72be8 13 = .ok (.aload_n 1, 1) := by decide +kernel
theorem dJx4a65c_add_72be8_14 : decode cJx4a65c_add_72be8 14 = .ok (.aastore, 1) := by decide +kernel
theorem dJx4a65c_add_72be8_15 : decode cJx4a65c_add_72be8 15 = .ok (.aload_n 0, 1) := by decide +kernel
theorem dJx4a65c_add_72be8_16 : decode cJx4a65c_add_72be8 16 = .ok (.iload_n 3, 1) := by decide +kernel
theorem dJx4a65c_add_72be8_17 : decode cJx4a65c_add_72be8 17 = .ok (.iconst 1, 1) := by decide +kernel
theorem dJx4a65c_add_72be8_18 : decode cJx4a65c_add_72be8 18 = .ok (.iadd, 1) := by decide +kernel
theorem dJx4a65c_add_72be8_19 : decode cJx4a65c_add_72be8 19 = .ok (.putfield 48, 3) := by decide +kernel
theorem dJx4a65c_add_72be8_22 : decode cJx4a65c_add_72be8 22 = .ok (.return_, 1) := by decide +kernel
set_option maxRecDepth 20000 in
theorem ggJx4a65c_add_9ea2d_Jx4a65c_add_72be8 : GoodIn wsJx4a65c_add_9ea2d wsJx4a65c_add_72be8 := goodIn_r _ [9, 4, 10, 11, 12, 8, 13, 14, 15, 16, 17, 3, 18, 19, 20, 21, 22, 23, 24, 25, 26, 27, 28, 29, 30, 31, 32, 33, 34, 35, 36, 37, 38, 39, 40, 41, 42, 43, 44, 45, 46, 47, 48, 49, 50, 51, 52, 53, 54, 55] (by decide +kernel) (by decide +kernel)
set_option maxRecDepth 20000 in
theorem gJx4a65c_add_9ea2d_Jx4a65c_add_72be8 : GoodIn wsJx4a65c_add_9ea2d (wsV RJx4a65c 131 RJx4a65c yJx4a65c_add_72be8 wsJx4a65c_add_72be8) := goodIn_app (goodIn_of _ (by decide +kernel)) ggJx4a65c_add_9ea2d_Jx4a65c_add_72be8
theorem dJx4a65c_add_9ea2d_0 : decode cJx4a65c_add_9ea2d 0 = .ok (.aload_n 0, 1) := by decide +kernel
theorem dJx4a65c_add_9ea2d_1 : decode cJx4a65c_add_9ea2d 1 = .ok (.dup, 1) := by decide +kernel
theorem dJx4a65c_add_9ea2d_2 : decode cJx4a65c_add_9ea2d 2 = .ok (.getfield 63, 3) := by decide +kernel
theorem dJx4a65c_add_9ea2d_5 : decode cJx4a65c_add_9ea2d 5 = .ok (.iconst 1, 1) := by decide +kernel
theorem dJx4a65c_add_9ea2d_6 : decode cJx4a65c_add_9ea2d 6 = .ok (.iadd, 1) := by decide +kernel
theorem dJx4a65c_add_9ea2d_7 : decode cJx4a65c_add_9ea2d 7 = .ok (.putfield 63, 3) := by decide +kernel
theorem dJx4a65c_add_9ea2d_10 : decode cJx4a65c_add_9ea2d 10 = .ok (.aload_n 0, 1) := by decide +kernel
theorem dJx4a65c_add_9ea2d_11 : decode cJx4a65c_add_9ea2d 11 = .ok (.aload_n 1, 1) := by decide +kernel
theorem dJx4a65c_add_9ea2d_12 : decode cJx4a65c_add_9ea2d 12 = .ok (.aload_n 0, 1) := by decide +kernel
theorem dJx4a65c_add_9ea2d_13 : decode cJx4a65c_add_9ea2d 13 = .ok (.getfield 9, 3) := by decide +kernel
theorem dJx4a65c_add_9ea2d_16 : decode cJx4a65c_add_9ea2d 16 = .ok (.aload_n 0, 1) := by decide +kernel
theorem dJx4a65c_add_9ea2d_17 : decode cJx4a65c_add_9ea2d 17 = .ok (.getfield 48, 3) := by decide +kernel
theorem dJx4a65c_add_9ea2d_20 : decode cJx4a65c_add_9ea2d 20 = .ok (.invokevirtual 131, 3) := by decide +kernel
theorem dJx4a65c_add_9ea2d_23 : decode cJx4a65c_add_9ea2d 23 = .ok (.iconst 1, 1) := by decide +kernel
theorem dJx4a65c_add_9ea2d_24 : decode cJx4a65c_add_9ea2d 24 = .ok (.ireturn, 1) := by decide +kernel
set_option maxRecDepth 20000 in
theorem ggJ7_copyOf_1904c_J7_copyOf_6403c : GoodIn wsJ7_copyOf_1904c wsJ7_copyOf_6403c := goodIn_r _ [8, 9, 10, 11, 12, 13, 14, 15, 16, 17, 18] (by decide +kernel) (by decide +kernel)
set_option maxRecDepth 20000 in
theorem gJ7_copyOf_1904c_J7_copyOf_6403c : GoodIn wsJ7_copyOf_1904c (va_wsS RJ7 300 yJ7_copyOf_6403c wsJ7_copyOf_6403c) := goodIn_app (goodIn_of _ (by decide +kernel)) ggJ7_copyOf_1904c_J7_copyOf_6403c
theorem dJ7_copyOf_1904c_0 : decode cJ7_copyOf_1904c 0 = .ok (.aload_n 0, 1) := by decide +kernel
theorem dJ7_copyOf_1904c_1 : decode cJ7_copyOf_1904c 1 = .ok (.iload_n 1, 1) := by decide +kernel
theorem dJ7_copyOf_1904c_2 : decode cJ7_copyOf_1904c 2 = .ok (.aload_n 0, 1) := by decide +kernel
theorem dJ7_copyOf_1904c_3 : decode cJ7_copyOf_1904c 3 = .ok (.invokevirtual 86, 3) := by decide +kernel
theorem dJ7_copyOf_1904c_6 : decode cJ7_copyOf_1904c 6 = .ok (.invokestatic 300, 3) := by decide +kernel
theorem dJ7_copyOf_1904c_9 : decode cJ7_copyOf_1904c 9 = .ok (.areturn, 1) := by decide +kernel
theorem dJ7_copyOf_6403c_0 : decode cJ7_copyOf_6403c 0 = .ok (.aload_n 2, 1) := by decide +kernel
theorem dJ7_copyOf_6403c_1 : decode cJ7_copyOf_6403c 1 = .ok (.ldc 110, 2) := by decide +kernel
theorem dJ7_copyOf_6403c_3 : decode cJ7_copyOf_6403c 3 = .ok (.if_acmp .ne 10, 3) := by decide +kernel
theorem dJ7_copyOf_6403c_6 : decode cJ7_copyOf_6403c 6 = .ok (.iload_n 1, 1) := by decide +kernel
theorem dJ7_copyOf_6403c_7 : decode cJ7_copyOf_6403c 7 = .ok (.anewarray 2, 3) := by decide +kernel
theorem dJ7_copyOf_6403c_10 : decode cJ7_copyOf_6403c 10 = .ok (.goto 14, 3) := by decide +kernel
theorem dJ7_copyOf_6403c_13 : decode cJ7_copyOf_6403c 13 = .ok (.aload_n 2, 1) := by decide +kernel
theorem dJ7_copyOf_6403c_14 : decode cJ7_copyOf_6403c 14 = .ok (.invokevirtual 90, 3) := by decide +kernel
theorem dJ7_copyOf_6403c_17 : decode cJ7_copyOf_6403c 17 = .ok (.iload_n 1, 1) := by decide +kernel
theorem dJ7_copyOf_6403c_18 : decode cJ7_copyOf_6403c 18 = .ok (.invokestatic 95, 3) := by decide +kernel
theorem dJ7_copyOf_6403c_21 : decode cJ7_copyOf_6403c 21 = .ok (.checkcast 110, 3) := by decide +kernel
theorem dJ7_copyOf_6403c_24 : decode cJ7_copyOf_6403c 24 = .ok (.astore_n 3, 1) := by decide +kernel
theorem dJ7_copyOf_6403c_25 : decode cJ7_copyOf_6403c 25 = .ok (.aload_n 0, 1) := by decide +kernel
theorem dJ7_copyOf_6403c_26 : decode cJ7_copyOf_6403c 26 = .ok (.iconst 0, 1) := by decide +kernel
theorem dJ7_copyOf_6403c_27 : decode cJ7_copyOf_6403c 27 = .ok (.aload_n 3, 1) := by decide +kernel
theorem dJ7_copyOf_6403c_28 : decode cJ7_copyOf_6403c 28 = .ok (.iconst 0, 1) := by decide +kernel
theorem dJ7_copyOf_6403c_29 : decode cJ7_copyOf_6403c 29 = .ok (.aload_n 0, 1) := by decide +kernel
theorem dJ7_copyOf_6403c_30 : decode cJ7_copyOf_6403c 30 = .ok (.arraylength, 1) := by decide +kernel
theorem dJ7_copyOf_6403c_31 : decode cJ7_copyOf_6403c 31 = .ok (.iload_n 1, 1) := by decide +kernel
theorem dJ7_copyOf_6403c_32 : decode cJ7_copyOf_6403c 32 = .ok (.invokestatic 304, 3) := by decide +kernel
theorem dJ7_copyOf_6403c_35 : decode cJ7_copyOf_6403c 35 = .ok (.invokestatic 150, 3) := by decide +kernel
theorem dJ7_copyOf_6403c_38 : decode cJ7_copyOf_6403c 38 = .ok (.aload_n 3, 1) := by decide +kernel
theorem dJ7_copyOf_6403c_39 : decode cJ7_copyOf_6403c 39 = .ok (.areturn, 1) := by decide +kernel
set_option maxRecDepth 20000 in
theorem ggJ15_checkIndex_7cf53_J3_checkIndex_8e157 : GoodIn wsJ15_checkIndex_7cf53 wsJ3_checkIndex_8e157 := goodIn_r _ [4] (by decide +kernel) (by decide +kernel)
set_option maxRecDepth 20000 in
theorem gJ15_checkIndex_7cf53_J3_checkIndex_8e157 : GoodIn wsJ15_checkIndex_7cf53 (va_wsS RJ15 105 yJ3_checkIndex_8e157 wsJ3_checkIndex_8e157) := goodIn_app (goodIn_of _ (by decide +kernel)) ggJ15_checkIndex_7cf53_J3_checkIndex_8e157
theorem dJ15_checkIndex_7cf53_0 : decode cJ15_checkIndex_7cf53 0 = .ok (.iload_n 0, 1) := by decide +kernel
theorem dJ15_checkIndex_7cf53_1 : decode cJ15_checkIndex_7cf53 1 = .ok (.iload_n 1, 1) := by decide +kernel
theorem dJ15_checkIndex_7cf53_2 : decode cJ15_checkIndex_7cf53 2 = .ok (.aconst_null, 1) := by decide +kernel
theorem dJ15_checkIndex_7cf53_3 : decode cJ15_checkIndex_7cf53 3 = .ok (.invokestatic 105, 3) := by decide +kernel
theorem dJ15_checkIndex_7cf53_6 : decode cJ15_checkIndex_7cf53 6 = .ok (.ireturn, 1) := by decide +kernel
set_option maxRecDepth 20000 in
theorem ggJ8_newLength_cabcc_J8_hugeLength_7cf53 : GoodIn wsJ8_newLength_cabcc wsJ8_hugeLength_7cf53 := goodIn_r _ [9, 5] (by decide +kernel) (by decide +kernel)
set_option maxRecDepth 20000 in
theorem gJ8_newLength_cabcc_J8_hugeLength_7cf53 : GoodIn wsJ8_newLength_cabcc (va_wsS RJ8 201 yJ8_hugeLength_7cf53 wsJ8_hugeLength_7cf53) := goodIn_app (goodIn_of _ (by decide +kernel)) ggJ8_newLength_cabcc_J8_hugeLength_7cf53
theorem dJ8_newLength_cabcc_0 : decode cJ8_newLength_cabcc 0 = .ok (.iload_n 0, 1) := by decide +kernel
theorem dJ8_newLength_cabcc_1 : decode cJ8_newLength_cabcc 1 = .ok (.iload_n 1, 1) := by decide +kernel
theorem dJ8_newLength_cabcc_2 : decode cJ8_newLength_cabcc 2 = .ok (.iload_n 2, 1) := by decide +kernel
theorem dJ8_newLength_cabcc_3 : decode cJ8_newLength_cabcc 3 = .ok (.invokestatic 194, 3) := by decide +kernel
theorem dJ8_newLength_cabcc_6 : decode cJ8_newLength_cabcc 6 = .ok (.iadd, 1) := by decide +kernel
theorem dJ8_newLength_cabcc_7 : decode cJ8_newLength_cabcc 7 = .ok (.istore_n 3, 1) := by decide +kernel
theorem dJ8_newLength_cabcc_8 : decode cJ8_newLength_cabcc 8 = .ok (.iconst 0, 1) := by decide +kernel
theorem dJ8_newLength_cabcc_9 : decode cJ8_newLength_cabcc 9 = .ok (.iload_n 3, 1) := by decide +kernel
theorem dJ8_newLength_cabcc_10 : decode cJ8_newLength_cabcc 10 = .ok (.if_icmp .ge 11, 3) := by decide +kernel
theorem dJ8_newLength_cabcc_13 : decode cJ8_newLength_cabcc 13 = .ok (.iload_n 3, 1) := by decide +kernel
theorem dJ8_newLength_cabcc_14 : decode cJ8_newLength_cabcc 14 = .ok (.ldc 200, 2) := by decide +kernel
theorem dJ8_newLength_cabcc_16 : decode cJ8_newLength_cabcc 16 = .ok (.if_icmp .gt 5, 3) := by decide +kernel
theorem dJ8_newLength_cabcc_19 : decode cJ8_newLength_cabcc 19 = .ok (.iload_n 3, 1) := by decide +kernel
theorem dJ8_newLength_cabcc_20 : decode cJ8_newLength_cabcc 20 = .ok (.ireturn, 1) := by decide +kernel
theorem dJ8_newLength_cabcc_21 : decode cJ8_newLength_cabcc 21 = .ok (.iload_n 0, 1) := by decide +kernel
theorem dJ8_newLength_cabcc_22 : decode cJ8_newLength_cabcc 22 = .ok (.iload_n 1, 1) := by decide +kernel
theorem dJ8_newLength_cabcc_23 : decode cJ8_newLength_cabcc 23 = .ok (.invokestatic 201, 3) := by decide +kernel
theorem dJ8_newLength_cabcc_26 : decode cJ8_newLength_cabcc 26 = .ok (.ireturn, 1) := by decide +kernel
theorem dJ8_hugeLength_7cf53_0 : decode cJ8_hugeLength_7cf53 0 = .ok (.iload_n 0, 1) := by decide +kernel
theorem dJ8_hugeLength_7cf53_1 : decode cJ8_hugeLength_7cf53 1 = .ok (.iload_n 1, 1) := by decide +kernel
theorem dJ8_hugeLength_7cf53_2 : decode cJ8_hugeLength_7cf53 2 = .ok (.iadd, 1) := by decide +kernel
theorem dJ8_hugeLength_7cf53_3 : decode cJ8_hugeLength_7cf53 3 = .ok (.istore_n 2, 1) := by decide +kernel
theorem dJ8_hugeLength_7cf53_4 : decode cJ8_hugeLength_7cf53 4 = .ok (.iload_n 2, 1) := by decide +kernel
theorem dJ8_hugeLength_7cf53_5 : decode cJ8_hugeLength_7cf53 5 = .ok (.ifCond .ge 44, 3) := by decide +kernel
theorem dJ8_hugeLength_7cf53_8 : decode cJ8_hugeLength_7cf53 8 = .ok (.new 204, 3) := by decide +kernel
theorem dJ8_hugeLength_7cf53_11 : decode cJ8_hugeLength_7cf53 11 = .ok (.dup, 1) := by decide +kernel
theorem dJ8_hugeLength_7cf53_12 : decode cJ8_hugeLength_7cf53 12 = .ok (.new 89, 3) := by decide +kernel
theorem dJ8_hugeLength_7cf53_15 : decode cJ8_hugeLength_7cf53 15 = .ok (.dup, 1) := by decide +kernel
theorem dJ8_hugeLength_7cf53_16 : decode cJ8_hugeLength_7cf53 16 = .ok (.invokespecial 91, 3) := by decide +kernel
theorem dJ8_hugeLength_7cf53_19 : decode cJ8_hugeLength_7cf53 19 = .ok (.ldc 206, 2) := by decide +kernel
theorem dJ8_hugeLength_7cf53_21 : decode cJ8_hugeLength_7cf53 21 = .ok (.invokevirtual 94, 3) := by decide +kernel
theorem dJ8_hugeLength_7cf53_24 : decode cJ8_hugeLength_7cf53 24 = .ok (.iload_n 0, 1) := by decide +kernel
theorem dJ8_hugeLength_7cf53_25 : decode cJ8_hugeLength_7cf53 25 = .ok (.invokevirtual 98, 3) := by decide +kernel
theorem dJ8_hugeLength_7cf53_28 : decode cJ8_hugeLength_7cf53 28 = .ok (.ldc 208, 2) := by decide +kernel
theorem dJ8_hugeLength_7cf53_30 : decode cJ8_hugeLength_7cf53 30 = .ok (.invokevirtual 94, 3) := by decide +kernel
theorem dJ8_hugeLength_7cf53_33 : decode cJ8_hugeLength_7cf53 33 = .ok (.iload_n 1, 1) := by decide +kernel
theorem dJ8_hugeLength_7cf53_34 : decode cJ8_hugeLength_7cf53 34 = .ok (.invokevirtual 98, 3) := by decide +kernel
theorem dJ8_hugeLength_7cf53_37 : decode cJ8_hugeLength_7cf53 37 = .ok (.ldc 210, 2) := by decide +kernel
theorem dJ8_hugeLength_7cf53_39 : decode cJ8_hugeLength_7cf53 39 = .ok (.invokevirtual 94, 3) := by decide +kernel
theorem dJ8_hugeLength_7cf53_42 : decode cJ8_hugeLength_7cf53 42 = .ok (.invokevirtual 101, 3) := by decide +kernel
theorem dJ8_hugeLength_7cf53_45 : decode cJ8_hugeLength_7cf53 45 = .ok (.invokespecial 212, 3) := by decide +kernel
theorem dJ8_hugeLength_7cf53_48 : decode cJ8_hugeLength_7cf53 48 = .ok (.athrow, 1) := by decide +kernel
theorem dJ8_hugeLength_7cf53_49 : decode cJ8_hugeLength_7cf53 49 = .ok (.iload_n 2, 1) := by decide +kernel
theorem dJ8_hugeLength_7cf53_50 : decode cJ8_hugeLength_7cf53 50 = .ok (.ldc 200, 2) := by decide +kernel
theorem dJ8_hugeLength_7cf53_52 : decode cJ8_hugeLength_7cf53 52 = .ok (.if_icmp .gt 6, 3) := by decide +kernel
theorem dJ8_hugeLength_7cf53_55 : decode cJ8_hugeLength_7cf53 55 = .ok (.ldc 200, 2) := by decide +kernel
theorem dJ8_hugeLength_7cf53_57 : decode cJ8_hugeLength_7cf53 57 = .ok (.ireturn, 1) := by decide +kernel
theorem dJ8_hugeLength_7cf53_58 : decode cJ8_hugeLength_7cf53 58 = .ok (.iload_n 2, 1) := by decide +kernel
theorem dJ8_hugeLength_7cf53_59 : decode cJ8_hugeLength_7cf53 59 = .ok (.ireturn, 1) := by decide +kernel
theorem dJ3_checkIndex_8e157_0 : decode cJ3_checkIndex_8e157 0 = .ok (.iload_n 0, 1) := by decide +kernel
theorem dJ3_checkIndex_8e157_1 : decode cJ3_checkIndex_8e157 1 = .ok (.ifCond .lt 8, 3) := by decide +kernel
theorem dJ3_checkIndex_8e157_4 : decode cJ3_checkIndex_8e157 4 = .ok (.iload_n 0, 1) := by decide +kernel
theorem dJ3_checkIndex_8e157_5 : decode cJ3_checkIndex_8e157 5 = .ok (.iload_n 1, 1) := by decide +kernel
theorem dJ3_checkIndex_8e157_6 : decode cJ3_checkIndex_8e157 6 = .ok (.if_icmp .lt 10, 3) := by decide +kernel
theorem dJ3_checkIndex_8e157_9 : decode cJ3_checkIndex_8e157 9 = .ok (.aload_n 2, 1) := by decide +kernel
theorem dJ3_checkIndex_8e157_10 : decode cJ3_checkIndex_8e157 10 = .ok (.iload_n 0, 1) := by decide +kernel
theorem dJ3_checkIndex_8e157_11 : decode cJ3_checkIndex_8e157 11 = .ok (.iload_n 1, 1) := by decide +kernel
theorem dJ3_checkIndex_8e157_12 : decode cJ3_checkIndex_8e157 12 = .ok (.invokestatic 95, 3) := by decide +kernel
theorem dJ3_checkIndex_8e157_15 : decode cJ3_checkIndex_8e157 15 = .ok (.athrow, 1) := by decide +kernel
theorem dJ3_checkIndex_8e157_16 : decode cJ3_checkIndex_8e157 16 = .ok (.iload_n 0, 1) := by decide +kernel
theorem dJ3_checkIndex_8e157_17 : decode cJ3_checkIndex_8e157 17 = .ok (.ireturn, 1) := by decide +kernel
theorem dL_late_0 : decode cL_late 0 = .ok (.iload_n 0, 1) := by decide +kernel
theorem dL_late_1 : decode cL_late 1 = .ok (.sipush 1440, 3) := by decide +kernel
theorem dL_late_4 : decode cL_late 4 = .ok (.idiv, 1) := by decide +kernel
theorem dL_late_5 : decode cL_late 5 = .ok (.iload_n 1, 1) := by decide +kernel
theorem dL_late_6 : decode cL_late 6 = .ok (.iadd, 1) := by decide +kernel
theorem dL_late_7 : decode cL_late 7 = .ok (.sipush 364, 3) := by decide +kernel
theorem dL_late_10 : decode cL_late 10 = .ok (.irem, 1) := by decide +kernel
theorem dL_late_11 : decode cL_late 11 = .ok (.istore_n 2, 1) := by decide +kernel
theorem dL_late_12 : decode cL_late 12 = .ok (.bipush 8, 2) := by decide +kernel
theorem dL_late_14 : decode cL_late 14 = .ok (.bipush 8, 2) := by decide +kernel
theorem dL_late_16 : decode cL_late 16 = .ok (.iload_n 2, 1) := by decide +kernel
theorem dL_late_17 : decode cL_late 17 = .ok (.sipush 182, 3) := by decide +kernel
theorem dL_late_20 : decode cL_late 20 = .ok (.if_icmp .le 11, 3) := by decide +kernel
theorem dL_late_23 : decode cL_late 23 = .ok (.sipush 364, 3) := by decide +kernel
theorem dL_late_26 : decode cL_late 26 = .ok (.iload_n 2, 1) := by decide +kernel
theorem dL_late_27 : decode cL_late 27 = .ok (.isub, 1) := by decide +kernel
theorem dL_late_28 : decode cL_late 28 = .ok (.goto 4, 3) := by decide +kernel
theorem dL_late_31 : decode cL_late 31 = .ok (.iload_n 2, 1) := by decide +kernel
theorem dL_late_32 : decode cL_late 32 = .ok (.imul, 1) := by decide +kernel
theorem dL_late_33 : decode cL_late 33 = .ok (.bipush 91, 2) := by decide +kernel
theorem dL_late_35 : decode cL_late 35 = .ok (.idiv, 1) := by decide +kernel
theorem dL_late_36 : decode cL_late 36 = .ok (.isub, 1) := by decide +kernel
theorem dL_late_37 : decode cL_late 37 = .ok (.ireturn, 1) := by decide +kernel
theorem dL_down_0 : decode cL_down 0 = .ok (.iload_n 0, 1) := by decide +kernel
theorem dL_down_1 : decode cL_down 1 = .ok (.iload_n 1, 1) := by decide +kernel
theorem dL_down_2 : decode cL_down 2 = .ok (.idiv, 1) := by decide +kernel
theorem dL_down_3 : decode cL_down 3 = .ok (.istore_n 2, 1) := by decide +kernel
theorem dL_down_4 : decode cL_down 4 = .ok (.iload_n 2, 1) := by decide +kernel
theorem dL_down_5 : decode cL_down 5 = .ok (.iload_n 1, 1) := by decide +kernel
theorem dL_down_6 : decode cL_down 6 = .ok (.imul, 1) := by decide +kernel
theorem dL_down_7 : decode cL_down 7 = .ok (.iload_n 0, 1) := by decide +kernel
theorem dL_down_8 : decode cL_down 8 = .ok (.if_icmp .le 9, 3) := by decide +kernel
theorem dL_down_11 : decode cL_down 11 = .ok (.iload_n 2, 1) := by decide +kernel
theorem dL_down_12 : decode cL_down 12 = .ok (.iconst 1, 1) := by decide +kernel
theorem dL_down_13 : decode cL_down 13 = .ok (.isub, 1) := by decide +kernel
theorem dL_down_14 : decode cL_down 14 = .ok (.goto 4, 3) := by decide +kernel
theorem dL_down_17 : decode cL_down 17 = .ok (.iload_n 2, 1) := by decide +kernel
theorem dL_down_18 : decode cL_down 18 = .ok (.ireturn, 1) := by decide +kernel
set_option maxRecDepth 20000 in
theorem ggL_raw_L_down : GoodIn wsL_raw wsL_down := goodIn_r _ [4] (by decide +kernel) (by decide +kernel)
set_option maxRecDepth 20000 in
theorem gL_raw_L_down : GoodIn wsL_raw (va_wsS RL 7 yL_down wsL_down) := goodIn_app (goodIn_of _ (by decide +kernel)) ggL_raw_L_down
theorem dL_raw_0 : decode cL_raw 0 = .ok (.aload_n 2, 1) := by decide +kernel
theorem dL_raw_1 : decode cL_raw 1 = .ok (.iload 5, 2) := by decide +kernel
theorem dL_raw_3 : decode cL_raw 3 = .ok (.iaload, 1) := by decide +kernel
theorem dL_raw_4 : decode cL_raw 4 = .ok (.bipush 8, 2) := by decide +kernel
theorem dL_raw_6 : decode cL_raw 6 = .ok (.idiv, 1) := by decide +kernel
theorem dL_raw_7 : decode cL_raw 7 = .ok (.bipush 8, 2) := by decide +kernel
theorem dL_raw_9 : decode cL_raw 9 = .ok (.irem, 1) := by decide +kernel
theorem dL_raw_10 : decode cL_raw 10 = .ok (.istore 6, 2) := by decide +kernel
theorem dL_raw_12 : decode cL_raw 12 = .ok (.aload_n 2, 1) := by decide +kernel
theorem dL_raw_13 : decode cL_raw 13 = .ok (.iload 5, 2) := by decide +kernel
theorem dL_raw_15 : decode cL_raw 15 = .ok (.iaload, 1) := by decide +kernel
theorem dL_raw_16 : decode cL_raw 16 = .ok (.iconst 2, 1) := by decide +kernel
theorem dL_raw_17 : decode cL_raw 17 = .ok (.irem, 1) := by decide +kernel
theorem dL_raw_18 : decode cL_raw 18 = .ok (.iconst 1, 1) := by decide +kernel
theorem dL_raw_19 : decode cL_raw 19 = .ok (.if_icmp .ne 29, 3) := by decide +kernel
theorem dL_raw_22 : decode cL_raw 22 = .ok (.aload_n 1, 1) := by decide +kernel
theorem dL_raw_23 : decode cL_raw 23 = .ok (.iconst 3, 1) := by decide +kernel
theorem dL_raw_24 : decode cL_raw 24 = .ok (.iload 6, 2) := by decide +kernel
theorem dL_raw_26 : decode cL_raw 26 = .ok (.imul, 1) := by decide +kernel
theorem dL_raw_27 : decode cL_raw 27 = .ok (.iconst 1, 1) := by decide +kernel
theorem dL_raw_28 : decode cL_raw 28 = .ok (.iadd, 1) := by decide +kernel
theorem dL_raw_29 : decode cL_raw 29 = .ok (.iaload, 1) := by decide +kernel
theorem dL_raw_30 : decode cL_raw 30 = .ok (.aload_n 3, 1) := by decide +kernel
theorem dL_raw_31 : decode cL_raw 31 = .ok (.iload 5, 2) := by decide +kernel
theorem dL_raw_33 : decode cL_raw 33 = .ok (.iaload, 1) := by decide +kernel
theorem dL_raw_34 : decode cL_raw 34 = .ok (.aload_n 1, 1) := by decide +kernel
theorem dL_raw_35 : decode cL_raw 35 = .ok (.iconst 3, 1) := by decide +kernel
theorem dL_raw_36 : decode cL_raw 36 = .ok (.iload 6, 2) := by decide +kernel
theorem dL_raw_38 : decode cL_raw 38 = .ok (.imul, 1) := by decide +kernel
theorem dL_raw_39 : decode cL_raw 39 = .ok (.iconst 2, 1) := by decide +kernel
theorem dL_raw_40 : decode cL_raw 40 = .ok (.iadd, 1) := by decide +kernel
theorem dL_raw_41 : decode cL_raw 41 = .ok (.iaload, 1) := by decide +kernel
theorem dL_raw_42 : decode cL_raw 42 = .ok (.imul, 1) := by decide +kernel
theorem dL_raw_43 : decode cL_raw 43 = .ok (.bipush 10, 2) := by decide +kernel
theorem dL_raw_45 : decode cL_raw 45 = .ok (.idiv, 1) := by decide +kernel
theorem dL_raw_46 : decode cL_raw 46 = .ok (.isub, 1) := by decide +kernel
theorem dL_raw_47 : decode cL_raw 47 = .ok (.ireturn, 1) := by decide +kernel
theorem dL_raw_48 : decode cL_raw 48 = .ok (.aload_n 0, 1) := by decide +kernel
theorem dL_raw_49 : decode cL_raw 49 = .ok (.aload 4, 2) := by decide +kernel
theorem dL_raw_51 : decode cL_raw 51 = .ok (.iload 5, 2) := by decide +kernel
theorem dL_raw_53 : decode cL_raw 53 = .ok (.iaload, 1) := by decide +kernel
theorem dL_raw_54 : decode cL_raw 54 = .ok (.bipush 10, 2) := by decide +kernel
theorem dL_raw_56 : decode cL_raw 56 = .ok (.irem, 1) := by decide +kernel
theorem dL_raw_57 : decode cL_raw 57 = .ok (.iaload, 1) := by decide +kernel
theorem dL_raw_58 : decode cL_raw 58 = .ok (.istore 7, 2) := by decide +kernel
theorem dL_raw_60 : decode cL_raw 60 = .ok (.aload_n 0, 1) := by decide +kernel
theorem dL_raw_61 : decode cL_raw 61 = .ok (.aload 4, 2) := by decide +kernel
theorem dL_raw_63 : decode cL_raw 63 = .ok (.iload 5, 2) := by decide +kernel
theorem dL_raw_65 : decode cL_raw 65 = .ok (.iaload, 1) := by decide +kernel
theorem dL_raw_66 : decode cL_raw 66 = .ok (.sipush 1000, 3) := by decide +kernel
theorem dL_raw_69 : decode cL_raw 69 = .ok (.idiv, 1) := by decide +kernel
theorem dL_raw_70 : decode cL_raw 70 = .ok (.iaload, 1) := by decide +kernel
theorem dL_raw_71 : decode cL_raw 71 = .ok (.iload 7, 2) := by decide +kernel
theorem dL_raw_73 : decode cL_raw 73 = .ok (.isub, 1) := by decide +kernel
theorem dL_raw_74 : decode cL_raw 74 = .ok (.istore 8, 2) := by decide +kernel
theorem dL_raw_76 : decode cL_raw 76 = .ok (.aload 4, 2) := by decide +kernel
theorem dL_raw_78 : decode cL_raw 78 = .ok (.iload 5, 2) := by decide +kernel
theorem dL_raw_80 : decode cL_raw 80 = .ok (.iaload, 1) := by decide +kernel
theorem dL_raw_81 : decode cL_raw 81 = .ok (.bipush 10, 2) := by decide +kernel
theorem dL_raw_83 : decode cL_raw 83 = .ok (.idiv, 1) := by decide +kernel
theorem dL_raw_84 : decode cL_raw 84 = .ok (.bipush 10, 2) := by decide +kernel
theorem dL_raw_86 : decode cL_raw 86 = .ok (.irem, 1) := by decide +kernel
theorem dL_raw_87 : decode cL_raw 87 = .ok (.istore 9, 2) := by decide +kernel
theorem dL_raw_89 : decode cL_raw 89 = .ok (.iload 7, 2) := by decide +kernel
theorem dL_raw_91 : decode cL_raw 91 = .ok (.iload 8, 2) := by decide +kernel
theorem dL_raw_93 : decode cL_raw 93 = .ok (.iload 9, 2) := by decide +kernel
theorem dL_raw_95 : decode cL_raw 95 = .ok (.imul, 1) := by decide +kernel
theorem dL_raw_96 : decode cL_raw 96 = .ok (.iload 9, 2) := by decide +kernel
theorem dL_raw_98 : decode cL_raw 98 = .ok (.aload 4, 2) := by decide +kernel
theorem dL_raw_100 : decode cL_raw 100 = .ok (.iload 5, 2) := by decide +kernel
theorem dL_raw_102 : decode cL_raw 102 = .ok (.iaload, 1) := by decide +kernel
theorem dL_raw_103 : decode cL_raw 103 = .ok (.bipush 100, 2) := by decide +kernel
theorem dL_raw_105 : decode cL_raw 105 = .ok (.idiv, 1) := by decide +kernel
theorem dL_raw_106 : decode cL_raw 106 = .ok (.bipush 10, 2) := by decide +kernel
theorem dL_raw_108 : decode cL_raw 108 = .ok (.irem, 1) := by decide +kernel
theorem dL_raw_109 : decode cL_raw 109 = .ok (.iadd, 1) := by decide +kernel
theorem dL_raw_110 : decode cL_raw 110 = .ok (.invokestatic 7, 3) := by decide +kernel
theorem dL_raw_113 : decode cL_raw 113 = .ok (.iadd, 1) := by decide +kernel
theorem dL_raw_114 : decode cL_raw 114 = .ok (.ireturn, 1) := by decide +kernel
set_option maxRecDepth 20000 in
theorem ggL_light_L_raw : GoodIn wsL_light wsL_raw := goodIn_r _ [4, 5, 6, 3, 7] (by decide +kernel) (by decide +kernel)
set_option maxRecDepth 20000 in
theorem gL_light_L_raw : GoodIn wsL_light (va_wsS RL 13 yL_raw wsL_raw) := goodIn_app (goodIn_of _ (by decide +kernel)) ggL_light_L_raw
theorem dL_light_0 : decode cL_light 0 = .ok (.aload_n 0, 1) := by decide +kernel
theorem dL_light_1 : decode cL_light 1 = .ok (.aload_n 2, 1) := by decide +kernel
theorem dL_light_2 : decode cL_light 2 = .ok (.aload_n 3, 1) := by decide +kernel
theorem dL_light_3 : decode cL_light 3 = .ok (.aload 4, 2) := by decide +kernel
theorem dL_light_5 : decode cL_light 5 = .ok (.aload 5, 2) := by decide +kernel
theorem dL_light_7 : decode cL_light 7 = .ok (.iload 6, 2) := by decide +kernel
theorem dL_light_9 : decode cL_light 9 = .ok (.invokestatic 13, 3) := by decide +kernel
theorem dL_light_12 : decode cL_light 12 = .ok (.aload_n 3, 1) := by decide +kernel
theorem dL_light_13 : decode cL_light 13 = .ok (.iload 6, 2) := by decide +kernel
theorem dL_light_15 : decode cL_light 15 = .ok (.iaload, 1) := by decide +kernel
theorem dL_light_16 : decode cL_light 16 = .ok (.iconst 2, 1) := by decide +kernel
theorem dL_light_17 : decode cL_light 17 = .ok (.irem, 1) := by decide +kernel
theorem dL_light_18 : decode cL_light 18 = .ok (.iconst 1, 1) := by decide +kernel
theorem dL_light_19 : decode cL_light 19 = .ok (.if_icmp .ne 7, 3) := by decide +kernel
theorem dL_light_22 : decode cL_light 22 = .ok (.iconst 0, 1) := by decide +kernel
theorem dL_light_23 : decode cL_light 23 = .ok (.goto 15, 3) := by decide +kernel
theorem dL_light_26 : decode cL_light 26 = .ok (.aload_n 1, 1) := by decide +kernel
theorem dL_light_27 : decode cL_light 27 = .ok (.aload_n 3, 1) := by decide +kernel
theorem dL_light_28 : decode cL_light 28 = .ok (.iload 6, 2) := by decide +kernel
theorem dL_light_30 : decode cL_light 30 = .ok (.iaload, 1) := by decide +kernel
theorem dL_light_31 : decode cL_light 31 = .ok (.bipush 8, 2) := by decide +kernel
theorem dL_light_33 : decode cL_light 33 = .ok (.idiv, 1) := by decide +kernel
theorem dL_light_34 : decode cL_light 34 = .ok (.bipush 8, 2) := by decide +kernel
theorem dL_light_36 : decode cL_light 36 = .ok (.irem, 1) := by decide +kernel
theorem dL_light_37 : decode cL_light 37 = .ok (.iaload, 1) := by decide +kernel
theorem dL_light_38 : decode cL_light 38 = .ok (.isub, 1) := by decide +kernel
theorem dL_light_39 : decode cL_light 39 = .ok (.ireturn, 1) := by decide +kernel
set_option maxRecDepth 20000 in
theorem ggL_time_L_late : GoodIn wsL_time wsL_late := goodIn_r _ [4] (by decide +kernel) (by decide +kernel)
set_option maxRecDepth 20000 in
theorem gL_time_L_late : GoodIn wsL_time (va_wsS RL 17 yL_late wsL_late) := goodIn_app (goodIn_of _ (by decide +kernel)) ggL_time_L_late
theorem dL_time_0 : decode cL_time 0 = .ok (.aload_n 3, 1) := by decide +kernel
theorem dL_time_1 : decode cL_time 1 = .ok (.iload 5, 2) := by decide +kernel
theorem dL_time_3 : decode cL_time 3 = .ok (.iaload, 1) := by decide +kernel
theorem dL_time_4 : decode cL_time 4 = .ok (.bipush 8, 2) := by decide +kernel
theorem dL_time_6 : decode cL_time 6 = .ok (.idiv, 1) := by decide +kernel
theorem dL_time_7 : decode cL_time 7 = .ok (.bipush 8, 2) := by decide +kernel
theorem dL_time_9 : decode cL_time 9 = .ok (.irem, 1) := by decide +kernel
theorem dL_time_10 : decode cL_time 10 = .ok (.istore 6, 2) := by decide +kernel
theorem dL_time_12 : decode cL_time 12 = .ok (.aload_n 3, 1) := by decide +kernel
theorem dL_time_13 : decode cL_time 13 = .ok (.iload 5, 2) := by decide +kernel
theorem dL_time_15 : decode cL_time 15 = .ok (.iaload, 1) := by decide +kernel
theorem dL_time_16 : decode cL_time 16 = .ok (.iconst 2, 1) := by decide +kernel
theorem dL_time_17 : decode cL_time 17 = .ok (.irem, 1) := by decide +kernel
theorem dL_time_18 : decode cL_time 18 = .ok (.iconst 1, 1) := by decide +kernel
theorem dL_time_19 : decode cL_time 19 = .ok (.if_icmp .ne 12, 3) := by decide +kernel
theorem dL_time_22 : decode cL_time 22 = .ok (.aload_n 2, 1) := by decide +kernel
theorem dL_time_23 : decode cL_time 23 = .ok (.iconst 3, 1) := by decide +kernel
theorem dL_time_24 : decode cL_time 24 = .ok (.iload 6, 2) := by decide +kernel
theorem dL_time_26 : decode cL_time 26 = .ok (.imul, 1) := by decide +kernel
theorem dL_time_27 : decode cL_time 27 = .ok (.iaload, 1) := by decide +kernel
theorem dL_time_28 : decode cL_time 28 = .ok (.goto 8, 3) := by decide +kernel
theorem dL_time_31 : decode cL_time 31 = .ok (.aload 4, 2) := by decide +kernel
theorem dL_time_33 : decode cL_time 33 = .ok (.iload 5, 2) := by decide +kernel
theorem dL_time_35 : decode cL_time 35 = .ok (.iaload, 1) := by decide +kernel
theorem dL_time_36 : decode cL_time 36 = .ok (.istore 7, 2) := by decide +kernel
theorem dL_time_38 : decode cL_time 38 = .ok (.iload 7, 2) := by decide +kernel
theorem dL_time_40 : decode cL_time 40 = .ok (.iload 7, 2) := by decide +kernel
theorem dL_time_42 : decode cL_time 42 = .ok (.aload_n 1, 1) := by decide +kernel
theorem dL_time_43 : decode cL_time 43 = .ok (.iconst 4, 1) := by decide +kernel
theorem dL_time_44 : decode cL_time 44 = .ok (.aload_n 3, 1) := by decide +kernel
theorem dL_time_45 : decode cL_time 45 = .ok (.iload 5, 2) := by decide +kernel
theorem dL_time_47 : decode cL_time 47 = .ok (.iaload, 1) := by decide +kernel
theorem dL_time_48 : decode cL_time 48 = .ok (.iconst 2, 1) := by decide +kernel
theorem dL_time_49 : decode cL_time 49 = .ok (.idiv, 1) := by decide +kernel
theorem dL_time_50 : decode cL_time 50 = .ok (.iconst 4, 1) := by decide +kernel
theorem dL_time_51 : decode cL_time 51 = .ok (.irem, 1) := by decide +kernel
theorem dL_time_52 : decode cL_time 52 = .ok (.imul, 1) := by decide +kernel
theorem dL_time_53 : decode cL_time 53 = .ok (.iaload, 1) := by decide +kernel
theorem dL_time_54 : decode cL_time 54 = .ok (.invokestatic 17, 3) := by decide +kernel
theorem dL_time_57 : decode cL_time 57 = .ok (.iadd, 1) := by decide +kernel
theorem dL_time_58 : decode cL_time 58 = .ok (.aload_n 3, 1) := by decide +kernel
theorem dL_time_59 : decode cL_time 59 = .ok (.iload 5, 2) := by decide +kernel
theorem dL_time_61 : decode cL_time 61 = .ok (.iaload, 1) := by decide +kernel
theorem dL_time_62 : decode cL_time 62 = .ok (.iconst 2, 1) := by decide +kernel
theorem dL_time_63 : decode cL_time 63 = .ok (.irem, 1) := by decide +kernel
theorem dL_time_64 : decode cL_time 64 = .ok (.iconst 1, 1) := by decide +kernel
theorem dL_time_65 : decode cL_time 65 = .ok (.if_icmp .ne 7, 3) := by decide +kernel
theorem dL_time_68 : decode cL_time 68 = .ok (.iconst 0, 1) := by decide +kernel
theorem dL_time_69 : decode cL_time 69 = .ok (.goto 7, 3) := by decide +kernel
theorem dL_time_72 : decode cL_time 72 = .ok (.aload_n 0, 1) := by decide +kernel
theorem dL_time_73 : decode cL_time 73 = .ok (.iload 6, 2) := by decide +kernel
theorem dL_time_75 : decode cL_time 75 = .ok (.iaload, 1) := by decide +kernel
theorem dL_time_76 : decode cL_time 76 = .ok (.isub, 1) := by decide +kernel
theorem dL_time_77 : decode cL_time 77 = .ok (.ireturn, 1) := by decide +kernel
theorem dL_isOf_0 : decode cL_isOf 0 = .ok (.aload_n 0, 1) := by decide +kernel
theorem dL_isOf_1 : decode cL_isOf 1 = .ok (.iload_n 2, 1) := by decide +kernel
theorem dL_isOf_2 : decode cL_isOf 2 = .ok (.iaload, 1) := by decide +kernel
theorem dL_isOf_3 : decode cL_isOf 3 = .ok (.bipush 64, 2) := by decide +kernel
theorem dL_isOf_5 : decode cL_isOf 5 = .ok (.if_icmp .ge 22, 3) := by decide +kernel
theorem dL_isOf_8 : decode cL_isOf 8 = .ok (.iload_n 1, 1) := by decide +kernel
theorem dL_isOf_9 : decode cL_isOf 9 = .ok (.aload_n 0, 1) := by decide +kernel
theorem dL_isOf_10 : decode cL_isOf 10 = .ok (.iload_n 2, 1) := by decide +kernel
theorem dL_isOf_11 : decode cL_isOf 11 = .ok (.iaload, 1) := by decide +kernel
theorem dL_isOf_12 : decode cL_isOf 12 = .ok (.iconst 2, 1) := by decide +kernel
theorem dL_isOf_13 : decode cL_isOf 13 = .ok (.idiv, 1) := by decide +kernel
theorem dL_isOf_14 : decode cL_isOf 14 = .ok (.iconst 4, 1) := by decide +kernel
theorem dL_isOf_15 : decode cL_isOf 15 = .ok (.irem, 1) := by decide +kernel
theorem dL_isOf_16 : decode cL_isOf 16 = .ok (.ishr, 1) := by decide +kernel
theorem dL_isOf_17 : decode cL_isOf 17 = .ok (.iconst 1, 1) := by decide +kernel
theorem dL_isOf_18 : decode cL_isOf 18 = .ok (.iand, 1) := by decide +kernel
theorem dL_isOf_19 : decode cL_isOf 19 = .ok (.iconst 1, 1) := by decide +kernel
theorem dL_isOf_20 : decode cL_isOf 20 = .ok (.if_icmp .ne 7, 3) := by decide +kernel
theorem dL_isOf_23 : decode cL_isOf 23 = .ok (.iconst 1, 1) := by decide +kernel
theorem dL_isOf_24 : decode cL_isOf 24 = .ok (.goto 4, 3) := by decide +kernel
theorem dL_isOf_27 : decode cL_isOf 27 = .ok (.iconst 0, 1) := by decide +kernel
theorem dL_isOf_28 : decode cL_isOf 28 = .ok (.ireturn, 1) := by decide +kernel
set_option maxRecDepth 20000 in
theorem ggL_many_L_isOf : GoodIn wsL_many wsL_isOf := goodIn_r _ [4] (by decide +kernel) (by decide +kernel)
set_option maxRecDepth 20000 in
theorem gL_many_L_isOf : GoodIn wsL_many (va_wsS RL 20 yL_isOf wsL_isOf) := goodIn_app (goodIn_of _ (by decide +kernel)) ggL_many_L_isOf
theorem dL_many_0 : decode cL_many 0 = .ok (.iconst 0, 1) := by decide +kernel
theorem dL_many_1 : decode cL_many 1 = .ok (.istore_n 3, 1) := by decide +kernel
theorem dL_many_2 : decode cL_many 2 = .ok (.iconst 0, 1) := by decide +kernel
theorem dL_many_3 : decode cL_many 3 = .ok (.istore 4, 2) := by decide +kernel
theorem dL_many_5 : decode cL_many 5 = .ok (.iload 4, 2) := by decide +kernel
theorem dL_many_7 : decode cL_many 7 = .ok (.aload_n 1, 1) := by decide +kernel
theorem dL_many_8 : decode cL_many 8 = .ok (.iconst 2, 1) := by decide +kernel
theorem dL_many_9 : decode cL_many 9 = .ok (.iaload, 1) := by decide +kernel
theorem dL_many_10 : decode cL_many 10 = .ok (.if_icmp .ge 27, 3) := by decide +kernel
theorem dL_many_13 : decode cL_many 13 = .ok (.iload_n 3, 1) := by decide +kernel
theorem dL_many_14 : decode cL_many 14 = .ok (.aload_n 0, 1) := by decide +kernel
theorem dL_many_15 : decode cL_many 15 = .ok (.iload_n 2, 1) := by decide +kernel
theorem dL_many_16 : decode cL_many 16 = .ok (.iload 4, 2) := by decide +kernel
theorem dL_many_18 : decode cL_many 18 = .ok (.invokestatic 20, 3) := by decide +kernel
theorem dL_many_21 : decode cL_many 21 = .ok (.ifCond .eq 7, 3) := by decide +kernel
theorem dL_many_24 : decode cL_many 24 = .ok (.iconst 1, 1) := by decide +kernel
theorem dL_many_25 : decode cL_many 25 = .ok (.goto 4, 3) := by decide +kernel
theorem dL_many_28 : decode cL_many 28 = .ok (.iconst 0, 1) := by decide +kernel
theorem dL_many_29 : decode cL_many 29 = .ok (.iadd, 1) := by decide +kernel
theorem dL_many_30 : decode cL_many 30 = .ok (.istore_n 3, 1) := by decide +kernel
theorem dL_many_31 : decode cL_many 31 = .ok (.iinc 4 1, 3) := by decide +kernel
theorem dL_many_34 : decode cL_many 34 = .ok (.goto (-29), 3) := by decide +kernel
theorem dL_many_37 : decode cL_many 37 = .ok (.iload_n 3, 1) := by decide +kernel
theorem dL_many_38 : decode cL_many 38 = .ok (.ireturn, 1) := by decide +kernel
set_option maxRecDepth 20000 in
theorem ggL_lays_L_light : GoodIn wsL_lays wsL_light := goodIn_r _ [4, 5, 6, 3, 7, 8, 9, 10] (by decide +kernel) (by decide +kernel)
set_option maxRecDepth 20000 in
theorem gL_lays_L_light : GoodIn wsL_lays (va_wsS RL 24 yL_light wsL_light) := goodIn_app (goodIn_of _ (by decide +kernel)) ggL_lays_L_light
set_option maxRecDepth 20000 in
theorem ggL_lays_L_time : GoodIn wsL_lays wsL_time := goodIn_r _ [13, 14, 15, 3, 16] (by decide +kernel) (by decide +kernel)
set_option maxRecDepth 20000 in
theorem gL_lays_L_time : GoodIn wsL_lays (va_wsS RL 28 yL_time wsL_time) := goodIn_app (goodIn_of _ (by decide +kernel)) ggL_lays_L_time
theorem dL_lays_0 : decode cL_lays 0 = .ok (.iconst 0, 1) := by decide +kernel
theorem dL_lays_1 : decode cL_lays 1 = .ok (.istore 11, 2) := by decide +kernel
theorem dL_lays_3 : decode cL_lays 3 = .ok (.iload 11, 2) := by decide +kernel
theorem dL_lays_5 : decode cL_lays 5 = .ok (.aload 8, 2) := by decide +kernel
theorem dL_lays_7 : decode cL_lays 7 = .ok (.iconst 2, 1) := by decide +kernel
theorem dL_lays_8 : decode cL_lays 8 = .ok (.iaload, 1) := by decide +kernel
theorem dL_lays_9 : decode cL_lays 9 = .ok (.if_icmp .ge 47, 3) := by decide +kernel
theorem dL_lays_12 : decode cL_lays 12 = .ok (.aload 9, 2) := by decide +kernel
theorem dL_lays_14 : decode cL_lays 14 = .ok (.iload 11, 2) := by decide +kernel
theorem dL_lays_16 : decode cL_lays 16 = .ok (.aload_n 0, 1) := by decide +kernel
theorem dL_lays_17 : decode cL_lays 17 = .ok (.aload_n 1, 1) := by decide +kernel
theorem dL_lays_18 : decode cL_lays 18 = .ok (.aload 4, 2) := by decide +kernel
theorem dL_lays_20 : decode cL_lays 20 = .ok (.aload 5, 2) := by decide +kernel
theorem dL_lays_22 : decode cL_lays 22 = .ok (.aload 6, 2) := by decide +kernel
theorem dL_lays_24 : decode cL_lays 24 = .ok (.aload 7, 2) := by decide +kernel
theorem dL_lays_26 : decode cL_lays 26 = .ok (.iload 11, 2) := by decide +kernel
theorem dL_lays_28 : decode cL_lays 28 = .ok (.invokestatic 24, 3) := by decide +kernel
theorem dL_lays_31 : decode cL_lays 31 = .ok (.iastore, 1) := by decide +kernel
theorem dL_lays_32 : decode cL_lays 32 = .ok (.aload 10, 2) := by decide +kernel
theorem dL_lays_34 : decode cL_lays 34 = .ok (.iload 11, 2) := by decide +kernel
theorem dL_lays_36 : decode cL_lays 36 = .ok (.aload_n 2, 1) := by decide +kernel
theorem dL_lays_37 : decode cL_lays 37 = .ok (.aload_n 3, 1) := by decide +kernel
theorem dL_lays_38 : decode cL_lays 38 = .ok (.aload 4, 2) := by decide +kernel
theorem dL_lays_40 : decode cL_lays 40 = .ok (.aload 5, 2) := by decide +kernel
theorem dL_lays_42 : decode cL_lays 42 = .ok (.aload 6, 2) := by decide +kernel
theorem dL_lays_44 : decode cL_lays 44 = .ok (.iload 11, 2) := by decide +kernel
theorem dL_lays_46 : decode cL_lays 46 = .ok (.invokestatic 28, 3) := by decide +kernel
theorem dL_lays_49 : decode cL_lays 49 = .ok (.iastore, 1) := by decide +kernel
theorem dL_lays_50 : decode cL_lays 50 = .ok (.iinc 11 1, 3) := by decide +kernel
theorem dL_lays_53 : decode cL_lays 53 = .ok (.goto (-50), 3) := by decide +kernel
theorem dL_lays_56 : decode cL_lays 56 = .ok (.return_, 1) := by decide +kernel
theorem dL_isAhead_0 : decode cL_isAhead 0 = .ok (.aload_n 0, 1) := by decide +kernel
theorem dL_isAhead_1 : decode cL_isAhead 1 = .ok (.iload_n 1, 1) := by decide +kernel
theorem dL_isAhead_2 : decode cL_isAhead 2 = .ok (.iaload, 1) := by decide +kernel
theorem dL_isAhead_3 : decode cL_isAhead 3 = .ok (.iload_n 3, 1) := by decide +kernel
theorem dL_isAhead_4 : decode cL_isAhead 4 = .ok (.irem, 1) := by decide +kernel
theorem dL_isAhead_5 : decode cL_isAhead 5 = .ok (.iload_n 3, 1) := by decide +kernel
theorem dL_isAhead_6 : decode cL_isAhead 6 = .ok (.iadd, 1) := by decide +kernel
theorem dL_isAhead_7 : decode cL_isAhead 7 = .ok (.iload_n 3, 1) := by decide +kernel
theorem dL_isAhead_8 : decode cL_isAhead 8 = .ok (.irem, 1) := by decide +kernel
theorem dL_isAhead_9 : decode cL_isAhead 9 = .ok (.istore 4, 2) := by decide +kernel
theorem dL_isAhead_11 : decode cL_isAhead 11 = .ok (.aload_n 0, 1) := by decide +kernel
theorem dL_isAhead_12 : decode cL_isAhead 12 = .ok (.iload_n 2, 1) := by decide +kernel
theorem dL_isAhead_13 : decode cL_isAhead 13 = .ok (.iaload, 1) := by decide +kernel
theorem dL_isAhead_14 : decode cL_isAhead 14 = .ok (.iload_n 3, 1) := by decide +kernel
theorem dL_isAhead_15 : decode cL_isAhead 15 = .ok (.irem, 1) := by decide +kernel
theorem dL_isAhead_16 : decode cL_isAhead 16 = .ok (.iload_n 3, 1) := by decide +kernel
theorem dL_isAhead_17 : decode cL_isAhead 17 = .ok (.iadd, 1) := by decide +kernel
theorem dL_isAhead_18 : decode cL_isAhead 18 = .ok (.iload_n 3, 1) := by decide +kernel
theorem dL_isAhead_19 : decode cL_isAhead 19 = .ok (.irem, 1) := by decide +kernel
theorem dL_isAhead_20 : decode cL_isAhead 20 = .ok (.istore 5, 2) := by decide +kernel
theorem dL_isAhead_22 : decode cL_isAhead 22 = .ok (.iload 4, 2) := by decide +kernel
theorem dL_isAhead_24 : decode cL_isAhead 24 = .ok (.iload 5, 2) := by decide +kernel
theorem dL_isAhead_26 : decode cL_isAhead 26 = .ok (.if_icmp .eq 18, 3) := by decide +kernel
theorem dL_isAhead_29 : decode cL_isAhead 29 = .ok (.iload 4, 2) := by decide +kernel
theorem dL_isAhead_31 : decode cL_isAhead 31 = .ok (.iload 5, 2) := by decide +kernel
theorem dL_isAhead_33 : decode cL_isAhead 33 = .ok (.if_icmp .ge 7, 3) := by decide +kernel
theorem dL_isAhead_36 : decode cL_isAhead 36 = .ok (.iconst 1, 1) := by decide +kernel
theorem dL_isAhead_37 : decode cL_isAhead 37 = .ok (.goto 43, 3) := by decide +kernel
theorem dL_isAhead_40 : decode cL_isAhead 40 = .ok (.iconst 0, 1) := by decide +kernel
theorem dL_isAhead_41 : decode cL_isAhead 41 = .ok (.goto 39, 3) := by decide +kernel
theorem dL_isAhead_44 : decode cL_isAhead 44 = .ok (.aload_n 0, 1) := by decide +kernel
theorem dL_isAhead_45 : decode cL_isAhead 45 = .ok (.iload_n 1, 1) := by decide +kernel
theorem dL_isAhead_46 : decode cL_isAhead 46 = .ok (.iaload, 1) := by decide +kernel
theorem dL_isAhead_47 : decode cL_isAhead 47 = .ok (.aload_n 0, 1) := by decide +kernel
theorem dL_isAhead_48 : decode cL_isAhead 48 = .ok (.iload_n 2, 1) := by decide +kernel
theorem dL_isAhead_49 : decode cL_isAhead 49 = .ok (.iaload, 1) := by decide +kernel
theorem dL_isAhead_50 : decode cL_isAhead 50 = .ok (.if_icmp .eq 20, 3) := by decide +kernel
theorem dL_isAhead_53 : decode cL_isAhead 53 = .ok (.aload_n 0, 1) := by decide +kernel
theorem dL_isAhead_54 : decode cL_isAhead 54 = .ok (.iload_n 1, 1) := by decide +kernel
theorem dL_isAhead_55 : decode cL_isAhead 55 = .ok (.iaload, 1) := by decide +kernel
theorem dL_isAhead_56 : decode cL_isAhead 56 = .ok (.aload_n 0, 1) := by decide +kernel
theorem dL_isAhead_57 : decode cL_isAhead 57 = .ok (.iload_n 2, 1) := by decide +kernel
theorem dL_isAhead_58 : decode cL_isAhead 58 = .ok (.iaload, 1) := by decide +kernel
theorem dL_isAhead_59 : decode cL_isAhead 59 = .ok (.if_icmp .ge 7, 3) := by decide +kernel
theorem dL_isAhead_62 : decode cL_isAhead 62 = .ok (.iconst 1, 1) := by decide +kernel
theorem dL_isAhead_63 : decode cL_isAhead 63 = .ok (.goto 17, 3) := by decide +kernel
theorem dL_isAhead_66 : decode cL_isAhead 66 = .ok (.iconst 0, 1) := by decide +kernel
theorem dL_isAhead_67 : decode cL_isAhead 67 = .ok (.goto 13, 3) := by decide +kernel
theorem dL_isAhead_70 : decode cL_isAhead 70 = .ok (.iload_n 1, 1) := by decide +kernel
theorem dL_isAhead_71 : decode cL_isAhead 71 = .ok (.iload_n 2, 1) := by decide +kernel
theorem dL_isAhead_72 : decode cL_isAhead 72 = .ok (.if_icmp .ge 7, 3) := by decide +kernel
theorem dL_isAhead_75 : decode cL_isAhead 75 = .ok (.iconst 1, 1) := by decide +kernel
theorem dL_isAhead_76 : decode cL_isAhead 76 = .ok (.goto 4, 3) := by decide +kernel
theorem dL_isAhead_79 : decode cL_isAhead 79 = .ok (.iconst 0, 1) := by decide +kernel
theorem dL_isAhead_80 : decode cL_isAhead 80 = .ok (.ireturn, 1) := by decide +kernel
set_option maxRecDepth 20000 in
theorem ggL_string_L_isOf : GoodIn wsL_string wsL_isOf := goodIn_r _ [4] (by decide +kernel) (by decide +kernel)
set_option maxRecDepth 20000 in
theorem gL_string_L_isOf : GoodIn wsL_string (va_wsS RL 20 yL_isOf wsL_isOf) := goodIn_app (goodIn_of _ (by decide +kernel)) ggL_string_L_isOf
set_option maxRecDepth 20000 in
theorem ggL_string_L_isAhead : GoodIn wsL_string wsL_isAhead := goodIn_r _ [7] (by decide +kernel) (by decide +kernel)
set_option maxRecDepth 20000 in
theorem gL_string_L_isAhead : GoodIn wsL_string (va_wsS RL 31 yL_isAhead wsL_isAhead) := goodIn_app (goodIn_of _ (by decide +kernel)) ggL_string_L_isAhead
theorem dL_string_0 : decode cL_string 0 = .ok (.iconst 0, 1) := by decide +kernel
theorem dL_string_1 : decode cL_string 1 = .ok (.istore 6, 2) := by decide +kernel
theorem dL_string_3 : decode cL_string 3 = .ok (.iconst 0, 1) := by decide +kernel
theorem dL_string_4 : decode cL_string 4 = .ok (.istore 7, 2) := by decide +kernel
theorem dL_string_6 : decode cL_string 6 = .ok (.iload 7, 2) := by decide +kernel
theorem dL_string_8 : decode cL_string 8 = .ok (.aload_n 1, 1) := by decide +kernel
theorem dL_string_9 : decode cL_string 9 = .ok (.iconst 2, 1) := by decide +kernel
theorem dL_string_10 : decode cL_string 10 = .ok (.iaload, 1) := by decide +kernel
theorem dL_string_11 : decode cL_string 11 = .ok (.if_icmp .ge 156, 3) := by decide +kernel
theorem dL_string_14 : decode cL_string 14 = .ok (.aload_n 0, 1) := by decide +kernel
theorem dL_string_15 : decode cL_string 15 = .ok (.iload 4, 2) := by decide +kernel
theorem dL_string_17 : decode cL_string 17 = .ok (.iload 7, 2) := by decide +kernel
theorem dL_string_19 : decode cL_string 19 = .ok (.invokestatic 20, 3) := by decide +kernel
theorem dL_string_22 : decode cL_string 22 = .ok (.ifCond .eq 139, 3) := by decide +kernel
theorem dL_string_25 : decode cL_string 25 = .ok (.iconst (-1), 1) := by decide +kernel
theorem dL_string_26 : decode cL_string 26 = .ok (.istore 8, 2) := by decide +kernel
theorem dL_string_28 : decode cL_string 28 = .ok (.iload 7, 2) := by decide +kernel
theorem dL_string_30 : decode cL_string 30 = .ok (.istore 9, 2) := by decide +kernel
theorem dL_string_32 : decode cL_string 32 = .ok (.iconst 0, 1) := by decide +kernel
theorem dL_string_33 : decode cL_string 33 = .ok (.istore 10, 2) := by decide +kernel
theorem dL_string_35 : decode cL_string 35 = .ok (.iload 10, 2) := by decide +kernel
theorem dL_string_37 : decode cL_string 37 = .ok (.aload_n 1, 1) := by decide +kernel
theorem dL_string_38 : decode cL_string 38 = .ok (.iconst 2, 1) := by decide +kernel
theorem dL_string_39 : decode cL_string 39 = .ok (.iaload, 1) := by decide +kernel
theorem dL_string_40 : decode cL_string 40 = .ok (.if_icmp .ge 82, 3) := by decide +kernel
theorem dL_string_43 : decode cL_string 43 = .ok (.aload_n 0, 1) := by decide +kernel
theorem dL_string_44 : decode cL_string 44 = .ok (.iload 4, 2) := by decide +kernel
theorem dL_string_46 : decode cL_string 46 = .ok (.iload 10, 2) := by decide +kernel
theorem dL_string_48 : decode cL_string 48 = .ok (.invokestatic 20, 3) := by decide +kernel
theorem dL_string_51 : decode cL_string 51 = .ok (.ifCond .eq 65, 3) := by decide +kernel
theorem dL_string_54 : decode cL_string 54 = .ok (.aload_n 3, 1) := by decide +kernel
theorem dL_string_55 : decode cL_string 55 = .ok (.iload 10, 2) := by decide +kernel
theorem dL_string_57 : decode cL_string 57 = .ok (.iload 9, 2) := by decide +kernel
theorem dL_string_59 : decode cL_string 59 = .ok (.iload 5, 2) := by decide +kernel
theorem dL_string_61 : decode cL_string 61 = .ok (.invokestatic 31, 3) := by decide +kernel
theorem dL_string_64 : decode cL_string 64 = .ok (.ifCond .eq 8, 3) := by decide +kernel
theorem dL_string_67 : decode cL_string 67 = .ok (.iload 10, 2) := by decide +kernel
theorem dL_string_69 : decode cL_string 69 = .ok (.goto 5, 3) := by decide +kernel
theorem dL_string_72 : decode cL_string 72 = .ok (.iload 9, 2) := by decide +kernel
theorem dL_string_74 : decode cL_string 74 = .ok (.istore 9, 2) := by decide +kernel
theorem dL_string_76 : decode cL_string 76 = .ok (.aload_n 3, 1) := by decide +kernel
theorem dL_string_77 : decode cL_string 77 = .ok (.iload 7, 2) := by decide +kernel
theorem dL_string_79 : decode cL_string 79 = .ok (.iload 10, 2) := by decide +kernel
theorem dL_string_81 : decode cL_string 81 = .ok (.iload 5, 2) := by decide +kernel
theorem dL_string_83 : decode cL_string 83 = .ok (.invokestatic 31, 3) := by decide +kernel
theorem dL_string_86 : decode cL_string 86 = .ok (.ifCond .eq 26, 3) := by decide +kernel
theorem dL_string_89 : decode cL_string 89 = .ok (.iload 8, 2) := by decide +kernel
theorem dL_string_91 : decode cL_string 91 = .ok (.ifCond .lt 16, 3) := by decide +kernel
theorem dL_string_94 : decode cL_string 94 = .ok (.aload_n 3, 1) := by decide +kernel
theorem dL_string_95 : decode cL_string 95 = .ok (.iload 10, 2) := by decide +kernel
theorem dL_string_97 : decode cL_string 97 = .ok (.iload 8, 2) := by decide +kernel
theorem dL_string_99 : decode cL_string 99 = .ok (.iload 5, 2) := by decide +kernel
theorem dL_string_101 : decode cL_string 101 = .ok (.invokestatic 31, 3) := by decide +kernel
theorem dL_string_104 : decode cL_string 104 = .ok (.ifCond .eq 8, 3) := by decide +kernel
theorem dL_string_107 : decode cL_string 107 = .ok (.iload 10, 2) := by decide +kernel
theorem dL_string_109 : decode cL_string 109 = .ok (.goto 5, 3) := by decide +kernel
theorem dL_string_112 : decode cL_string 112 = .ok (.iload 8, 2) := by decide +kernel
theorem dL_string_114 : decode cL_string 114 = .ok (.istore 8, 2) := by decide +kernel
theorem dL_string_116 : decode cL_string 116 = .ok (.iinc 10 1, 3) := by decide +kernel
theorem dL_string_119 : decode cL_string 119 = .ok (.goto (-84), 3) := by decide +kernel
theorem dL_string_122 : decode cL_string 122 = .ok (.aload_n 2, 1) := by decide +kernel
theorem dL_string_123 : decode cL_string 123 = .ok (.iload 7, 2) := by decide +kernel
theorem dL_string_125 : decode cL_string 125 = .ok (.iaload, 1) := by decide +kernel
theorem dL_string_126 : decode cL_string 126 = .ok (.aload_n 2, 1) := by decide +kernel
theorem dL_string_127 : decode cL_string 127 = .ok (.iload 8, 2) := by decide +kernel
theorem dL_string_129 : decode cL_string 129 = .ok (.ifCond .ge 8, 3) := by decide +kernel
theorem dL_string_132 : decode cL_string 132 = .ok (.iload 9, 2) := by decide +kernel
theorem dL_string_134 : decode cL_string 134 = .ok (.goto 5, 3) := by decide +kernel
theorem dL_string_137 : decode cL_string 137 = .ok (.iload 8, 2) := by decide +kernel
theorem dL_string_139 : decode cL_string 139 = .ok (.iaload, 1) := by decide +kernel
theorem dL_string_140 : decode cL_string 140 = .ok (.isub, 1) := by decide +kernel
theorem dL_string_141 : decode cL_string 141 = .ok (.istore 10, 2) := by decide +kernel
theorem dL_string_143 : decode cL_string 143 = .ok (.iload 6, 2) := by decide +kernel
theorem dL_string_145 : decode cL_string 145 = .ok (.iload 10, 2) := by decide +kernel
theorem dL_string_147 : decode cL_string 147 = .ok (.ifCond .ge 9, 3) := by decide +kernel
theorem dL_string_150 : decode cL_string 150 = .ok (.iload 10, 2) := by decide +kernel
theorem dL_string_152 : decode cL_string 152 = .ok (.ineg, 1) := by decide +kernel
theorem dL_string_153 : decode cL_string 153 = .ok (.goto 5, 3) := by decide +kernel
theorem dL_string_156 : decode cL_string 156 = .ok (.iload 10, 2) := by decide +kernel
theorem dL_string_158 : decode cL_string 158 = .ok (.iadd, 1) := by decide +kernel
theorem dL_string_159 : decode cL_string 159 = .ok (.istore 6, 2) := by decide +kernel
theorem dL_string_161 : decode cL_string 161 = .ok (.iinc 7 1, 3) := by decide +kernel
theorem dL_string_164 : decode cL_string 164 = .ok (.goto (-158), 3) := by decide +kernel
theorem dL_string_167 : decode cL_string 167 = .ok (.iload 6, 2) := by decide +kernel
theorem dL_string_169 : decode cL_string 169 = .ok (.ireturn, 1) := by decide +kernel
theorem dL_lowest_0 : decode cL_lowest 0 = .ok (.iconst 0, 1) := by decide +kernel
theorem dL_lowest_1 : decode cL_lowest 1 = .ok (.istore_n 1, 1) := by decide +kernel
theorem dL_lowest_2 : decode cL_lowest 2 = .ok (.iload_n 0, 1) := by decide +kernel
theorem dL_lowest_3 : decode cL_lowest 3 = .ok (.iload_n 1, 1) := by decide +kernel
theorem dL_lowest_4 : decode cL_lowest 4 = .ok (.ishr, 1) := by decide +kernel
theorem dL_lowest_5 : decode cL_lowest 5 = .ok (.iconst 1, 1) := by decide +kernel
theorem dL_lowest_6 : decode cL_lowest 6 = .ok (.iand, 1) := by decide +kernel
theorem dL_lowest_7 : decode cL_lowest 7 = .ok (.ifCond .ne 9, 3) := by decide +kernel
theorem dL_lowest_10 : decode cL_lowest 10 = .ok (.iinc 1 1, 3) := by decide +kernel
theorem dL_lowest_13 : decode cL_lowest 13 = .ok (.goto (-11), 3) := by decide +kernel
theorem dL_lowest_16 : decode cL_lowest 16 = .ok (.iload_n 1, 1) := by decide +kernel
theorem dL_lowest_17 : decode cL_lowest 17 = .ok (.ireturn, 1) := by decide +kernel
theorem dL_claim_0 : decode cL_claim 0 = .ok (.iconst 0, 1) := by decide +kernel
theorem dL_claim_1 : decode cL_claim 1 = .ok (.istore_n 2, 1) := by decide +kernel
theorem dL_claim_2 : decode cL_claim 2 = .ok (.iconst 0, 1) := by decide +kernel
theorem dL_claim_3 : decode cL_claim 3 = .ok (.istore_n 3, 1) := by decide +kernel
theorem dL_claim_4 : decode cL_claim 4 = .ok (.iload_n 3, 1) := by decide +kernel
theorem dL_claim_5 : decode cL_claim 5 = .ok (.iconst 4, 1) := by decide +kernel
theorem dL_claim_6 : decode cL_claim 6 = .ok (.if_icmp .ge 34, 3) := by decide +kernel
theorem dL_claim_9 : decode cL_claim 9 = .ok (.iload_n 2, 1) := by decide +kernel
theorem dL_claim_10 : decode cL_claim 10 = .ok (.ifCond .ne 30, 3) := by decide +kernel
theorem dL_claim_13 : decode cL_claim 13 = .ok (.iload_n 1, 1) := by decide +kernel
theorem dL_claim_14 : decode cL_claim 14 = .ok (.iload_n 3, 1) := by decide +kernel
theorem dL_claim_15 : decode cL_claim 15 = .ok (.ishr, 1) := by decide +kernel
theorem dL_claim_16 : decode cL_claim 16 = .ok (.iconst 1, 1) := by decide +kernel
theorem dL_claim_17 : decode cL_claim 17 = .ok (.iand, 1) := by decide +kernel
theorem dL_claim_18 : decode cL_claim 18 = .ok (.iconst 1, 1) := by decide +kernel
theorem dL_claim_19 : decode cL_claim 19 = .ok (.if_icmp .ne 13, 3) := by decide +kernel
theorem dL_claim_22 : decode cL_claim 22 = .ok (.aload_n 0, 1) := by decide +kernel
theorem dL_claim_23 : decode cL_claim 23 = .ok (.iconst 4, 1) := by decide +kernel
theorem dL_claim_24 : decode cL_claim 24 = .ok (.iload_n 3, 1) := by decide +kernel
theorem dL_claim_25 : decode cL_claim 25 = .ok (.imul, 1) := by decide +kernel
theorem dL_claim_26 : decode cL_claim 26 = .ok (.iconst 2, 1) := by decide +kernel
theorem dL_claim_27 : decode cL_claim 27 = .ok (.iadd, 1) := by decide +kernel
theorem dL_claim_28 : decode cL_claim 28 = .ok (.iaload, 1) := by decide +kernel
theorem dL_claim_29 : decode cL_claim 29 = .ok (.goto 4, 3) := by decide +kernel
theorem dL_claim_32 : decode cL_claim 32 = .ok (.iconst 0, 1) := by decide +kernel
theorem dL_claim_33 : decode cL_claim 33 = .ok (.istore_n 2, 1) := by decide +kernel
theorem dL_claim_34 : decode cL_claim 34 = .ok (.iinc 3 1, 3) := by decide +kernel
theorem dL_claim_37 : decode cL_claim 37 = .ok (.goto (-33), 3) := by decide +kernel
theorem dL_claim_40 : decode cL_claim 40 = .ok (.iload_n 2, 1) := by decide +kernel
theorem dL_claim_41 : decode cL_claim 41 = .ok (.ireturn, 1) := by decide +kernel
set_option maxRecDepth 20000 in
theorem ggL_feature_L_claim : GoodIn wsL_feature wsL_claim := goodIn_r _ [4] (by decide +kernel) (by decide +kernel)
set_option maxRecDepth 20000 in
theorem gL_feature_L_claim : GoodIn wsL_feature (va_wsS RL 35 yL_claim wsL_claim) := goodIn_app (goodIn_of _ (by decide +kernel)) ggL_feature_L_claim
set_option maxRecDepth 20000 in
theorem ggL_feature_L_isOf : GoodIn wsL_feature wsL_isOf := goodIn_r _ [7] (by decide +kernel) (by decide +kernel)
set_option maxRecDepth 20000 in
theorem gL_feature_L_isOf : GoodIn wsL_feature (va_wsS RL 20 yL_isOf wsL_isOf) := goodIn_app (goodIn_of _ (by decide +kernel)) ggL_feature_L_isOf
theorem dL_feature_0 : decode cL_feature 0 = .ok (.aload_n 0, 1) := by decide +kernel
theorem dL_feature_1 : decode cL_feature 1 = .ok (.iload 5, 2) := by decide +kernel
theorem dL_feature_3 : decode cL_feature 3 = .ok (.invokestatic 35, 3) := by decide +kernel
theorem dL_feature_6 : decode cL_feature 6 = .ok (.istore 7, 2) := by decide +kernel
theorem dL_feature_8 : decode cL_feature 8 = .ok (.iconst (-1), 1) := by decide +kernel
theorem dL_feature_9 : decode cL_feature 9 = .ok (.istore 8, 2) := by decide +kernel
theorem dL_feature_11 : decode cL_feature 11 = .ok (.iconst (-1), 1) := by decide +kernel
theorem dL_feature_12 : decode cL_feature 12 = .ok (.istore 9, 2) := by decide +kernel
theorem dL_feature_14 : decode cL_feature 14 = .ok (.aload_n 2, 1) := by decide +kernel
theorem dL_feature_15 : decode cL_feature 15 = .ok (.iconst 2, 1) := by decide +kernel
theorem dL_feature_16 : decode cL_feature 16 = .ok (.iaload, 1) := by decide +kernel
theorem dL_feature_17 : decode cL_feature 17 = .ok (.iconst 1, 1) := by decide +kernel
theorem dL_feature_18 : decode cL_feature 18 = .ok (.isub, 1) := by decide +kernel
theorem dL_feature_19 : decode cL_feature 19 = .ok (.istore 10, 2) := by decide +kernel
theorem dL_feature_21 : decode cL_feature 21 = .ok (.iload 10, 2) := by decide +kernel
theorem dL_feature_23 : decode cL_feature 23 = .ok (.ifCond .lt 118, 3) := by decide +kernel
theorem dL_feature_26 : decode cL_feature 26 = .ok (.aload_n 1, 1) := by decide +kernel
theorem dL_feature_27 : decode cL_feature 27 = .ok (.iload 5, 2) := by decide +kernel
theorem dL_feature_29 : decode cL_feature 29 = .ok (.iload 10, 2) := by decide +kernel
theorem dL_feature_31 : decode cL_feature 31 = .ok (.invokestatic 20, 3) := by decide +kernel
theorem dL_feature_34 : decode cL_feature 34 = .ok (.ifCond .eq 101, 3) := by decide +kernel
theorem dL_feature_37 : decode cL_feature 37 = .ok (.iload 8, 2) := by decide +kernel
theorem dL_feature_39 : decode cL_feature 39 = .ok (.ifCond .lt 38, 3) := by decide +kernel
theorem dL_feature_42 : decode cL_feature 42 = .ok (.aload_n 3, 1) := by decide +kernel
theorem dL_feature_43 : decode cL_feature 43 = .ok (.iload 10, 2) := by decide +kernel
theorem dL_feature_45 : decode cL_feature 45 = .ok (.iaload, 1) := by decide +kernel
theorem dL_feature_46 : decode cL_feature 46 = .ok (.aload_n 3, 1) := by decide +kernel
theorem dL_feature_47 : decode cL_feature 47 = .ok (.iload 8, 2) := by decide +kernel
theorem dL_feature_49 : decode cL_feature 49 = .ok (.iaload, 1) := by decide +kernel
theorem dL_feature_50 : decode cL_feature 50 = .ok (.if_icmp .lt 27, 3) := by decide +kernel
theorem dL_feature_53 : decode cL_feature 53 = .ok (.aload_n 3, 1) := by decide +kernel
theorem dL_feature_54 : decode cL_feature 54 = .ok (.iload 10, 2) := by decide +kernel
theorem dL_feature_56 : decode cL_feature 56 = .ok (.iaload, 1) := by decide +kernel
theorem dL_feature_57 : decode cL_feature 57 = .ok (.aload_n 3, 1) := by decide +kernel
theorem dL_feature_58 : decode cL_feature 58 = .ok (.iload 8, 2) := by decide +kernel
theorem dL_feature_60 : decode cL_feature 60 = .ok (.iaload, 1) := by decide +kernel
theorem dL_feature_61 : decode cL_feature 61 = .ok (.if_icmp .ne 21, 3) := by decide +kernel
theorem dL_feature_64 : decode cL_feature 64 = .ok (.aload 4, 2) := by decide +kernel
theorem dL_feature_66 : decode cL_feature 66 = .ok (.iload 10, 2) := by decide +kernel
theorem dL_feature_68 : decode cL_feature 68 = .ok (.iaload, 1) := by decide +kernel
theorem dL_feature_69 : decode cL_feature 69 = .ok (.aload 4, 2) := by decide +kernel
theorem dL_feature_71 : decode cL_feature 71 = .ok (.iload 8, 2) := by decide +kernel
theorem dL_feature_73 : decode cL_feature 73 = .ok (.iaload, 1) := by decide +kernel
theorem dL_feature_74 : decode cL_feature 74 = .ok (.if_icmp .gt 8, 3) := by decide +kernel
theorem dL_feature_77 : decode cL_feature 77 = .ok (.iload 10, 2) := by decide +kernel
theorem dL_feature_79 : decode cL_feature 79 = .ok (.goto 5, 3) := by decide +kernel
theorem dL_feature_82 : decode cL_feature 82 = .ok (.iload 8, 2) := by decide +kernel
theorem dL_feature_84 : decode cL_feature 84 = .ok (.istore 8, 2) := by decide +kernel
theorem dL_feature_86 : decode cL_feature 86 = .ok (.iload 9, 2) := by decide +kernel
theorem dL_feature_88 : decode cL_feature 88 = .ok (.ifCond .lt 38, 3) := by decide +kernel
theorem dL_feature_91 : decode cL_feature 91 = .ok (.aload_n 3, 1) := by decide +kernel
theorem dL_feature_92 : decode cL_feature 92 = .ok (.iload 10, 2) := by decide +kernel
theorem dL_feature_94 : decode cL_feature 94 = .ok (.iaload, 1) := by decide +kernel
theorem dL_feature_95 : decode cL_feature 95 = .ok (.aload_n 3, 1) := by decide +kernel
theorem dL_feature_96 : decode cL_feature 96 = .ok (.iload 9, 2) := by decide +kernel
theorem dL_feature_98 : decode cL_feature 98 = .ok (.iaload, 1) := by decide +kernel
theorem dL_feature_99 : decode cL_feature 99 = .ok (.if_icmp .gt 27, 3) := by decide +kernel
theorem dL_feature_102 : decode cL_feature 102 = .ok (.aload_n 3, 1) := by decide +kernel
theorem dL_feature_103 : decode cL_feature 103 = .ok (.iload 10, 2) := by decide +kernel
theorem dL_feature_105 : decode cL_feature 105 = .ok (.iaload, 1) := by decide +kernel
theorem dL_feature_106 : decode cL_feature 106 = .ok (.aload_n 3, 1) := by decide +kernel
theorem dL_feature_107 : decode cL_feature 107 = .ok (.iload 9, 2) := by decide +kernel
theorem dL_feature_109 : decode cL_feature 109 = .ok (.iaload, 1) := by decide +kernel
theorem dL_feature_110 : decode cL_feature 110 = .ok (.if_icmp .ne 21, 3) := by decide +kernel
theorem dL_feature_113 : decode cL_feature 113 = .ok (.aload 4, 2) := by decide +kernel
theorem dL_feature_115 : decode cL_feature 115 = .ok (.iload 10, 2) := by decide +kernel
theorem dL_feature_117 : decode cL_feature 117 = .ok (.iaload, 1) := by decide +kernel
theorem dL_feature_118 : decode cL_feature 118 = .ok (.aload 4, 2) := by decide +kernel
theorem dL_feature_120 : decode cL_feature 120 = .ok (.iload 9, 2) := by decide +kernel
theorem dL_feature_122 : decode cL_feature 122 = .ok (.iaload, 1) := by decide +kernel
theorem dL_feature_123 : decode cL_feature 123 = .ok (.if_icmp .gt 8, 3) := by decide +kernel
theorem dL_feature_126 : decode cL_feature 126 = .ok (.iload 10, 2) := by decide +kernel
theorem dL_feature_128 : decode cL_feature 128 = .ok (.goto 5, 3) := by decide +kernel
theorem dL_feature_131 : decode cL_feature 131 = .ok (.iload 9, 2) := by decide +kernel
theorem dL_feature_133 : decode cL_feature 133 = .ok (.istore 9, 2) := by decide +kernel
theorem dL_feature_135 : decode cL_feature 135 = .ok (.iinc 10 (-1), 3) := by decide +kernel
theorem dL_feature_138 : decode cL_feature 138 = .ok (.goto (-117), 3) := by decide +kernel
theorem dL_feature_141 : decode cL_feature 141 = .ok (.aload 4, 2) := by decide +kernel
theorem dL_feature_143 : decode cL_feature 143 = .ok (.iload 8, 2) := by decide +kernel
theorem dL_feature_145 : decode cL_feature 145 = .ok (.iaload, 1) := by decide +kernel
theorem dL_feature_146 : decode cL_feature 146 = .ok (.aload 4, 2) := by decide +kernel
theorem dL_feature_148 : decode cL_feature 148 = .ok (.iload 9, 2) := by decide +kernel
theorem dL_feature_150 : decode cL_feature 150 = .ok (.iaload, 1) := by decide +kernel
theorem dL_feature_151 : decode cL_feature 151 = .ok (.isub, 1) := by decide +kernel
theorem dL_feature_152 : decode cL_feature 152 = .ok (.iload 7, 2) := by decide +kernel
theorem dL_feature_154 : decode cL_feature 154 = .ok (.irem, 1) := by decide +kernel
theorem dL_feature_155 : decode cL_feature 155 = .ok (.istore 10, 2) := by decide +kernel
theorem dL_feature_157 : decode cL_feature 157 = .ok (.iload 6, 2) := by decide +kernel
theorem dL_feature_159 : decode cL_feature 159 = .ok (.ifCond .ne 15, 3) := by decide +kernel
theorem dL_feature_162 : decode cL_feature 162 = .ok (.aload_n 3, 1) := by decide +kernel
theorem dL_feature_163 : decode cL_feature 163 = .ok (.iload 9, 2) := by decide +kernel
theorem dL_feature_165 : decode cL_feature 165 = .ok (.iaload, 1) := by decide +kernel
theorem dL_feature_166 : decode cL_feature 166 = .ok (.aload_n 3, 1) := by decide +kernel
theorem dL_feature_167 : decode cL_feature 167 = .ok (.iload 8, 2) := by decide +kernel
theorem dL_feature_169 : decode cL_feature 169 = .ok (.iaload, 1) := by decide +kernel
theorem dL_feature_170 : decode cL_feature 170 = .ok (.isub, 1) := by decide +kernel
theorem dL_feature_171 : decode cL_feature 171 = .ok (.goto 35, 3) := by decide +kernel
theorem dL_feature_174 : decode cL_feature 174 = .ok (.iload 6, 2) := by decide +kernel
theorem dL_feature_176 : decode cL_feature 176 = .ok (.iconst 1, 1) := by decide +kernel
theorem dL_feature_177 : decode cL_feature 177 = .ok (.if_icmp .ne 8, 3) := by decide +kernel
theorem dL_feature_180 : decode cL_feature 180 = .ok (.iload 7, 2) := by decide +kernel
theorem dL_feature_182 : decode cL_feature 182 = .ok (.goto 24, 3) := by decide +kernel
theorem dL_feature_185 : decode cL_feature 185 = .ok (.iload 10, 2) := by decide +kernel
theorem dL_feature_187 : decode cL_feature 187 = .ok (.ifCond .ge 11, 3) := by decide +kernel
theorem dL_feature_190 : decode cL_feature 190 = .ok (.iload 10, 2) := by decide +kernel
theorem dL_feature_192 : decode cL_feature 192 = .ok (.iload 7, 2) := by decide +kernel
theorem dL_feature_194 : decode cL_feature 194 = .ok (.iadd, 1) := by decide +kernel
theorem dL_feature_195 : decode cL_feature 195 = .ok (.goto 5, 3) := by decide +kernel
theorem dL_feature_198 : decode cL_feature 198 = .ok (.iload 10, 2) := by decide +kernel
theorem dL_feature_200 : decode cL_feature 200 = .ok (.bipush 100, 2) := by decide +kernel
theorem dL_feature_202 : decode cL_feature 202 = .ok (.imul, 1) := by decide +kernel
