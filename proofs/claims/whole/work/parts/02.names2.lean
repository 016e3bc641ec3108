set_option maxRecDepth 20000 in
theorem gX10_starAt_Jx4a65c_size_8abf5 : GoodIn wsX10_starAt (wsV RX10 81 RJx4a65c yJx4a65c_size_8abf5 wsJx4a65c_size_8abf5) := goodIn_app (goodIn_of _ (by decide +kernel)) ggX10_starAt_Jx4a65c_size_8abf5
set_option maxRecDepth 20000 in
theorem ggX10_starAt_Jx4a65c_get_915e3 : GoodIn wsX10_starAt wsJx4a65c_get_915e3 := goodIn_r _ [14, 10, 15, 16, 17, 18, 19, 20, 21, 22, 23, 24, 25, 8, 26, 27, 41, 42, 43] (by decide +kernel) (by decide +kernel)
set_option maxRecDepth 20000 in
theorem gX10_starAt_Jx4a65c_get_915e3 : GoodIn wsX10_starAt (wsV RX10 188 RJx4a65c yJx4a65c_get_915e3 wsJx4a65c_get_915e3) := goodIn_app (goodIn_of _ (by decide +kernel)) ggX10_starAt_Jx4a65c_get_915e3
theorem dX10_starAt_0 : decode cX10_starAt 0 = .ok (.iload_n 1, 1) := by decide +kernel
theorem dX10_starAt_1 : decode cX10_starAt 1 = .ok (.ifCond .lt 14, 3) := by decide +kernel
theorem dX10_starAt_4 : decode cX10_starAt 4 = .ok (.iload_n 1, 1) := by decide +kernel
theorem dX10_starAt_5 : decode cX10_starAt 5 = .ok (.aload_n 0, 1) := by decide +kernel
theorem dX10_starAt_6 : decode cX10_starAt 6 = .ok (.getfield 19, 3) := by decide +kernel
theorem dX10_starAt_9 : decode cX10_starAt 9 = .ok (.invokevirtual 81, 3) := by decide +kernel
theorem dX10_starAt_12 : decode cX10_starAt 12 = .ok (.if_icmp .lt 14, 3) := by decide +kernel
theorem dX10_starAt_15 : decode cX10_starAt 15 = .ok (.new 183, 3) := by decide +kernel
theorem dX10_starAt_18 : decode cX10_starAt 18 = .ok (.dup, 1) := by decide +kernel
theorem dX10_starAt_19 : decode cX10_starAt 19 = .ok (.ldc_w 311, 3) := by decide +kernel
theorem dX10_starAt_22 : decode cX10_starAt 22 = .ok (.invokespecial 187, 3) := by decide +kernel
theorem dX10_starAt_25 : decode cX10_starAt 25 = .ok (.athrow, 1) := by decide +kernel
theorem dX10_starAt_26 : decode cX10_starAt 26 = .ok (.aload_n 0, 1) := by decide +kernel
theorem dX10_starAt_27 : decode cX10_starAt 27 = .ok (.getfield 19, 3) := by decide +kernel
theorem dX10_starAt_30 : decode cX10_starAt 30 = .ok (.iload_n 1, 1) := by decide +kernel
theorem dX10_starAt_31 : decode cX10_starAt 31 = .ok (.invokevirtual 188, 3) := by decide +kernel
theorem dX10_starAt_34 : decode cX10_starAt 34 = .ok (.checkcast 89, 3) := by decide +kernel
theorem dX10_starAt_37 : decode cX10_starAt 37 = .ok (.areturn, 1) := by decide +kernel
set_option maxRecDepth 20000 in
theorem ggX10_plateAt_Jx4a65c_size_8abf5 : GoodIn wsX10_plateAt wsJx4a65c_size_8abf5 := goodIn_r _ [9, 10, 41, 42, 43] (by decide +kernel) (by decide +kernel)
set_option maxRecDepth 20000 in
theorem gX10_plateAt_Jx4a65c_size_8abf5 : GoodIn wsX10_plateAt (wsV RX10 81 RJx4a65c yJx4a65c_size_8abf5 wsJx4a65c_size_8abf5) := goodIn_app (goodIn_of _ (by decide +kernel)) ggX10_plateAt_Jx4a65c_size_8abf5
set_option maxRecDepth 20000 in
theorem ggX10_plateAt_Jx4a65c_get_915e3 : GoodIn wsX10_plateAt wsJx4a65c_get_915e3 := goodIn_r _ [14, 10, 15, 16, 17, 18, 19, 20, 21, 22, 23, 24, 25, 8, 26, 27, 41, 42, 43] (by decide +kernel) (by decide +kernel)
set_option maxRecDepth 20000 in
theorem gX10_plateAt_Jx4a65c_get_915e3 : GoodIn wsX10_plateAt (wsV RX10 188 RJx4a65c yJx4a65c_get_915e3 wsJx4a65c_get_915e3) := goodIn_app (goodIn_of _ (by decide +kernel)) ggX10_plateAt_Jx4a65c_get_915e3
theorem dX10_plateAt_0 : decode cX10_plateAt 0 = .ok (.iload_n 1, 1) := by decide +kernel
theorem dX10_plateAt_1 : decode cX10_plateAt 1 = .ok (.ifCond .lt 14, 3) := by decide +kernel
theorem dX10_plateAt_4 : decode cX10_plateAt 4 = .ok (.iload_n 1, 1) := by decide +kernel
theorem dX10_plateAt_5 : decode cX10_plateAt 5 = .ok (.aload_n 0, 1) := by decide +kernel
theorem dX10_plateAt_6 : decode cX10_plateAt 6 = .ok (.getfield 22, 3) := by decide +kernel
theorem dX10_plateAt_9 : decode cX10_plateAt 9 = .ok (.invokevirtual 81, 3) := by decide +kernel
theorem dX10_plateAt_12 : decode cX10_plateAt 12 = .ok (.if_icmp .lt 14, 3) := by decide +kernel
theorem dX10_plateAt_15 : decode cX10_plateAt 15 = .ok (.new 183, 3) := by decide +kernel
theorem dX10_plateAt_18 : decode cX10_plateAt 18 = .ok (.dup, 1) := by decide +kernel
theorem dX10_plateAt_19 : decode cX10_plateAt 19 = .ok (.ldc_w 313, 3) := by decide +kernel
theorem dX10_plateAt_22 : decode cX10_plateAt 22 = .ok (.invokespecial 187, 3) := by decide +kernel
theorem dX10_plateAt_25 : decode cX10_plateAt 25 = .ok (.athrow, 1) := by decide +kernel
theorem dX10_plateAt_26 : decode cX10_plateAt 26 = .ok (.aload_n 0, 1) := by decide +kernel
theorem dX10_plateAt_27 : decode cX10_plateAt 27 = .ok (.getfield 22, 3) := by decide +kernel
theorem dX10_plateAt_30 : decode cX10_plateAt 30 = .ok (.iload_n 1, 1) := by decide +kernel
theorem dX10_plateAt_31 : decode cX10_plateAt 31 = .ok (.invokevirtual 188, 3) := by decide +kernel
theorem dX10_plateAt_34 : decode cX10_plateAt 34 = .ok (.checkcast 107, 3) := by decide +kernel
theorem dX10_plateAt_37 : decode cX10_plateAt 37 = .ok (.areturn, 1) := by decide +kernel
set_option maxRecDepth 20000 in
theorem ggX10_lookAt_Jx4a65c_size_8abf5 : GoodIn wsX10_lookAt wsJx4a65c_size_8abf5 := goodIn_r _ [9, 10, 41, 42, 43] (by decide +kernel) (by decide +kernel)
set_option maxRecDepth 20000 in
theorem gX10_lookAt_Jx4a65c_size_8abf5 : GoodIn wsX10_lookAt (wsV RX10 81 RJx4a65c yJx4a65c_size_8abf5 wsJx4a65c_size_8abf5) := goodIn_app (goodIn_of _ (by decide +kernel)) ggX10_lookAt_Jx4a65c_size_8abf5
set_option maxRecDepth 20000 in
theorem ggX10_lookAt_Jx4a65c_get_915e3 : GoodIn wsX10_lookAt wsJx4a65c_get_915e3 := goodIn_r _ [14, 10, 15, 16, 17, 18, 19, 20, 21, 22, 23, 24, 25, 8, 26, 27, 41, 42, 43] (by decide +kernel) (by decide +kernel)
set_option maxRecDepth 20000 in
theorem gX10_lookAt_Jx4a65c_get_915e3 : GoodIn wsX10_lookAt (wsV RX10 188 RJx4a65c yJx4a65c_get_915e3 wsJx4a65c_get_915e3) := goodIn_app (goodIn_of _ (by decide +kernel)) ggX10_lookAt_Jx4a65c_get_915e3
theorem dX10_lookAt_0 : decode cX10_lookAt 0 = .ok (.iload_n 1, 1) := by decide +kernel
theorem dX10_lookAt_1 : decode cX10_lookAt 1 = .ok (.ifCond .lt 14, 3) := by decide +kernel
theorem dX10_lookAt_4 : decode cX10_lookAt 4 = .ok (.iload_n 1, 1) := by decide +kernel
theorem dX10_lookAt_5 : decode cX10_lookAt 5 = .ok (.aload_n 0, 1) := by decide +kernel
theorem dX10_lookAt_6 : decode cX10_lookAt 6 = .ok (.getfield 25, 3) := by decide +kernel
theorem dX10_lookAt_9 : decode cX10_lookAt 9 = .ok (.invokevirtual 81, 3) := by decide +kernel
theorem dX10_lookAt_12 : decode cX10_lookAt 12 = .ok (.if_icmp .lt 14, 3) := by decide +kernel
theorem dX10_lookAt_15 : decode cX10_lookAt 15 = .ok (.new 183, 3) := by decide +kernel
theorem dX10_lookAt_18 : decode cX10_lookAt 18 = .ok (.dup, 1) := by decide +kernel
theorem dX10_lookAt_19 : decode cX10_lookAt 19 = .ok (.ldc_w 315, 3) := by decide +kernel
theorem dX10_lookAt_22 : decode cX10_lookAt 22 = .ok (.invokespecial 187, 3) := by decide +kernel
theorem dX10_lookAt_25 : decode cX10_lookAt 25 = .ok (.athrow, 1) := by decide +kernel
theorem dX10_lookAt_26 : decode cX10_lookAt 26 = .ok (.aload_n 0, 1) := by decide +kernel
theorem dX10_lookAt_27 : decode cX10_lookAt 27 = .ok (.getfield 25, 3) := by decide +kernel
theorem dX10_lookAt_30 : decode cX10_lookAt 30 = .ok (.iload_n 1, 1) := by decide +kernel
theorem dX10_lookAt_31 : decode cX10_lookAt 31 = .ok (.invokevirtual 188, 3) := by decide +kernel
theorem dX10_lookAt_34 : decode cX10_lookAt 34 = .ok (.checkcast 144, 3) := by decide +kernel
theorem dX10_lookAt_37 : decode cX10_lookAt 37 = .ok (.areturn, 1) := by decide +kernel
set_option maxRecDepth 20000 in
theorem ggX10_ruleAt_Jx4a65c_size_8abf5 : GoodIn wsX10_ruleAt wsJx4a65c_size_8abf5 := goodIn_r _ [9, 10, 41, 42, 43] (by decide +kernel) (by decide +kernel)
set_option maxRecDepth 20000 in
theorem gX10_ruleAt_Jx4a65c_size_8abf5 : GoodIn wsX10_ruleAt (wsV RX10 81 RJx4a65c yJx4a65c_size_8abf5 wsJx4a65c_size_8abf5) := goodIn_app (goodIn_of _ (by decide +kernel)) ggX10_ruleAt_Jx4a65c_size_8abf5
set_option maxRecDepth 20000 in
theorem ggX10_ruleAt_Jx4a65c_get_915e3 : GoodIn wsX10_ruleAt wsJx4a65c_get_915e3 := goodIn_r _ [14, 10, 15, 16, 17, 18, 19, 20, 21, 22, 23, 24, 25, 8, 26, 27, 41, 42, 43] (by decide +kernel) (by decide +kernel)
set_option maxRecDepth 20000 in
theorem gX10_ruleAt_Jx4a65c_get_915e3 : GoodIn wsX10_ruleAt (wsV RX10 188 RJx4a65c yJx4a65c_get_915e3 wsJx4a65c_get_915e3) := goodIn_app (goodIn_of _ (by decide +kernel)) ggX10_ruleAt_Jx4a65c_get_915e3
theorem dX10_ruleAt_0 : decode cX10_ruleAt 0 = .ok (.iload_n 1, 1) := by decide +kernel
theorem dX10_ruleAt_1 : decode cX10_ruleAt 1 = .ok (.ifCond .lt 14, 3) := by decide +kernel
theorem dX10_ruleAt_4 : decode cX10_ruleAt 4 = .ok (.iload_n 1, 1) := by decide +kernel
theorem dX10_ruleAt_5 : decode cX10_ruleAt 5 = .ok (.aload_n 0, 1) := by decide +kernel
theorem dX10_ruleAt_6 : decode cX10_ruleAt 6 = .ok (.getfield 28, 3) := by decide +kernel
theorem dX10_ruleAt_9 : decode cX10_ruleAt 9 = .ok (.invokevirtual 81, 3) := by decide +kernel
theorem dX10_ruleAt_12 : decode cX10_ruleAt 12 = .ok (.if_icmp .lt 14, 3) := by decide +kernel
theorem dX10_ruleAt_15 : decode cX10_ruleAt 15 = .ok (.new 183, 3) := by decide +kernel
theorem dX10_ruleAt_18 : decode cX10_ruleAt 18 = .ok (.dup, 1) := by decide +kernel
theorem dX10_ruleAt_19 : decode cX10_ruleAt 19 = .ok (.ldc_w 317, 3) := by decide +kernel
theorem dX10_ruleAt_22 : decode cX10_ruleAt 22 = .ok (.invokespecial 187, 3) := by decide +kernel
theorem dX10_ruleAt_25 : decode cX10_ruleAt 25 = .ok (.athrow, 1) := by decide +kernel
theorem dX10_ruleAt_26 : decode cX10_ruleAt 26 = .ok (.aload_n 0, 1) := by decide +kernel
theorem dX10_ruleAt_27 : decode cX10_ruleAt 27 = .ok (.getfield 28, 3) := by decide +kernel
theorem dX10_ruleAt_30 : decode cX10_ruleAt 30 = .ok (.iload_n 1, 1) := by decide +kernel
theorem dX10_ruleAt_31 : decode cX10_ruleAt 31 = .ok (.invokevirtual 188, 3) := by decide +kernel
theorem dX10_ruleAt_34 : decode cX10_ruleAt 34 = .ok (.checkcast 249, 3) := by decide +kernel
theorem dX10_ruleAt_37 : decode cX10_ruleAt 37 = .ok (.areturn, 1) := by decide +kernel
theorem dX10_needPlace_0 : decode cX10_needPlace 0 = .ok (.iload_n 0, 1) := by decide +kernel
theorem dX10_needPlace_1 : decode cX10_needPlace 1 = .ok (.ifCond .lt 8, 3) := by decide +kernel
theorem dX10_needPlace_4 : decode cX10_needPlace 4 = .ok (.iload_n 0, 1) := by decide +kernel
theorem dX10_needPlace_5 : decode cX10_needPlace 5 = .ok (.iload_n 1, 1) := by decide +kernel
theorem dX10_needPlace_6 : decode cX10_needPlace 6 = .ok (.if_icmp .lt 13, 3) := by decide +kernel
theorem dX10_needPlace_9 : decode cX10_needPlace 9 = .ok (.new 183, 3) := by decide +kernel
theorem dX10_needPlace_12 : decode cX10_needPlace 12 = .ok (.dup, 1) := by decide +kernel
theorem dX10_needPlace_13 : decode cX10_needPlace 13 = .ok (.ldc 185, 2) := by decide +kernel
theorem dX10_needPlace_15 : decode cX10_needPlace 15 = .ok (.invokespecial 187, 3) := by decide +kernel
theorem dX10_needPlace_18 : decode cX10_needPlace 18 = .ok (.athrow, 1) := by decide +kernel
theorem dX10_needPlace_19 : decode cX10_needPlace 19 = .ok (.return_, 1) := by decide +kernel
theorem dX10_needRange_0 : decode cX10_needRange 0 = .ok (.iload_n 0, 1) := by decide +kernel
theorem dX10_needRange_1 : decode cX10_needRange 1 = .ok (.iload_n 1, 1) := by decide +kernel
theorem dX10_needRange_2 : decode cX10_needRange 2 = .ok (.if_icmp .lt 8, 3) := by decide +kernel
theorem dX10_needRange_5 : decode cX10_needRange 5 = .ok (.iload_n 0, 1) := by decide +kernel
theorem dX10_needRange_6 : decode cX10_needRange 6 = .ok (.iload_n 2, 1) := by decide +kernel
theorem dX10_needRange_7 : decode cX10_needRange 7 = .ok (.if_icmp .le 14, 3) := by decide +kernel
theorem dX10_needRange_10 : decode cX10_needRange 10 = .ok (.new 122, 3) := by decide +kernel
theorem dX10_needRange_13 : decode cX10_needRange 13 = .ok (.dup, 1) := by decide +kernel
theorem dX10_needRange_14 : decode cX10_needRange 14 = .ok (.ldc_w 319, 3) := by decide +kernel
theorem dX10_needRange_17 : decode cX10_needRange 17 = .ok (.invokespecial 126, 3) := by decide +kernel
theorem dX10_needRange_20 : decode cX10_needRange 20 = .ok (.athrow, 1) := by decide +kernel
theorem dX10_needRange_21 : decode cX10_needRange 21 = .ok (.return_, 1) := by decide +kernel
set_option maxRecDepth 20000 in
theorem ggX10_needPeriod_X10_needRange : GoodIn wsX10_needPeriod wsX10_needRange := goodIn_ca (goodIn_r _ [5, 6, 7] (by decide +kernel) (by decide +kernel)) (goodIn_sub (fun _ h => List.mem_cons_of_mem _ (List.mem_append_right _ h)) (by decide +kernel))
set_option maxRecDepth 20000 in
theorem gX10_needPeriod_X10_needRange : GoodIn wsX10_needPeriod (va_wsS RX10 74 yX10_needRange wsX10_needRange) := goodIn_app (goodIn_of _ (by decide +kernel)) ggX10_needPeriod_X10_needRange
theorem dX10_needPeriod_0 : decode cX10_needPeriod 0 = .ok (.iload_n 0, 1) := by decide +kernel
theorem dX10_needPeriod_1 : decode cX10_needPeriod 1 = .ok (.bipush 30, 2) := by decide +kernel
theorem dX10_needPeriod_3 : decode cX10_needPeriod 3 = .ok (.ldc 246, 2) := by decide +kernel
theorem dX10_needPeriod_5 : decode cX10_needPeriod 5 = .ok (.invokestatic 74, 3) := by decide +kernel
theorem dX10_needPeriod_8 : decode cX10_needPeriod 8 = .ok (.return_, 1) := by decide +kernel
set_option maxRecDepth 20000 in
theorem ggX10_needPlateZero_X10_needRange : GoodIn wsX10_needPlateZero wsX10_needRange := goodIn_ca (goodIn_r _ [4, 5, 6] (by decide +kernel) (by decide +kernel)) (goodIn_sub (fun _ h => List.mem_cons_of_mem _ (List.mem_append_right _ h)) (by decide +kernel))
set_option maxRecDepth 20000 in
theorem gX10_needPlateZero_X10_needRange : GoodIn wsX10_needPlateZero (va_wsS RX10 74 yX10_needRange wsX10_needRange) := goodIn_app (goodIn_of _ (by decide +kernel)) ggX10_needPlateZero_X10_needRange
theorem dX10_needPlateZero_0 : decode cX10_needPlateZero 0 = .ok (.iload_n 0, 1) := by decide +kernel
theorem dX10_needPlateZero_1 : decode cX10_needPlateZero 1 = .ok (.sipush (-500), 3) := by decide +kernel
theorem dX10_needPlateZero_4 : decode cX10_needPlateZero 4 = .ok (.sipush 3000, 3) := by decide +kernel
theorem dX10_needPlateZero_7 : decode cX10_needPlateZero 7 = .ok (.invokestatic 74, 3) := by decide +kernel
theorem dX10_needPlateZero_10 : decode cX10_needPlateZero 10 = .ok (.return_, 1) := by decide +kernel
theorem dX10_needRoom_0 : decode cX10_needRoom 0 = .ok (.iload_n 0, 1) := by decide +kernel
theorem dX10_needRoom_1 : decode cX10_needRoom 1 = .ok (.iload_n 1, 1) := by decide +kernel
theorem dX10_needRoom_2 : decode cX10_needRoom 2 = .ok (.if_icmp .lt 14, 3) := by decide +kernel
theorem dX10_needRoom_5 : decode cX10_needRoom 5 = .ok (.new 157, 3) := by decide +kernel
theorem dX10_needRoom_8 : decode cX10_needRoom 8 = .ok (.dup, 1) := by decide +kernel
theorem dX10_needRoom_9 : decode cX10_needRoom 9 = .ok (.ldc_w 321, 3) := by decide +kernel
theorem dX10_needRoom_12 : decode cX10_needRoom 12 = .ok (.invokespecial 161, 3) := by decide +kernel
theorem dX10_needRoom_15 : decode cX10_needRoom 15 = .ok (.athrow, 1) := by decide +kernel
theorem dX10_needRoom_16 : decode cX10_needRoom 16 = .ok (.return_, 1) := by decide +kernel
set_option maxRecDepth 20000 in
theorem ggX10_countTrials_X10_needPeriod : GoodIn wsX10_countTrials wsX10_needPeriod := goodIn_ca (goodIn_r _ [5, 1, 6, 7, 4, 8, 9, 10] (by decide +kernel) (by decide +kernel)) (goodIn_sub (fun _ h => List.mem_cons_of_mem _ (List.mem_append_right _ h)) (by decide +kernel))
set_option maxRecDepth 20000 in
theorem gX10_countTrials_X10_needPeriod : GoodIn wsX10_countTrials (va_wsS RX10 214 yX10_needPeriod wsX10_needPeriod) := goodIn_app (goodIn_of _ (by decide +kernel)) ggX10_countTrials_X10_needPeriod
set_option maxRecDepth 20000 in
theorem ggX10_countTrials_X10_needRange : GoodIn wsX10_countTrials wsX10_needRange := goodIn_ca (goodIn_r _ [8, 9, 10] (by decide +kernel) (by decide +kernel)) (goodIn_sub (fun _ h => List.mem_cons_of_mem _ (List.mem_append_right _ h)) (by decide +kernel))
set_option maxRecDepth 20000 in
theorem gX10_countTrials_X10_needRange : GoodIn wsX10_countTrials (va_wsS RX10 74 yX10_needRange wsX10_needRange) := goodIn_app (goodIn_of _ (by decide +kernel)) ggX10_countTrials_X10_needRange
set_option maxRecDepth 20000 in
theorem ggX10_countTrials_X10_quotient : GoodIn wsX10_countTrials wsX10_quotient := goodIn_r _ [13, 14, 15, 16, 17] (by decide +kernel) (by decide +kernel)
set_option maxRecDepth 20000 in
theorem gX10_countTrials_X10_quotient : GoodIn wsX10_countTrials (va_wsS RX10 323 yX10_quotient wsX10_quotient) := goodIn_app (goodIn_of _ (by decide +kernel)) ggX10_countTrials_X10_quotient
theorem dX10_countTrials_0 : decode cX10_countTrials 0 = .ok (.iload_n 0, 1) := by decide +kernel
theorem dX10_countTrials_1 : decode cX10_countTrials 1 = .ok (.invokestatic 214, 3) := by decide +kernel
theorem dX10_countTrials_4 : decode cX10_countTrials 4 = .ok (.iload_n 1, 1) := by decide +kernel
theorem dX10_countTrials_5 : decode cX10_countTrials 5 = .ok (.iload_n 0, 1) := by decide +kernel
theorem dX10_countTrials_6 : decode cX10_countTrials 6 = .ok (.ldc 246, 2) := by decide +kernel
theorem dX10_countTrials_8 : decode cX10_countTrials 8 = .ok (.invokestatic 74, 3) := by decide +kernel
theorem dX10_countTrials_11 : decode cX10_countTrials 11 = .ok (.iload_n 2, 1) := by decide +kernel
theorem dX10_countTrials_12 : decode cX10_countTrials 12 = .ok (.iconst 1, 1) := by decide +kernel
theorem dX10_countTrials_13 : decode cX10_countTrials 13 = .ok (.ldc 246, 2) := by decide +kernel
theorem dX10_countTrials_15 : decode cX10_countTrials 15 = .ok (.invokestatic 74, 3) := by decide +kernel
theorem dX10_countTrials_18 : decode cX10_countTrials 18 = .ok (.iload_n 1, 1) := by decide +kernel
theorem dX10_countTrials_19 : decode cX10_countTrials 19 = .ok (.iload_n 0, 1) := by decide +kernel
theorem dX10_countTrials_20 : decode cX10_countTrials 20 = .ok (.isub, 1) := by decide +kernel
theorem dX10_countTrials_21 : decode cX10_countTrials 21 = .ok (.iload_n 2, 1) := by decide +kernel
theorem dX10_countTrials_22 : decode cX10_countTrials 22 = .ok (.invokestatic 323, 3) := by decide +kernel
theorem dX10_countTrials_25 : decode cX10_countTrials 25 = .ok (.iconst 1, 1) := by decide +kernel
theorem dX10_countTrials_26 : decode cX10_countTrials 26 = .ok (.iadd, 1) := by decide +kernel
theorem dX10_countTrials_27 : decode cX10_countTrials 27 = .ok (.istore_n 3, 1) := by decide +kernel
theorem dX10_countTrials_28 : decode cX10_countTrials 28 = .ok (.iload_n 3, 1) := by decide +kernel
theorem dX10_countTrials_29 : decode cX10_countTrials 29 = .ok (.iconst 1, 1) := by decide +kernel
theorem dX10_countTrials_30 : decode cX10_countTrials 30 = .ok (.sipush 200, 3) := by decide +kernel
theorem dX10_countTrials_33 : decode cX10_countTrials 33 = .ok (.invokestatic 74, 3) := by decide +kernel
theorem dX10_countTrials_36 : decode cX10_countTrials 36 = .ok (.iload_n 3, 1) := by decide +kernel
theorem dX10_countTrials_37 : decode cX10_countTrials 37 = .ok (.ireturn, 1) := by decide +kernel
set_option maxRecDepth 20000 in
theorem ggX10_renumber_Jx4a65c_size_8abf5 : GoodIn wsX10_renumber wsJx4a65c_size_8abf5 := goodIn_r _ [8, 9, 45, 46, 47] (by decide +kernel) (by decide +kernel)
set_option maxRecDepth 20000 in
theorem gX10_renumber_Jx4a65c_size_8abf5 : GoodIn wsX10_renumber (wsV RX10 81 RJx4a65c yJx4a65c_size_8abf5 wsJx4a65c_size_8abf5) := goodIn_app (goodIn_of _ (by decide +kernel)) ggX10_renumber_Jx4a65c_size_8abf5
set_option maxRecDepth 20000 in
theorem ggX10_renumber_Jx4a65c_get_915e3 : GoodIn wsX10_renumber wsJx4a65c_get_915e3 := goodIn_r _ [13, 9, 14, 15, 16, 17, 18, 19, 20, 21, 22, 23, 24, 7, 25, 26, 45, 46, 47] (by decide +kernel) (by decide +kernel)
set_option maxRecDepth 20000 in
theorem gX10_renumber_Jx4a65c_get_915e3 : GoodIn wsX10_renumber (wsV RX10 188 RJx4a65c yJx4a65c_get_915e3 wsJx4a65c_get_915e3) := goodIn_app (goodIn_of _ (by decide +kernel)) ggX10_renumber_Jx4a65c_get_915e3
theorem dX10_renumber_0 : decode cX10_renumber 0 = .ok (.iconst 0, 1) := by decide +kernel
theorem dX10_renumber_1 : decode cX10_renumber 1 = .ok (.istore_n 3, 1) := by decide +kernel
theorem dX10_renumber_2 : decode cX10_renumber 2 = .ok (.iload_n 3, 1) := by decide +kernel
theorem dX10_renumber_3 : decode cX10_renumber 3 = .ok (.aload_n 0, 1) := by decide +kernel
theorem dX10_renumber_4 : decode cX10_renumber 4 = .ok (.getfield 19, 3) := by decide +kernel
theorem dX10_renumber_7 : decode cX10_renumber 7 = .ok (.invokevirtual 81, 3) := by decide +kernel
theorem dX10_renumber_10 : decode cX10_renumber 10 = .ok (.if_icmp .ge 37, 3) := by decide +kernel
theorem dX10_renumber_13 : decode cX10_renumber 13 = .ok (.aload_n 0, 1) := by decide +kernel
theorem dX10_renumber_14 : decode cX10_renumber 14 = .ok (.getfield 19, 3) := by decide +kernel
theorem dX10_renumber_17 : decode cX10_renumber 17 = .ok (.iload_n 3, 1) := by decide +kernel
theorem dX10_renumber_18 : decode cX10_renumber 18 = .ok (.invokevirtual 188, 3) := by decide +kernel
theorem dX10_renumber_21 : decode cX10_renumber 21 = .ok (.checkcast 89, 3) := by decide +kernel
theorem dX10_renumber_24 : decode cX10_renumber 24 = .ok (.astore 4, 2) := by decide +kernel
theorem dX10_renumber_26 : decode cX10_renumber 26 = .ok (.aload 4, 2) := by decide +kernel
theorem dX10_renumber_28 : decode cX10_renumber 28 = .ok (.getfield 154, 3) := by decide +kernel
theorem dX10_renumber_31 : decode cX10_renumber 31 = .ok (.iload_n 1, 1) := by decide +kernel
theorem dX10_renumber_32 : decode cX10_renumber 32 = .ok (.if_icmp .ne 9, 3) := by decide +kernel
theorem dX10_renumber_35 : decode cX10_renumber 35 = .ok (.aload 4, 2) := by decide +kernel
theorem dX10_renumber_37 : decode cX10_renumber 37 = .ok (.iload_n 2, 1) := by decide +kernel
theorem dX10_renumber_38 : decode cX10_renumber 38 = .ok (.putfield 154, 3) := by decide +kernel
theorem dX10_renumber_41 : decode cX10_renumber 41 = .ok (.iinc 3 1, 3) := by decide +kernel
theorem dX10_renumber_44 : decode cX10_renumber 44 = .ok (.goto (-42), 3) := by decide +kernel
theorem dX10_renumber_47 : decode cX10_renumber 47 = .ok (.return_, 1) := by decide +kernel
set_option maxRecDepth 20000 in
theorem ggX10_lowestOther_Jx4a65c_size_8abf5 : GoodIn wsX10_lowestOther wsJx4a65c_size_8abf5 := goodIn_r _ [9, 10, 46, 47, 48] (by decide +kernel) (by decide +kernel)
set_option maxRecDepth 20000 in
theorem gX10_lowestOther_Jx4a65c_size_8abf5 : GoodIn wsX10_lowestOther (wsV RX10 81 RJx4a65c yJx4a65c_size_8abf5 wsJx4a65c_size_8abf5) := goodIn_app (goodIn_of _ (by decide +kernel)) ggX10_lowestOther_Jx4a65c_size_8abf5
set_option maxRecDepth 20000 in
theorem ggX10_lowestOther_Jx4a65c_get_915e3 : GoodIn wsX10_lowestOther wsJx4a65c_get_915e3 := goodIn_r _ [14, 10, 15, 16, 17, 18, 19, 20, 21, 22, 23, 24, 25, 8, 26, 27, 46, 47, 48] (by decide +kernel) (by decide +kernel)
set_option maxRecDepth 20000 in
theorem gX10_lowestOther_Jx4a65c_get_915e3 : GoodIn wsX10_lowestOther (wsV RX10 188 RJx4a65c yJx4a65c_get_915e3 wsJx4a65c_get_915e3) := goodIn_app (goodIn_of _ (by decide +kernel)) ggX10_lowestOther_Jx4a65c_get_915e3
theorem dX10_lowestOther_0 : decode cX10_lowestOther 0 = .ok (.iconst 0, 1) := by decide +kernel
theorem dX10_lowestOther_1 : decode cX10_lowestOther 1 = .ok (.istore_n 2, 1) := by decide +kernel
theorem dX10_lowestOther_2 : decode cX10_lowestOther 2 = .ok (.iload_n 2, 1) := by decide +kernel
theorem dX10_lowestOther_3 : decode cX10_lowestOther 3 = .ok (.aload_n 0, 1) := by decide +kernel
theorem dX10_lowestOther_4 : decode cX10_lowestOther 4 = .ok (.getfield 19, 3) := by decide +kernel
theorem dX10_lowestOther_7 : decode cX10_lowestOther 7 = .ok (.invokevirtual 81, 3) := by decide +kernel
theorem dX10_lowestOther_10 : decode cX10_lowestOther 10 = .ok (.if_icmp .ge 40, 3) := by decide +kernel
theorem dX10_lowestOther_13 : decode cX10_lowestOther 13 = .ok (.iload_n 2, 1) := by decide +kernel
theorem dX10_lowestOther_14 : decode cX10_lowestOther 14 = .ok (.aload_n 1, 1) := by decide +kernel
theorem dX10_lowestOther_15 : decode cX10_lowestOther 15 = .ok (.getfield 180, 3) := by decide +kernel
theorem dX10_lowestOther_18 : decode cX10_lowestOther 18 = .ok (.if_icmp .eq 26, 3) := by decide +kernel
theorem dX10_lowestOther_21 : decode cX10_lowestOther 21 = .ok (.aload_n 0, 1) := by decide +kernel
theorem dX10_lowestOther_22 : decode cX10_lowestOther 22 = .ok (.getfield 19, 3) := by decide +kernel
theorem dX10_lowestOther_25 : decode cX10_lowestOther 25 = .ok (.iload_n 2, 1) := by decide +kernel
theorem dX10_lowestOther_26 : decode cX10_lowestOther 26 = .ok (.invokevirtual 188, 3) := by decide +kernel
theorem dX10_lowestOther_29 : decode cX10_lowestOther 29 = .ok (.checkcast 89, 3) := by decide +kernel
theorem dX10_lowestOther_32 : decode cX10_lowestOther 32 = .ok (.getfield 154, 3) := by decide +kernel
theorem dX10_lowestOther_35 : decode cX10_lowestOther 35 = .ok (.aload_n 1, 1) := by decide +kernel
theorem dX10_lowestOther_36 : decode cX10_lowestOther 36 = .ok (.getfield 154, 3) := by decide +kernel
theorem dX10_lowestOther_39 : decode cX10_lowestOther 39 = .ok (.if_icmp .ne 5, 3) := by decide +kernel
theorem dX10_lowestOther_42 : decode cX10_lowestOther 42 = .ok (.iload_n 2, 1) := by decide +kernel
theorem dX10_lowestOther_43 : decode cX10_lowestOther 43 = .ok (.ireturn, 1) := by decide +kernel
theorem dX10_lowestOther_44 : decode cX10_lowestOther 44 = .ok (.iinc 2 1, 3) := by decide +kernel
theorem dX10_lowestOther_47 : decode cX10_lowestOther 47 = .ok (.goto (-45), 3) := by decide +kernel
theorem dX10_lowestOther_50 : decode cX10_lowestOther 50 = .ok (.iconst (-1), 1) := by decide +kernel
theorem dX10_lowestOther_51 : decode cX10_lowestOther 51 = .ok (.ireturn, 1) := by decide +kernel
set_option maxRecDepth 20000 in
theorem ggX10_claimOf_Jx4a65c_size_8abf5 : GoodIn wsX10_claimOf wsJx4a65c_size_8abf5 := goodIn_r _ [9, 10, 46, 47, 48] (by decide +kernel) (by decide +kernel)
set_option maxRecDepth 20000 in
theorem gX10_claimOf_Jx4a65c_size_8abf5 : GoodIn wsX10_claimOf (wsV RX10 81 RJx4a65c yJx4a65c_size_8abf5 wsJx4a65c_size_8abf5) := goodIn_app (goodIn_of _ (by decide +kernel)) ggX10_claimOf_Jx4a65c_size_8abf5
set_option maxRecDepth 20000 in
theorem ggX10_claimOf_Jx4a65c_get_915e3 : GoodIn wsX10_claimOf wsJx4a65c_get_915e3 := goodIn_r _ [14, 10, 15, 16, 17, 18, 19, 20, 21, 22, 23, 24, 25, 8, 26, 27, 46, 47, 48] (by decide +kernel) (by decide +kernel)
set_option maxRecDepth 20000 in
theorem gX10_claimOf_Jx4a65c_get_915e3 : GoodIn wsX10_claimOf (wsV RX10 188 RJx4a65c yJx4a65c_get_915e3 wsJx4a65c_get_915e3) := goodIn_app (goodIn_of _ (by decide +kernel)) ggX10_claimOf_Jx4a65c_get_915e3
theorem dX10_claimOf_0 : decode cX10_claimOf 0 = .ok (.iconst 0, 1) := by decide +kernel
theorem dX10_claimOf_1 : decode cX10_claimOf 1 = .ok (.istore_n 2, 1) := by decide +kernel
theorem dX10_claimOf_2 : decode cX10_claimOf 2 = .ok (.iload_n 2, 1) := by decide +kernel
theorem dX10_claimOf_3 : decode cX10_claimOf 3 = .ok (.aload_n 0, 1) := by decide +kernel
theorem dX10_claimOf_4 : decode cX10_claimOf 4 = .ok (.getfield 19, 3) := by decide +kernel
theorem dX10_claimOf_7 : decode cX10_claimOf 7 = .ok (.invokevirtual 81, 3) := by decide +kernel
theorem dX10_claimOf_10 : decode cX10_claimOf 10 = .ok (.if_icmp .ge 41, 3) := by decide +kernel
theorem dX10_claimOf_13 : decode cX10_claimOf 13 = .ok (.aload_n 0, 1) := by decide +kernel
theorem dX10_claimOf_14 : decode cX10_claimOf 14 = .ok (.getfield 19, 3) := by decide +kernel
theorem dX10_claimOf_17 : decode cX10_claimOf 17 = .ok (.iload_n 2, 1) := by decide +kernel
theorem dX10_claimOf_18 : decode cX10_claimOf 18 = .ok (.invokevirtual 188, 3) := by decide +kernel
theorem dX10_claimOf_21 : decode cX10_claimOf 21 = .ok (.checkcast 89, 3) := by decide +kernel
theorem dX10_claimOf_24 : decode cX10_claimOf 24 = .ok (.astore_n 3, 1) := by decide +kernel
theorem dX10_claimOf_25 : decode cX10_claimOf 25 = .ok (.aload_n 3, 1) := by decide +kernel
theorem dX10_claimOf_26 : decode cX10_claimOf 26 = .ok (.getfield 154, 3) := by decide +kernel
theorem dX10_claimOf_29 : decode cX10_claimOf 29 = .ok (.iload_n 1, 1) := by decide +kernel
theorem dX10_claimOf_30 : decode cX10_claimOf 30 = .ok (.if_icmp .ne 15, 3) := by decide +kernel
theorem dX10_claimOf_33 : decode cX10_claimOf 33 = .ok (.aload_n 3, 1) := by decide +kernel
theorem dX10_claimOf_34 : decode cX10_claimOf 34 = .ok (.getfield 237, 3) := by decide +kernel
theorem dX10_claimOf_37 : decode cX10_claimOf 37 = .ok (.ifCond .eq 8, 3) := by decide +kernel
theorem dX10_claimOf_40 : decode cX10_claimOf 40 = .ok (.aload_n 3, 1) := by decide +kernel
theorem dX10_claimOf_41 : decode cX10_claimOf 41 = .ok (.getfield 237, 3) := by decide +kernel
theorem dX10_claimOf_44 : decode cX10_claimOf 44 = .ok (.ireturn, 1) := by decide +kernel
theorem dX10_claimOf_45 : decode cX10_claimOf 45 = .ok (.iinc 2 1, 3) := by decide +kernel
theorem dX10_claimOf_48 : decode cX10_claimOf 48 = .ok (.goto (-46), 3) := by decide +kernel
theorem dX10_claimOf_51 : decode cX10_claimOf 51 = .ok (.iconst 0, 1) := by decide +kernel
theorem dX10_claimOf_52 : decode cX10_claimOf 52 = .ok (.ireturn, 1) := by decide +kernel
set_option maxRecDepth 20000 in
theorem ggX10_gatherCurve_X5_clear : GoodIn wsX10_gatherCurve wsX5_clear := goodIn_r _ [11, 12, 147, 148, 149] (by decide +kernel) (by decide +kernel)
set_option maxRecDepth 20000 in
theorem gX10_gatherCurve_X5_clear : GoodIn wsX10_gatherCurve (wsV RX10 292 RX5 yX5_clear wsX5_clear) := goodIn_app (goodIn_of _ (by decide +kernel)) ggX10_gatherCurve_X5_clear
set_option maxRecDepth 20000 in
theorem ggX10_gatherCurve_Jx4a65c_size_8abf5 : GoodIn wsX10_gatherCurve wsJx4a65c_size_8abf5 := goodIn_r _ [17, 18, 150, 151, 152] (by decide +kernel) (by decide +kernel)
set_option maxRecDepth 20000 in
theorem gX10_gatherCurve_Jx4a65c_size_8abf5 : GoodIn wsX10_gatherCurve (wsV RX10 81 RJx4a65c yJx4a65c_size_8abf5 wsJx4a65c_size_8abf5) := goodIn_app (goodIn_of _ (by decide +kernel)) ggX10_gatherCurve_Jx4a65c_size_8abf5
set_option maxRecDepth 20000 in
theorem ggX10_gatherCurve_Jx4a65c_get_915e3 : GoodIn wsX10_gatherCurve wsJx4a65c_get_915e3 := goodIn_r _ [22, 18, 23, 24, 25, 26, 27, 28, 29, 30, 31, 32, 33, 16, 34, 35, 150, 151, 152] (by decide +kernel) (by decide +kernel)
set_option maxRecDepth 20000 in
theorem gX10_gatherCurve_Jx4a65c_get_915e3 : GoodIn wsX10_gatherCurve (wsV RX10 188 RJx4a65c yJx4a65c_get_915e3 wsJx4a65c_get_915e3) := goodIn_app (goodIn_of _ (by decide +kernel)) ggX10_gatherCurve_Jx4a65c_get_915e3
set_option maxRecDepth 20000 in
theorem ggX10_gatherCurve_X1_trueTime : GoodIn wsX10_gatherCurve wsX1_trueTime := goodIn_r _ [41, 42, 43, 44, 45, 46, 47, 48, 49, 50, 51, 52, 53, 54, 55, 56, 57, 58, 59, 60, 61, 62, 63, 64, 65, 66, 67, 130, 131, 132, 133, 134, 135, 136, 137, 138, 139, 140, 141, 153, 154, 155, 142, 143, 144, 145, 146] (by decide +kernel) (by decide +kernel)
set_option maxRecDepth 20000 in
theorem gX10_gatherCurve_X1_trueTime_u202X1 : GoodIn wsX10_gatherCurve (va_wsU RX10 202 RX1 "LightcurveHouse$Look" ⟨"LightcurveHouse$Look", "trueTime", "()I"⟩ yX1_trueTime wsX1_trueTime) := goodIn_app (goodIn_of _ (by decide +kernel)) ggX10_gatherCurve_X1_trueTime
set_option maxRecDepth 20000 in
theorem ggX10_gatherCurve_X8_trueTime : GoodIn wsX10_gatherCurve wsX8_trueTime := goodIn_r _ [71, 72, 73, 74, 75, 76, 77, 47, 48, 49, 50, 51, 52, 53, 54, 55, 56, 57, 58, 59, 60, 61, 62, 63, 64, 65, 66, 67, 130, 131, 132, 133, 134, 135, 136, 137, 138, 139, 140, 141, 156, 157, 142, 143, 144, 145, 146] (by decide +kernel) (by decide +kernel)
set_option maxRecDepth 20000 in
theorem gX10_gatherCurve_X8_trueTime_u202X8 : GoodIn wsX10_gatherCurve (va_wsU RX10 202 RX8 "LightcurveHouse$Look" ⟨"LightcurveHouse$Look", "trueTime", "()I"⟩ yX8_trueTime wsX8_trueTime) := goodIn_app (goodIn_of _ (by decide +kernel)) ggX10_gatherCurve_X8_trueTime
set_option maxRecDepth 20000 in
theorem ggX10_gatherCurve_X1_trueLight : GoodIn wsX10_gatherCurve wsX1_trueLight := goodIn_r _ [82, 83, 84, 85, 40, 86, 44, 87, 88, 89, 56, 57, 58, 59, 60, 61, 62, 130, 131, 132, 133, 153, 154, 155] (by decide +kernel) (by decide +kernel)
set_option maxRecDepth 20000 in
theorem gX10_gatherCurve_X1_trueLight_u199X1 : GoodIn wsX10_gatherCurve (va_wsU RX10 199 RX1 "LightcurveHouse$Look" ⟨"LightcurveHouse$Look", "trueLight", "()I"⟩ yX1_trueLight wsX1_trueLight) := goodIn_app (goodIn_of _ (by decide +kernel)) ggX10_gatherCurve_X1_trueLight
set_option maxRecDepth 20000 in
theorem ggX10_gatherCurve_X8_trueLight : GoodIn wsX10_gatherCurve wsX8_trueLight := goodIn_r _ [92, 75, 93, 94, 95, 96, 70, 97, 98, 99, 100, 101, 102, 56, 57, 58, 59, 60, 61, 62, 134, 135, 136, 137, 138, 139, 140, 141, 156, 157, 158] (by decide +kernel) (by decide +kernel)
set_option maxRecDepth 20000 in
theorem gX10_gatherCurve_X8_trueLight_u199X8 : GoodIn wsX10_gatherCurve (va_wsU RX10 199 RX8 "LightcurveHouse$Look" ⟨"LightcurveHouse$Look", "trueLight", "()I"⟩ yX8_trueLight wsX8_trueLight) := goodIn_app (goodIn_of _ (by decide +kernel)) ggX10_gatherCurve_X8_trueLight
set_option maxRecDepth 20000 in
theorem ggX10_gatherCurve_X5_add : GoodIn wsX10_gatherCurve wsX5_add := goodIn_r _ [106, 12, 107, 108, 109, 110, 111, 112, 113, 114, 115, 10, 116, 147, 148, 149] (by decide +kernel) (by decide +kernel)
set_option maxRecDepth 20000 in
theorem gX10_gatherCurve_X5_add : GoodIn wsX10_gatherCurve (wsV RX10 302 RX5 yX5_add wsX5_add) := goodIn_app (goodIn_of _ (by decide +kernel)) ggX10_gatherCurve_X5_add
theorem dX10_gatherCurve_0 : decode cX10_gatherCurve 0 = .ok (.aload_n 0, 1) := by decide +kernel
theorem dX10_gatherCurve_1 : decode cX10_gatherCurve 1 = .ok (.getfield 43, 3) := by decide +kernel
theorem dX10_gatherCurve_4 : decode cX10_gatherCurve 4 = .ok (.invokevirtual 292, 3) := by decide +kernel
theorem dX10_gatherCurve_7 : decode cX10_gatherCurve 7 = .ok (.iconst 0, 1) := by decide +kernel
theorem dX10_gatherCurve_8 : decode cX10_gatherCurve 8 = .ok (.istore_n 3, 1) := by decide +kernel
theorem dX10_gatherCurve_9 : decode cX10_gatherCurve 9 = .ok (.iload_n 3, 1) := by decide +kernel
theorem dX10_gatherCurve_10 : decode cX10_gatherCurve 10 = .ok (.aload_n 0, 1) := by decide +kernel
theorem dX10_gatherCurve_11 : decode cX10_gatherCurve 11 = .ok (.getfield 25, 3) := by decide +kernel
theorem dX10_gatherCurve_14 : decode cX10_gatherCurve 14 = .ok (.invokevirtual 81, 3) := by decide +kernel
theorem dX10_gatherCurve_17 : decode cX10_gatherCurve 17 = .ok (.if_icmp .ge 69, 3) := by decide +kernel
theorem dX10_gatherCurve_20 : decode cX10_gatherCurve 20 = .ok (.aload_n 0, 1) := by decide +kernel
theorem dX10_gatherCurve_21 : decode cX10_gatherCurve 21 = .ok (.getfield 25, 3) := by decide +kernel
theorem dX10_gatherCurve_24 : decode cX10_gatherCurve 24 = .ok (.iload_n 3, 1) := by decide +kernel
theorem dX10_gatherCurve_25 : decode cX10_gatherCurve 25 = .ok (.invokevirtual 188, 3) := by decide +kernel
theorem dX10_gatherCurve_28 : decode cX10_gatherCurve 28 = .ok (.checkcast 144, 3) := by decide +kernel
theorem dX10_gatherCurve_31 : decode cX10_gatherCurve 31 = .ok (.astore 4, 2) := by decide +kernel
theorem dX10_gatherCurve_33 : decode cX10_gatherCurve 33 = .ok (.aload 4, 2) := by decide +kernel
theorem dX10_gatherCurve_35 : decode cX10_gatherCurve 35 = .ok (.getfield 205, 3) := by decide +kernel
theorem dX10_gatherCurve_38 : decode cX10_gatherCurve 38 = .ok (.getfield 154, 3) := by decide +kernel
theorem dX10_gatherCurve_41 : decode cX10_gatherCurve 41 = .ok (.istore 5, 2) := by decide +kernel
theorem dX10_gatherCurve_43 : decode cX10_gatherCurve 43 = .ok (.aload 4, 2) := by decide +kernel
theorem dX10_gatherCurve_45 : decode cX10_gatherCurve 45 = .ok (.getfield 143, 3) := by decide +kernel
theorem dX10_gatherCurve_48 : decode cX10_gatherCurve 48 = .ok (.ifCond .ne 32, 3) := by decide +kernel
theorem dX10_gatherCurve_51 : decode cX10_gatherCurve 51 = .ok (.iload 5, 2) := by decide +kernel
theorem dX10_gatherCurve_53 : decode cX10_gatherCurve 53 = .ok (.iload_n 1, 1) := by decide +kernel
theorem dX10_gatherCurve_54 : decode cX10_gatherCurve 54 = .ok (.if_icmp .eq 9, 3) := by decide +kernel
theorem dX10_gatherCurve_57 : decode cX10_gatherCurve 57 = .ok (.iload 5, 2) := by decide +kernel
theorem dX10_gatherCurve_59 : decode cX10_gatherCurve 59 = .ok (.iload_n 2, 1) := by decide +kernel
theorem dX10_gatherCurve_60 : decode cX10_gatherCurve 60 = .ok (.if_icmp .ne 20, 3) := by decide +kernel
theorem dX10_gatherCurve_63 : decode cX10_gatherCurve 63 = .ok (.aload_n 0, 1) := by decide +kernel
theorem dX10_gatherCurve_64 : decode cX10_gatherCurve 64 = .ok (.getfield 43, 3) := by decide +kernel
theorem dX10_gatherCurve_67 : decode cX10_gatherCurve 67 = .ok (.aload 4, 2) := by decide +kernel
theorem dX10_gatherCurve_69 : decode cX10_gatherCurve 69 = .ok (.invokevirtual 202, 3) := by decide +kernel
theorem dX10_gatherCurve_72 : decode cX10_gatherCurve 72 = .ok (.aload 4, 2) := by decide +kernel
theorem dX10_gatherCurve_74 : decode cX10_gatherCurve 74 = .ok (.invokevirtual 199, 3) := by decide +kernel
theorem dX10_gatherCurve_77 : decode cX10_gatherCurve 77 = .ok (.invokevirtual 302, 3) := by decide +kernel
theorem dX10_gatherCurve_80 : decode cX10_gatherCurve 80 = .ok (.iinc 3 1, 3) := by decide +kernel
theorem dX10_gatherCurve_83 : decode cX10_gatherCurve 83 = .ok (.goto (-74), 3) := by decide +kernel
theorem dX10_gatherCurve_86 : decode cX10_gatherCurve 86 = .ok (.return_, 1) := by decide +kernel
set_option maxRecDepth 20000 in
theorem ggX10_gatherCurveForTrials_X10_gatherCurve : GoodIn wsX10_gatherCurveForTrials wsX10_gatherCurve := goodIn_r _ [8, 3, 9, 10, 11, 12, 13, 14, 15, 16, 17, 18, 19, 20, 21, 22, 23, 24, 25, 26, 27, 28, 29, 30, 31, 32, 33, 34, 35, 36, 37, 38, 39, 40, 41, 42, 43, 44, 45, 46, 47, 48, 49, 50, 51, 52, 53, 54, 55, 56, 57, 58, 59, 60, 61, 62, 63, 7, 64, 65, 66, 67, 68, 69, 70, 71, 72, 73, 74, 75, 76, 77, 78, 79, 80, 81, 82, 83, 84, 85, 86, 87, 88, 89, 90, 91, 92, 93, 94, 95, 96, 97, 98, 99, 100, 101, 102, 103, 104, 105, 106, 107, 108, 109, 110, 111, 112, 113, 114, 115, 116, 117, 118, 119, 120, 121, 122, 127, 128, 129, 130, 131, 132, 133, 134, 135, 136, 137, 138, 139, 140, 141, 142, 143, 144, 145, 146, 147, 148, 149, 150, 151, 152, 153, 154, 155, 156, 157, 158, 159, 160, 161, 162, 163, 164, 165, 166, 167, 168] (by decide +kernel) (by decide +kernel)
set_option maxRecDepth 20000 in
theorem gX10_gatherCurveForTrials_X10_gatherCurve : GoodIn wsX10_gatherCurveForTrials (wsV RX10 217 RX10 yX10_gatherCurve wsX10_gatherCurve) := goodIn_app (goodIn_of _ (by decide +kernel)) ggX10_gatherCurveForTrials_X10_gatherCurve
set_option maxRecDepth 20000 in
theorem ggX10_gatherCurveForTrials_X5_size : GoodIn wsX10_gatherCurveForTrials wsX5_size := goodIn_r _ [126, 19, 157, 158, 159] (by decide +kernel) (by decide +kernel)
set_option maxRecDepth 20000 in
theorem gX10_gatherCurveForTrials_X5_size : GoodIn wsX10_gatherCurveForTrials (wsV RX10 267 RX5 yX5_size wsX5_size) := goodIn_app (goodIn_of _ (by decide +kernel)) ggX10_gatherCurveForTrials_X5_size
theorem dX10_gatherCurveForTrials_0 : decode cX10_gatherCurveForTrials 0 = .ok (.aload_n 0, 1) := by decide +kernel
theorem dX10_gatherCurveForTrials_1 : decode cX10_gatherCurveForTrials 1 = .ok (.iload_n 1, 1) := by decide +kernel
theorem dX10_gatherCurveForTrials_2 : decode cX10_gatherCurveForTrials 2 = .ok (.iload_n 1, 1) := by decide +kernel
theorem dX10_gatherCurveForTrials_3 : decode cX10_gatherCurveForTrials 3 = .ok (.invokevirtual 217, 3) := by decide +kernel
theorem dX10_gatherCurveForTrials_6 : decode cX10_gatherCurveForTrials 6 = .ok (.aload_n 0, 1) := by decide +kernel
theorem dX10_gatherCurveForTrials_7 : decode cX10_gatherCurveForTrials 7 = .ok (.getfield 43, 3) := by decide +kernel
theorem dX10_gatherCurveForTrials_10 : decode cX10_gatherCurveForTrials 10 = .ok (.invokevirtual 267, 3) := by decide +kernel
theorem dX10_gatherCurveForTrials_13 : decode cX10_gatherCurveForTrials 13 = .ok (.iconst 3, 1) := by decide +kernel
theorem dX10_gatherCurveForTrials_14 : decode cX10_gatherCurveForTrials 14 = .ok (.if_icmp .ge 14, 3) := by decide +kernel
theorem dX10_gatherCurveForTrials_17 : decode cX10_gatherCurveForTrials 17 = .ok (.new 157, 3) := by decide +kernel
theorem dX10_gatherCurveForTrials_20 : decode cX10_gatherCurveForTrials 20 = .ok (.dup, 1) := by decide +kernel
theorem dX10_gatherCurveForTrials_21 : decode cX10_gatherCurveForTrials 21 = .ok (.ldc_w 326, 3) := by decide +kernel
theorem dX10_gatherCurveForTrials_24 : decode cX10_gatherCurveForTrials 24 = .ok (.invokespecial 161, 3) := by decide +kernel
theorem dX10_gatherCurveForTrials_27 : decode cX10_gatherCurveForTrials 27 = .ok (.athrow, 1) := by decide +kernel
theorem dX10_gatherCurveForTrials_28 : decode cX10_gatherCurveForTrials 28 = .ok (.return_, 1) := by decide +kernel
set_option maxRecDepth 20000 in
theorem ggX10_gatherClaimedCurve_X10_gatherCurve : GoodIn wsX10_gatherClaimedCurve wsX10_gatherCurve := goodIn_r _ [7, 8, 9, 10, 11, 12, 13, 14, 15, 16, 17, 18, 19, 20, 21, 22, 23, 24, 25, 26, 27, 28, 29, 30, 31, 32, 33, 34, 35, 36, 37, 38, 39, 40, 41, 42, 43, 44, 45, 46, 47, 48, 49, 50, 51, 52, 53, 54, 55, 56, 57, 58, 59, 60, 61, 62, 63, 6, 64, 65, 66, 67, 68, 69, 70, 71, 72, 73, 74, 75, 76, 77, 78, 79, 80, 81, 82, 83, 84, 85, 86, 87, 88, 89, 90, 91, 92, 93, 94, 95, 96, 97, 98, 99, 100, 101, 102, 103, 104, 105, 106, 107, 108, 109, 110, 111, 112, 113, 114, 115, 116, 117, 118, 119, 120, 121, 122, 138, 139, 140, 141, 142, 143, 144, 145, 146, 147, 148, 149, 150, 151, 152, 153, 154, 155, 156, 157, 158, 159, 160, 161, 162, 163, 164, 165, 166, 167, 168, 169, 170, 171, 172, 173, 174, 175, 176, 177, 178, 179] (by decide +kernel) (by decide +kernel)
set_option maxRecDepth 20000 in
theorem gX10_gatherClaimedCurve_X10_gatherCurve : GoodIn wsX10_gatherClaimedCurve (wsV RX10 217 RX10 yX10_gatherCurve wsX10_gatherCurve) := goodIn_app (goodIn_of _ (by decide +kernel)) ggX10_gatherClaimedCurve_X10_gatherCurve
set_option maxRecDepth 20000 in
theorem ggX10_gatherClaimedCurve_X10_claimOf : GoodIn wsX10_gatherClaimedCurve wsX10_claimOf := goodIn_r _ [126, 127, 128, 12, 129, 20, 21, 22, 23, 24, 25, 26, 27, 28, 29, 30, 31, 32, 33, 34, 35, 36, 37, 38, 39, 40, 41, 42, 138, 139, 140, 141, 142, 143, 144, 145, 146, 147, 148, 149, 150, 163, 164, 165, 166, 167, 171, 172, 173] (by decide +kernel) (by decide +kernel)
set_option maxRecDepth 20000 in
theorem gX10_gatherClaimedCurve_X10_claimOf : GoodIn wsX10_gatherClaimedCurve (wsV RX10 295 RX10 yX10_claimOf wsX10_claimOf) := goodIn_app (goodIn_of _ (by decide +kernel)) ggX10_gatherClaimedCurve_X10_claimOf
set_option maxRecDepth 20000 in
theorem ggX10_gatherClaimedCurve_X10_hasFeatures : GoodIn wsX10_gatherClaimedCurve wsX10_hasFeatures := goodIn_r _ [133, 8, 134, 135, 136, 17, 137, 19, 138, 139, 140, 141, 142, 143, 144, 145, 146, 147, 148, 149, 150, 168, 169, 170] (by decide +kernel) (by decide +kernel)
set_option maxRecDepth 20000 in
theorem gX10_gatherClaimedCurve_X10_hasFeatures : GoodIn wsX10_gatherClaimedCurve (wsV RX10 298 RX10 yX10_hasFeatures wsX10_hasFeatures) := goodIn_app (goodIn_of _ (by decide +kernel)) ggX10_gatherClaimedCurve_X10_hasFeatures
theorem dX10_gatherClaimedCurve_0 : decode cX10_gatherClaimedCurve 0 = .ok (.aload_n 0, 1) := by decide +kernel
theorem dX10_gatherClaimedCurve_1 : decode cX10_gatherClaimedCurve 1 = .ok (.iload_n 1, 1) := by decide +kernel
theorem dX10_gatherClaimedCurve_2 : decode cX10_gatherClaimedCurve 2 = .ok (.iload_n 1, 1) := by decide +kernel
theorem dX10_gatherClaimedCurve_3 : decode cX10_gatherClaimedCurve 3 = .ok (.invokevirtual 217, 3) := by decide +kernel
theorem dX10_gatherClaimedCurve_6 : decode cX10_gatherClaimedCurve 6 = .ok (.aload_n 0, 1) := by decide +kernel
theorem dX10_gatherClaimedCurve_7 : decode cX10_gatherClaimedCurve 7 = .ok (.iload_n 1, 1) := by decide +kernel
theorem dX10_gatherClaimedCurve_8 : decode cX10_gatherClaimedCurve 8 = .ok (.invokevirtual 295, 3) := by decide +kernel
theorem dX10_gatherClaimedCurve_11 : decode cX10_gatherClaimedCurve 11 = .ok (.istore_n 2, 1) := by decide +kernel
theorem dX10_gatherClaimedCurve_12 : decode cX10_gatherClaimedCurve 12 = .ok (.aload_n 0, 1) := by decide +kernel
theorem dX10_gatherClaimedCurve_13 : decode cX10_gatherClaimedCurve 13 = .ok (.iload_n 2, 1) := by decide +kernel
theorem dX10_gatherClaimedCurve_14 : decode cX10_gatherClaimedCurve 14 = .ok (.invokevirtual 298, 3) := by decide +kernel
theorem dX10_gatherClaimedCurve_17 : decode cX10_gatherClaimedCurve 17 = .ok (.ifCond .ne 14, 3) := by decide +kernel
theorem dX10_gatherClaimedCurve_20 : decode cX10_gatherClaimedCurve 20 = .ok (.new 157, 3) := by decide +kernel
theorem dX10_gatherClaimedCurve_23 : decode cX10_gatherClaimedCurve 23 = .ok (.dup, 1) := by decide +kernel
theorem dX10_gatherClaimedCurve_24 : decode cX10_gatherClaimedCurve 24 = .ok (.ldc_w 328, 3) := by decide +kernel
theorem dX10_gatherClaimedCurve_27 : decode cX10_gatherClaimedCurve 27 = .ok (.invokespecial 161, 3) := by decide +kernel
theorem dX10_gatherClaimedCurve_30 : decode cX10_gatherClaimedCurve 30 = .ok (.athrow, 1) := by decide +kernel
theorem dX10_gatherClaimedCurve_31 : decode cX10_gatherClaimedCurve 31 = .ok (.iload_n 2, 1) := by decide +kernel
theorem dX10_gatherClaimedCurve_32 : decode cX10_gatherClaimedCurve 32 = .ok (.ireturn, 1) := by decide +kernel
set_option maxRecDepth 20000 in
theorem ggX10_hasFeatures_X5_size : GoodIn wsX10_hasFeatures wsX5_size := goodIn_r _ [6, 7, 21, 22, 23] (by decide +kernel) (by decide +kernel)
set_option maxRecDepth 20000 in
theorem gX10_hasFeatures_X5_size : GoodIn wsX10_hasFeatures (wsV RX10 267 RX5 yX5_size wsX5_size) := goodIn_app (goodIn_of _ (by decide +kernel)) ggX10_hasFeatures_X5_size
theorem dX10_hasFeatures_0 : decode cX10_hasFeatures 0 = .ok (.iload_n 1, 1) := by decide +kernel
theorem dX10_hasFeatures_1 : decode cX10_hasFeatures 1 = .ok (.ifCond .eq 17, 3) := by decide +kernel
theorem dX10_hasFeatures_4 : decode cX10_hasFeatures 4 = .ok (.aload_n 0, 1) := by decide +kernel
theorem dX10_hasFeatures_5 : decode cX10_hasFeatures 5 = .ok (.getfield 43, 3) := by decide +kernel
theorem dX10_hasFeatures_8 : decode cX10_hasFeatures 8 = .ok (.invokevirtual 267, 3) := by decide +kernel
theorem dX10_hasFeatures_11 : decode cX10_hasFeatures 11 = .ok (.ifCond .le 7, 3) := by decide +kernel
theorem dX10_hasFeatures_14 : decode cX10_hasFeatures 14 = .ok (.iconst 1, 1) := by decide +kernel
theorem dX10_hasFeatures_15 : decode cX10_hasFeatures 15 = .ok (.goto 4, 3) := by decide +kernel
theorem dX10_hasFeatures_18 : decode cX10_hasFeatures 18 = .ok (.iconst 0, 1) := by decide +kernel
theorem dX10_hasFeatures_19 : decode cX10_hasFeatures 19 = .ok (.ireturn, 1) := by decide +kernel
set_option maxRecDepth 20000 in
theorem ggX10_stringLength_X5_clear : GoodIn wsX10_stringLength wsX5_clear := goodIn_r _ [11, 12, 60, 61, 62] (by decide +kernel) (by decide +kernel)
set_option maxRecDepth 20000 in
theorem gX10_stringLength_X5_clear : GoodIn wsX10_stringLength (wsV RX10 292 RX5 yX5_clear wsX5_clear) := goodIn_app (goodIn_of _ (by decide +kernel)) ggX10_stringLength_X5_clear
set_option maxRecDepth 20000 in
theorem ggX10_stringLength_X5_size : GoodIn wsX10_stringLength wsX5_size := goodIn_r _ [16, 12, 60, 61, 62] (by decide +kernel) (by decide +kernel)
set_option maxRecDepth 20000 in
theorem gX10_stringLength_X5_size : GoodIn wsX10_stringLength (wsV RX10 267 RX5 yX5_size wsX5_size) := goodIn_app (goodIn_of _ (by decide +kernel)) ggX10_stringLength_X5_size
set_option maxRecDepth 20000 in
theorem ggX10_stringLength_X5_key : GoodIn wsX10_stringLength wsX5_key := goodIn_r _ [20, 12, 21, 60, 61, 62] (by decide +kernel) (by decide +kernel)
set_option maxRecDepth 20000 in
theorem gX10_stringLength_X5_key : GoodIn wsX10_stringLength (wsV RX10 330 RX5 yX5_key wsX5_key) := goodIn_app (goodIn_of _ (by decide +kernel)) ggX10_stringLength_X5_key
set_option maxRecDepth 20000 in
theorem ggX10_stringLength_X10_remainder : GoodIn wsX10_stringLength wsX10_remainder := goodIn_r _ [25, 26, 27, 28, 29] (by decide +kernel) (by decide +kernel)
set_option maxRecDepth 20000 in
theorem gX10_stringLength_X10_remainder : GoodIn wsX10_stringLength (va_wsS RX10 333 yX10_remainder wsX10_remainder) := goodIn_app (goodIn_of _ (by decide +kernel)) ggX10_stringLength_X10_remainder
set_option maxRecDepth 20000 in
theorem ggX10_stringLength_X5_value : GoodIn wsX10_stringLength wsX5_value := goodIn_r _ [33, 12, 34, 60, 61, 62] (by decide +kernel) (by decide +kernel)
set_option maxRecDepth 20000 in
theorem gX10_stringLength_X5_value : GoodIn wsX10_stringLength (wsV RX10 304 RX5 yX5_value wsX5_value) := goodIn_app (goodIn_of _ (by decide +kernel)) ggX10_stringLength_X5_value
set_option maxRecDepth 20000 in
theorem ggX10_stringLength_X5_add : GoodIn wsX10_stringLength wsX5_add := goodIn_r _ [38, 12, 21, 39, 40, 41, 42, 34, 43, 44, 45, 10, 46, 60, 61, 62] (by decide +kernel) (by decide +kernel)
set_option maxRecDepth 20000 in
theorem gX10_stringLength_X5_add : GoodIn wsX10_stringLength (wsV RX10 302 RX5 yX5_add wsX5_add) := goodIn_app (goodIn_of _ (by decide +kernel)) ggX10_stringLength_X5_add
theorem dX10_stringLength_0 : decode cX10_stringLength 0 = .ok (.aload_n 0, 1) := by decide +kernel
theorem dX10_stringLength_1 : decode cX10_stringLength 1 = .ok (.getfield 47, 3) := by decide +kernel
theorem dX10_stringLength_4 : decode cX10_stringLength 4 = .ok (.invokevirtual 292, 3) := by decide +kernel
theorem dX10_stringLength_7 : decode cX10_stringLength 7 = .ok (.iconst 0, 1) := by decide +kernel
theorem dX10_stringLength_8 : decode cX10_stringLength 8 = .ok (.istore_n 2, 1) := by decide +kernel
theorem dX10_stringLength_9 : decode cX10_stringLength 9 = .ok (.iload_n 2, 1) := by decide +kernel
theorem dX10_stringLength_10 : decode cX10_stringLength 10 = .ok (.aload_n 0, 1) := by decide +kernel
theorem dX10_stringLength_11 : decode cX10_stringLength 11 = .ok (.getfield 43, 3) := by decide +kernel
theorem dX10_stringLength_14 : decode cX10_stringLength 14 = .ok (.invokevirtual 267, 3) := by decide +kernel
theorem dX10_stringLength_17 : decode cX10_stringLength 17 = .ok (.if_icmp .ge 36, 3) := by decide +kernel
theorem dX10_stringLength_20 : decode cX10_stringLength 20 = .ok (.aload_n 0, 1) := by decide +kernel
theorem dX10_stringLength_21 : decode cX10_stringLength 21 = .ok (.getfield 47, 3) := by decide +kernel
theorem dX10_stringLength_24 : decode cX10_stringLength 24 = .ok (.aload_n 0, 1) := by decide +kernel
theorem dX10_stringLength_25 : decode cX10_stringLength 25 = .ok (.getfield 43, 3) := by decide +kernel
theorem dX10_stringLength_28 : decode cX10_stringLength 28 = .ok (.iload_n 2, 1) := by decide +kernel
theorem dX10_stringLength_29 : decode cX10_stringLength 29 = .ok (.invokevirtual 330, 3) := by decide +kernel
theorem dX10_stringLength_32 : decode cX10_stringLength 32 = .ok (.iload_n 1, 1) := by decide +kernel
theorem dX10_stringLength_33 : decode cX10_stringLength 33 = .ok (.invokestatic 333, 3) := by decide +kernel
theorem dX10_stringLength_36 : decode cX10_stringLength 36 = .ok (.aload_n 0, 1) := by decide +kernel
theorem dX10_stringLength_37 : decode cX10_stringLength 37 = .ok (.getfield 43, 3) := by decide +kernel
theorem dX10_stringLength_40 : decode cX10_stringLength 40 = .ok (.iload_n 2, 1) := by decide +kernel
theorem dX10_stringLength_41 : decode cX10_stringLength 41 = .ok (.invokevirtual 304, 3) := by decide +kernel
theorem dX10_stringLength_44 : decode cX10_stringLength 44 = .ok (.invokevirtual 302, 3) := by decide +kernel
theorem dX10_stringLength_47 : decode cX10_stringLength 47 = .ok (.iinc 2 1, 3) := by decide +kernel
theorem dX10_stringLength_50 : decode cX10_stringLength 50 = .ok (.goto (-41), 3) := by decide +kernel
theorem dX10_stringLength_53 : decode cX10_stringLength 53 = .ok (.iconst 0, 1) := by decide +kernel
theorem dX10_stringLength_54 : decode cX10_stringLength 54 = .ok (.istore_n 2, 1) := by decide +kernel
theorem dX10_stringLength_55 : decode cX10_stringLength 55 = .ok (.aload_n 0, 1) := by decide +kernel
theorem dX10_stringLength_56 : decode cX10_stringLength 56 = .ok (.getfield 47, 3) := by decide +kernel
theorem dX10_stringLength_59 : decode cX10_stringLength 59 = .ok (.aload_n 0, 1) := by decide +kernel
theorem dX10_stringLength_60 : decode cX10_stringLength 60 = .ok (.getfield 47, 3) := by decide +kernel
theorem dX10_stringLength_63 : decode cX10_stringLength 63 = .ok (.invokevirtual 267, 3) := by decide +kernel
theorem dX10_stringLength_66 : decode cX10_stringLength 66 = .ok (.iconst 1, 1) := by decide +kernel
theorem dX10_stringLength_67 : decode cX10_stringLength 67 = .ok (.isub, 1) := by decide +kernel
theorem dX10_stringLength_68 : decode cX10_stringLength 68 = .ok (.invokevirtual 304, 3) := by decide +kernel
theorem dX10_stringLength_71 : decode cX10_stringLength 71 = .ok (.istore_n 3, 1) := by decide +kernel
theorem dX10_stringLength_72 : decode cX10_stringLength 72 = .ok (.iconst 0, 1) := by decide +kernel
theorem dX10_stringLength_73 : decode cX10_stringLength 73 = .ok (.istore 4, 2) := by decide +kernel
theorem dX10_stringLength_75 : decode cX10_stringLength 75 = .ok (.iload 4, 2) := by decide +kernel
theorem dX10_stringLength_77 : decode cX10_stringLength 77 = .ok (.aload_n 0, 1) := by decide +kernel
theorem dX10_stringLength_78 : decode cX10_stringLength 78 = .ok (.getfield 47, 3) := by decide +kernel
theorem dX10_stringLength_81 : decode cX10_stringLength 81 = .ok (.invokevirtual 267, 3) := by decide +kernel
theorem dX10_stringLength_84 : decode cX10_stringLength 84 = .ok (.if_icmp .ge 33, 3) := by decide +kernel
theorem dX10_stringLength_87 : decode cX10_stringLength 87 = .ok (.aload_n 0, 1) := by decide +kernel
theorem dX10_stringLength_88 : decode cX10_stringLength 88 = .ok (.getfield 47, 3) := by decide +kernel
theorem dX10_stringLength_91 : decode cX10_stringLength 91 = .ok (.iload 4, 2) := by decide +kernel
theorem dX10_stringLength_93 : decode cX10_stringLength 93 = .ok (.invokevirtual 304, 3) := by decide +kernel
theorem dX10_stringLength_96 : decode cX10_stringLength 96 = .ok (.istore 5, 2) := by decide +kernel
theorem dX10_stringLength_98 : decode cX10_stringLength 98 = .ok (.iload_n 2, 1) := by decide +kernel
theorem dX10_stringLength_99 : decode cX10_stringLength 99 = .ok (.iload 5, 2) := by decide +kernel
theorem dX10_stringLength_101 : decode cX10_stringLength 101 = .ok (.iload_n 3, 1) := by decide +kernel
theorem dX10_stringLength_102 : decode cX10_stringLength 102 = .ok (.isub, 1) := by decide +kernel
theorem dX10_stringLength_103 : decode cX10_stringLength 103 = .ok (.invokestatic 277, 3) := by decide +kernel
theorem dX10_stringLength_106 : decode cX10_stringLength 106 = .ok (.iadd, 1) := by decide +kernel
theorem dX10_stringLength_107 : decode cX10_stringLength 107 = .ok (.istore_n 2, 1) := by decide +kernel
theorem dX10_stringLength_108 : decode cX10_stringLength 108 = .ok (.iload 5, 2) := by decide +kernel
theorem dX10_stringLength_110 : decode cX10_stringLength 110 = .ok (.istore_n 3, 1) := by decide +kernel
theorem dX10_stringLength_111 : decode cX10_stringLength 111 = .ok (.iinc 4 1, 3) := by decide +kernel
theorem dX10_stringLength_114 : decode cX10_stringLength 114 = .ok (.goto (-39), 3) := by decide +kernel
theorem dX10_stringLength_117 : decode cX10_stringLength 117 = .ok (.iload_n 2, 1) := by decide +kernel
theorem dX10_stringLength_118 : decode cX10_stringLength 118 = .ok (.ireturn, 1) := by decide +kernel
set_option maxRecDepth 20000 in
theorem ggX10_bestTrial_X10_stringLength : GoodIn wsX10_bestTrial wsX10_stringLength := goodIn_r _ [6, 7, 8, 9, 10, 11, 12, 13, 14, 15, 16, 17, 18, 19, 20, 21, 22, 23, 24, 25, 26, 27, 28, 29, 5, 30, 31, 32, 33, 34, 35, 36, 37, 38, 39, 40, 41, 42, 43, 44, 45, 46, 47, 48, 49, 50, 51, 52, 53, 54, 55, 56, 57, 58, 59, 60, 61, 62, 63, 64, 65, 66, 67] (by decide +kernel) (by decide +kernel)
set_option maxRecDepth 20000 in
theorem gX10_bestTrial_X10_stringLength : GoodIn wsX10_bestTrial (wsV RX10 220 RX10 yX10_stringLength wsX10_stringLength) := goodIn_app (goodIn_of _ (by decide +kernel)) ggX10_bestTrial_X10_stringLength
theorem dX10_bestTrial_0 : decode cX10_bestTrial 0 = .ok (.iconst 0, 1) := by decide +kernel
theorem dX10_bestTrial_1 : decode cX10_bestTrial 1 = .ok (.istore 4, 2) := by decide +kernel
theorem dX10_bestTrial_3 : decode cX10_bestTrial 3 = .ok (.iconst 0, 1) := by decide +kernel
theorem dX10_bestTrial_4 : decode cX10_bestTrial 4 = .ok (.istore 5, 2) := by decide +kernel
theorem dX10_bestTrial_6 : decode cX10_bestTrial 6 = .ok (.iload 5, 2) := by decide +kernel
theorem dX10_bestTrial_8 : decode cX10_bestTrial 8 = .ok (.iload_n 3, 1) := by decide +kernel
theorem dX10_bestTrial_9 : decode cX10_bestTrial 9 = .ok (.if_icmp .ge 57, 3) := by decide +kernel
theorem dX10_bestTrial_12 : decode cX10_bestTrial 12 = .ok (.iload 5, 2) := by decide +kernel
theorem dX10_bestTrial_14 : decode cX10_bestTrial 14 = .ok (.aload_n 0, 1) := by decide +kernel
theorem dX10_bestTrial_15 : decode cX10_bestTrial 15 = .ok (.getfield 56, 3) := by decide +kernel
theorem dX10_bestTrial_18 : decode cX10_bestTrial 18 = .ok (.arraylength, 1) := by decide +kernel
theorem dX10_bestTrial_19 : decode cX10_bestTrial 19 = .ok (.if_icmp .ge 47, 3) := by decide +kernel
theorem dX10_bestTrial_22 : decode cX10_bestTrial 22 = .ok (.aload_n 0, 1) := by decide +kernel
theorem dX10_bestTrial_23 : decode cX10_bestTrial 23 = .ok (.getfield 56, 3) := by decide +kernel
theorem dX10_bestTrial_26 : decode cX10_bestTrial 26 = .ok (.iload 5, 2) := by decide +kernel
theorem dX10_bestTrial_28 : decode cX10_bestTrial 28 = .ok (.aload_n 0, 1) := by decide +kernel
theorem dX10_bestTrial_29 : decode cX10_bestTrial 29 = .ok (.iload_n 1, 1) := by decide +kernel
theorem dX10_bestTrial_30 : decode cX10_bestTrial 30 = .ok (.iload 5, 2) := by decide +kernel
theorem dX10_bestTrial_32 : decode cX10_bestTrial 32 = .ok (.iload_n 2, 1) := by decide +kernel
theorem dX10_bestTrial_33 : decode cX10_bestTrial 33 = .ok (.imul, 1) := by decide +kernel
theorem dX10_bestTrial_34 : decode cX10_bestTrial 34 = .ok (.iadd, 1) := by decide +kernel
theorem dX10_bestTrial_35 : decode cX10_bestTrial 35 = .ok (.invokevirtual 220, 3) := by decide +kernel
theorem dX10_bestTrial_38 : decode cX10_bestTrial 38 = .ok (.iastore, 1) := by decide +kernel
theorem dX10_bestTrial_39 : decode cX10_bestTrial 39 = .ok (.aload_n 0, 1) := by decide +kernel
theorem dX10_bestTrial_40 : decode cX10_bestTrial 40 = .ok (.getfield 56, 3) := by decide +kernel
theorem dX10_bestTrial_43 : decode cX10_bestTrial 43 = .ok (.iload 5, 2) := by decide +kernel
theorem dX10_bestTrial_45 : decode cX10_bestTrial 45 = .ok (.iaload, 1) := by decide +kernel
theorem dX10_bestTrial_46 : decode cX10_bestTrial 46 = .ok (.aload_n 0, 1) := by decide +kernel
theorem dX10_bestTrial_47 : decode cX10_bestTrial 47 = .ok (.getfield 56, 3) := by decide +kernel
theorem dX10_bestTrial_50 : decode cX10_bestTrial 50 = .ok (.iload 4, 2) := by decide +kernel
theorem dX10_bestTrial_52 : decode cX10_bestTrial 52 = .ok (.iaload, 1) := by decide +kernel
theorem dX10_bestTrial_53 : decode cX10_bestTrial 53 = .ok (.if_icmp .ge 7, 3) := by decide +kernel
theorem dX10_bestTrial_56 : decode cX10_bestTrial 56 = .ok (.iload 5, 2) := by decide +kernel
theorem dX10_bestTrial_58 : decode cX10_bestTrial 58 = .ok (.istore 4, 2) := by decide +kernel
theorem dX10_bestTrial_60 : decode cX10_bestTrial 60 = .ok (.iinc 5 1, 3) := by decide +kernel
theorem dX10_bestTrial_63 : decode cX10_bestTrial 63 = .ok (.goto (-57), 3) := by decide +kernel
theorem dX10_bestTrial_66 : decode cX10_bestTrial 66 = .ok (.iload 4, 2) := by decide +kernel
theorem dX10_bestTrial_68 : decode cX10_bestTrial 68 = .ok (.ireturn, 1) := by decide +kernel
theorem dX10_countAliases_0 : decode cX10_countAliases 0 = .ok (.iload_n 1, 1) := by decide +kernel
theorem dX10_countAliases_1 : decode cX10_countAliases 1 = .ok (.ifCond .lt 12, 3) := by decide +kernel
theorem dX10_countAliases_4 : decode cX10_countAliases 4 = .ok (.iload_n 1, 1) := by decide +kernel
theorem dX10_countAliases_5 : decode cX10_countAliases 5 = .ok (.aload_n 0, 1) := by decide +kernel
theorem dX10_countAliases_6 : decode cX10_countAliases 6 = .ok (.getfield 56, 3) := by decide +kernel
theorem dX10_countAliases_9 : decode cX10_countAliases 9 = .ok (.arraylength, 1) := by decide +kernel
theorem dX10_countAliases_10 : decode cX10_countAliases 10 = .ok (.if_icmp .lt 5, 3) := by decide +kernel
theorem dX10_countAliases_13 : decode cX10_countAliases 13 = .ok (.iconst 0, 1) := by decide +kernel
theorem dX10_countAliases_14 : decode cX10_countAliases 14 = .ok (.ireturn, 1) := by decide +kernel
theorem dX10_countAliases_15 : decode cX10_countAliases 15 = .ok (.bipush 100, 2) := by decide +kernel
theorem dX10_countAliases_17 : decode cX10_countAliases 17 = .ok (.iload_n 3, 1) := by decide +kernel
theorem dX10_countAliases_18 : decode cX10_countAliases 18 = .ok (.iadd, 1) := by decide +kernel
theorem dX10_countAliases_19 : decode cX10_countAliases 19 = .ok (.aload_n 0, 1) := by decide +kernel
theorem dX10_countAliases_20 : decode cX10_countAliases 20 = .ok (.getfield 56, 3) := by decide +kernel
theorem dX10_countAliases_23 : decode cX10_countAliases 23 = .ok (.iload_n 1, 1) := by decide +kernel
theorem dX10_countAliases_24 : decode cX10_countAliases 24 = .ok (.iaload, 1) := by decide +kernel
theorem dX10_countAliases_25 : decode cX10_countAliases 25 = .ok (.imul, 1) := by decide +kernel
theorem dX10_countAliases_26 : decode cX10_countAliases 26 = .ok (.istore 4, 2) := by decide +kernel
theorem dX10_countAliases_28 : decode cX10_countAliases 28 = .ok (.iconst 0, 1) := by decide +kernel
theorem dX10_countAliases_29 : decode cX10_countAliases 29 = .ok (.istore 5, 2) := by decide +kernel
theorem dX10_countAliases_31 : decode cX10_countAliases 31 = .ok (.iconst 0, 1) := by decide +kernel
theorem dX10_countAliases_32 : decode cX10_countAliases 32 = .ok (.istore 6, 2) := by decide +kernel
theorem dX10_countAliases_34 : decode cX10_countAliases 34 = .ok (.iload 6, 2) := by decide +kernel
theorem dX10_countAliases_36 : decode cX10_countAliases 36 = .ok (.iload_n 2, 1) := by decide +kernel
theorem dX10_countAliases_37 : decode cX10_countAliases 37 = .ok (.if_icmp .ge 43, 3) := by decide +kernel
theorem dX10_countAliases_40 : decode cX10_countAliases 40 = .ok (.iload 6, 2) := by decide +kernel
theorem dX10_countAliases_42 : decode cX10_countAliases 42 = .ok (.aload_n 0, 1) := by decide +kernel
theorem dX10_countAliases_43 : decode cX10_countAliases 43 = .ok (.getfield 56, 3) := by decide +kernel
theorem dX10_countAliases_46 : decode cX10_countAliases 46 = .ok (.arraylength, 1) := by decide +kernel
theorem dX10_countAliases_47 : decode cX10_countAliases 47 = .ok (.if_icmp .ge 33, 3) := by decide +kernel
theorem dX10_countAliases_50 : decode cX10_countAliases 50 = .ok (.iload 6, 2) := by decide +kernel
theorem dX10_countAliases_52 : decode cX10_countAliases 52 = .ok (.iload_n 1, 1) := by decide +kernel
theorem dX10_countAliases_53 : decode cX10_countAliases 53 = .ok (.if_icmp .eq 21, 3) := by decide +kernel
theorem dX10_countAliases_56 : decode cX10_countAliases 56 = .ok (.bipush 100, 2) := by decide +kernel
theorem dX10_countAliases_58 : decode cX10_countAliases 58 = .ok (.aload_n 0, 1) := by decide +kernel
theorem dX10_countAliases_59 : decode cX10_countAliases 59 = .ok (.getfield 56, 3) := by decide +kernel
theorem dX10_countAliases_62 : decode cX10_countAliases 62 = .ok (.iload 6, 2) := by decide +kernel
theorem dX10_countAliases_64 : decode cX10_countAliases 64 = .ok (.iaload, 1) := by decide +kernel
theorem dX10_countAliases_65 : decode cX10_countAliases 65 = .ok (.imul, 1) := by decide +kernel
theorem dX10_countAliases_66 : decode cX10_countAliases 66 = .ok (.iload 4, 2) := by decide +kernel
theorem dX10_countAliases_68 : decode cX10_countAliases 68 = .ok (.if_icmp .gt 6, 3) := by decide +kernel
theorem dX10_countAliases_71 : decode cX10_countAliases 71 = .ok (.iinc 5 1, 3) := by decide +kernel
theorem dX10_countAliases_74 : decode cX10_countAliases 74 = .ok (.iinc 6 1, 3) := by decide +kernel
theorem dX10_countAliases_77 : decode cX10_countAliases 77 = .ok (.goto (-43), 3) := by decide +kernel
theorem dX10_countAliases_80 : decode cX10_countAliases 80 = .ok (.iload 5, 2) := by decide +kernel
theorem dX10_countAliases_82 : decode cX10_countAliases 82 = .ok (.ireturn, 1) := by decide +kernel
set_option maxRecDepth 20000 in
theorem ggX10_featureOfCurve_X10_brightestOfCurve : GoodIn wsX10_featureOfCurve wsX10_brightestOfCurve := goodIn_r _ [6, 1, 7, 8, 9, 10, 11, 12, 13, 14, 15, 16, 17, 40, 41, 42, 43, 44, 45, 46, 47, 48, 49, 50, 51, 52, 53, 54, 55] (by decide +kernel) (by decide +kernel)
set_option maxRecDepth 20000 in
theorem gX10_featureOfCurve_X10_brightestOfCurve : GoodIn wsX10_featureOfCurve (wsV RX10 336 RX10 yX10_brightestOfCurve wsX10_brightestOfCurve) := goodIn_app (goodIn_of _ (by decide +kernel)) ggX10_featureOfCurve_X10_brightestOfCurve
set_option maxRecDepth 20000 in
theorem ggX10_featureOfCurve_X10_faintestOfCurve : GoodIn wsX10_featureOfCurve wsX10_faintestOfCurve := goodIn_r _ [21, 1, 7, 8, 9, 10, 11, 12, 13, 14, 15, 16, 17, 40, 41, 42, 43, 44, 45, 46, 47, 48, 49, 50, 51, 52, 53, 54, 55] (by decide +kernel) (by decide +kernel)
set_option maxRecDepth 20000 in
theorem gX10_featureOfCurve_X10_faintestOfCurve : GoodIn wsX10_featureOfCurve (wsV RX10 339 RX10 yX10_faintestOfCurve wsX10_faintestOfCurve) := goodIn_app (goodIn_of _ (by decide +kernel)) ggX10_featureOfCurve_X10_faintestOfCurve
set_option maxRecDepth 20000 in
theorem ggX10_featureOfCurve_X5_value : GoodIn wsX10_featureOfCurve wsX5_value := goodIn_r _ [16, 12, 17, 53, 54, 55] (by decide +kernel) (by decide +kernel)
set_option maxRecDepth 20000 in
theorem gX10_featureOfCurve_X5_value : GoodIn wsX10_featureOfCurve (wsV RX10 304 RX5 yX5_value wsX5_value) := goodIn_app (goodIn_of _ (by decide +kernel)) ggX10_featureOfCurve_X5_value
set_option maxRecDepth 20000 in
theorem ggX10_featureOfCurve_X5_key : GoodIn wsX10_featureOfCurve wsX5_key := goodIn_r _ [25, 12, 26, 53, 54, 55] (by decide +kernel) (by decide +kernel)
set_option maxRecDepth 20000 in
theorem gX10_featureOfCurve_X5_key : GoodIn wsX10_featureOfCurve (wsV RX10 330 RX5 yX5_key wsX5_key) := goodIn_app (goodIn_of _ (by decide +kernel)) ggX10_featureOfCurve_X5_key
set_option maxRecDepth 20000 in
theorem ggX10_featureOfCurve_X10_remainder : GoodIn wsX10_featureOfCurve wsX10_remainder := goodIn_r _ [29, 30, 31, 32, 33] (by decide +kernel) (by decide +kernel)
set_option maxRecDepth 20000 in
theorem gX10_featureOfCurve_X10_remainder : GoodIn wsX10_featureOfCurve (va_wsS RX10 333 yX10_remainder wsX10_remainder) := goodIn_app (goodIn_of _ (by decide +kernel)) ggX10_featureOfCurve_X10_remainder
set_option maxRecDepth 20000 in
theorem ggX10_featureOfCurve_X10_quotient : GoodIn wsX10_featureOfCurve wsX10_quotient := goodIn_r _ [36, 37, 38, 32, 39] (by decide +kernel) (by decide +kernel)
set_option maxRecDepth 20000 in
theorem gX10_featureOfCurve_X10_quotient : GoodIn wsX10_featureOfCurve (va_wsS RX10 323 yX10_quotient wsX10_quotient) := goodIn_app (goodIn_of _ (by decide +kernel)) ggX10_featureOfCurve_X10_quotient
theorem dX10_featureOfCurve_0 : decode cX10_featureOfCurve 0 = .ok (.iload_n 1, 1) := by decide +kernel
theorem dX10_featureOfCurve_1 : decode cX10_featureOfCurve 1 = .ok (.iconst 1, 1) := by decide +kernel
theorem dX10_featureOfCurve_2 : decode cX10_featureOfCurve 2 = .ok (.if_icmp .ne 5, 3) := by decide +kernel
theorem dX10_featureOfCurve_5 : decode cX10_featureOfCurve 5 = .ok (.iload_n 2, 1) := by decide +kernel
theorem dX10_featureOfCurve_6 : decode cX10_featureOfCurve 6 = .ok (.ireturn, 1) := by decide +kernel
theorem dX10_featureOfCurve_7 : decode cX10_featureOfCurve 7 = .ok (.aload_n 0, 1) := by decide +kernel
theorem dX10_featureOfCurve_8 : decode cX10_featureOfCurve 8 = .ok (.invokevirtual 336, 3) := by decide +kernel
theorem dX10_featureOfCurve_11 : decode cX10_featureOfCurve 11 = .ok (.istore_n 3, 1) := by decide +kernel
theorem dX10_featureOfCurve_12 : decode cX10_featureOfCurve 12 = .ok (.aload_n 0, 1) := by decide +kernel
theorem dX10_featureOfCurve_13 : decode cX10_featureOfCurve 13 = .ok (.invokevirtual 339, 3) := by decide +kernel
theorem dX10_featureOfCurve_16 : decode cX10_featureOfCurve 16 = .ok (.istore 4, 2) := by decide +kernel
theorem dX10_featureOfCurve_18 : decode cX10_featureOfCurve 18 = .ok (.iload_n 1, 1) := by decide +kernel
theorem dX10_featureOfCurve_19 : decode cX10_featureOfCurve 19 = .ok (.ifCond .ne 22, 3) := by decide +kernel
theorem dX10_featureOfCurve_22 : decode cX10_featureOfCurve 22 = .ok (.aload_n 0, 1) := by decide +kernel
theorem dX10_featureOfCurve_23 : decode cX10_featureOfCurve 23 = .ok (.getfield 43, 3) := by decide +kernel
theorem dX10_featureOfCurve_26 : decode cX10_featureOfCurve 26 = .ok (.iload 4, 2) := by decide +kernel
theorem dX10_featureOfCurve_28 : decode cX10_featureOfCurve 28 = .ok (.invokevirtual 304, 3) := by decide +kernel
theorem dX10_featureOfCurve_31 : decode cX10_featureOfCurve 31 = .ok (.aload_n 0, 1) := by decide +kernel
theorem dX10_featureOfCurve_32 : decode cX10_featureOfCurve 32 = .ok (.getfield 43, 3) := by decide +kernel
theorem dX10_featureOfCurve_35 : decode cX10_featureOfCurve 35 = .ok (.iload_n 3, 1) := by decide +kernel
theorem dX10_featureOfCurve_36 : decode cX10_featureOfCurve 36 = .ok (.invokevirtual 304, 3) := by decide +kernel
theorem dX10_featureOfCurve_39 : decode cX10_featureOfCurve 39 = .ok (.isub, 1) := by decide +kernel
theorem dX10_featureOfCurve_40 : decode cX10_featureOfCurve 40 = .ok (.ireturn, 1) := by decide +kernel
theorem dX10_featureOfCurve_41 : decode cX10_featureOfCurve 41 = .ok (.aload_n 0, 1) := by decide +kernel
theorem dX10_featureOfCurve_42 : decode cX10_featureOfCurve 42 = .ok (.getfield 43, 3) := by decide +kernel
theorem dX10_featureOfCurve_45 : decode cX10_featureOfCurve 45 = .ok (.iload_n 3, 1) := by decide +kernel
theorem dX10_featureOfCurve_46 : decode cX10_featureOfCurve 46 = .ok (.invokevirtual 330, 3) := by decide +kernel
theorem dX10_featureOfCurve_49 : decode cX10_featureOfCurve 49 = .ok (.aload_n 0, 1) := by decide +kernel
theorem dX10_featureOfCurve_50 : decode cX10_featureOfCurve 50 = .ok (.getfield 43, 3) := by decide +kernel
theorem dX10_featureOfCurve_53 : decode cX10_featureOfCurve 53 = .ok (.iload 4, 2) := by decide +kernel
theorem dX10_featureOfCurve_55 : decode cX10_featureOfCurve 55 = .ok (.invokevirtual 330, 3) := by decide +kernel
theorem dX10_featureOfCurve_58 : decode cX10_featureOfCurve 58 = .ok (.isub, 1) := by decide +kernel
theorem dX10_featureOfCurve_59 : decode cX10_featureOfCurve 59 = .ok (.iload_n 2, 1) := by decide +kernel
theorem dX10_featureOfCurve_60 : decode cX10_featureOfCurve 60 = .ok (.invokestatic 333, 3) := by decide +kernel
theorem dX10_featureOfCurve_63 : decode cX10_featureOfCurve 63 = .ok (.istore 5, 2) := by decide +kernel
theorem dX10_featureOfCurve_65 : decode cX10_featureOfCurve 65 = .ok (.iload 5, 2) := by decide +kernel
theorem dX10_featureOfCurve_67 : decode cX10_featureOfCurve 67 = .ok (.bipush 100, 2) := by decide +kernel
theorem dX10_featureOfCurve_69 : decode cX10_featureOfCurve 69 = .ok (.imul, 1) := by decide +kernel
theorem dX10_featureOfCurve_70 : decode cX10_featureOfCurve 70 = .ok (.iload_n 2, 1) := by decide +kernel
theorem dX10_featureOfCurve_71 : decode cX10_featureOfCurve 71 = .ok (.invokestatic 323, 3) := by decide +kernel
theorem dX10_featureOfCurve_74 : decode cX10_featureOfCurve 74 = .ok (.ireturn, 1) := by decide +kernel
set_option maxRecDepth 20000 in
theorem ggX10_brightestOfCurve_X5_size : GoodIn wsX10_brightestOfCurve wsX5_size := goodIn_r _ [6, 7, 26, 27, 28] (by decide +kernel) (by decide +kernel)
set_option maxRecDepth 20000 in
theorem gX10_brightestOfCurve_X5_size : GoodIn wsX10_brightestOfCurve (wsV RX10 267 RX5 yX5_size wsX5_size) := goodIn_app (goodIn_of _ (by decide +kernel)) ggX10_brightestOfCurve_X5_size
set_option maxRecDepth 20000 in
theorem ggX10_brightestOfCurve_X5_value : GoodIn wsX10_brightestOfCurve wsX5_value := goodIn_r _ [11, 7, 12, 26, 27, 28] (by decide +kernel) (by decide +kernel)
set_option maxRecDepth 20000 in
theorem gX10_brightestOfCurve_X5_value : GoodIn wsX10_brightestOfCurve (wsV RX10 304 RX5 yX5_value wsX5_value) := goodIn_app (goodIn_of _ (by decide +kernel)) ggX10_brightestOfCurve_X5_value
theorem dX10_brightestOfCurve_0 : decode cX10_brightestOfCurve 0 = .ok (.iconst 0, 1) := by decide +kernel
theorem dX10_brightestOfCurve_1 : decode cX10_brightestOfCurve 1 = .ok (.istore_n 1, 1) := by decide +kernel
theorem dX10_brightestOfCurve_2 : decode cX10_brightestOfCurve 2 = .ok (.iconst 1, 1) := by decide +kernel
theorem dX10_brightestOfCurve_3 : decode cX10_brightestOfCurve 3 = .ok (.istore_n 2, 1) := by decide +kernel
theorem dX10_brightestOfCurve_4 : decode cX10_brightestOfCurve 4 = .ok (.iload_n 2, 1) := by decide +kernel
theorem dX10_brightestOfCurve_5 : decode cX10_brightestOfCurve 5 = .ok (.aload_n 0, 1) := by decide +kernel
theorem dX10_brightestOfCurve_6 : decode cX10_brightestOfCurve 6 = .ok (.getfield 43, 3) := by decide +kernel
theorem dX10_brightestOfCurve_9 : decode cX10_brightestOfCurve 9 = .ok (.invokevirtual 267, 3) := by decide +kernel
theorem dX10_brightestOfCurve_12 : decode cX10_brightestOfCurve 12 = .ok (.if_icmp .ge 30, 3) := by decide +kernel
theorem dX10_brightestOfCurve_15 : decode cX10_brightestOfCurve 15 = .ok (.aload_n 0, 1) := by decide +kernel
theorem dX10_brightestOfCurve_16 : decode cX10_brightestOfCurve 16 = .ok (.getfield 43, 3) := by decide +kernel
theorem dX10_brightestOfCurve_19 : decode cX10_brightestOfCurve 19 = .ok (.iload_n 2, 1) := by decide +kernel
theorem dX10_brightestOfCurve_20 : decode cX10_brightestOfCurve 20 = .ok (.invokevirtual 304, 3) := by decide +kernel
theorem dX10_brightestOfCurve_23 : decode cX10_brightestOfCurve 23 = .ok (.aload_n 0, 1) := by decide +kernel
theorem dX10_brightestOfCurve_24 : decode cX10_brightestOfCurve 24 = .ok (.getfield 43, 3) := by decide +kernel
theorem dX10_brightestOfCurve_27 : decode cX10_brightestOfCurve 27 = .ok (.iload_n 1, 1) := by decide +kernel
theorem dX10_brightestOfCurve_28 : decode cX10_brightestOfCurve 28 = .ok (.invokevirtual 304, 3) := by decide +kernel
theorem dX10_brightestOfCurve_31 : decode cX10_brightestOfCurve 31 = .ok (.if_icmp .ge 5, 3) := by decide +kernel
theorem dX10_brightestOfCurve_34 : decode cX10_brightestOfCurve 34 = .ok (.iload_n 2, 1) := by decide +kernel
theorem dX10_brightestOfCurve_35 : decode cX10_brightestOfCurve 35 = .ok (.istore_n 1, 1) := by decide +kernel
theorem dX10_brightestOfCurve_36 : decode cX10_brightestOfCurve 36 = .ok (.iinc 2 1, 3) := by decide +kernel
theorem dX10_brightestOfCurve_39 : decode cX10_brightestOfCurve 39 = .ok (.goto (-35), 3) := by decide +kernel
theorem dX10_brightestOfCurve_42 : decode cX10_brightestOfCurve 42 = .ok (.iload_n 1, 1) := by decide +kernel
theorem dX10_brightestOfCurve_43 : decode cX10_brightestOfCurve 43 = .ok (.ireturn, 1) := by decide +kernel
set_option maxRecDepth 20000 in
theorem ggX10_faintestOfCurve_X5_size : GoodIn wsX10_faintestOfCurve wsX5_size := goodIn_r _ [6, 7, 26, 27, 28] (by decide +kernel) (by decide +kernel)
set_option maxRecDepth 20000 in
theorem gX10_faintestOfCurve_X5_size : GoodIn wsX10_faintestOfCurve (wsV RX10 267 RX5 yX5_size wsX5_size) := goodIn_app (goodIn_of _ (by decide +kernel)) ggX10_faintestOfCurve_X5_size
set_option maxRecDepth 20000 in
theorem ggX10_faintestOfCurve_X5_value : GoodIn wsX10_faintestOfCurve wsX5_value := goodIn_r _ [11, 7, 12, 26, 27, 28] (by decide +kernel) (by decide +kernel)
set_option maxRecDepth 20000 in
theorem gX10_faintestOfCurve_X5_value : GoodIn wsX10_faintestOfCurve (wsV RX10 304 RX5 yX5_value wsX5_value) := goodIn_app (goodIn_of _ (by decide +kernel)) ggX10_faintestOfCurve_X5_value
theorem dX10_faintestOfCurve_0 : decode cX10_faintestOfCurve 0 = .ok (.iconst 0, 1) := by decide +kernel
theorem dX10_faintestOfCurve_1 : decode cX10_faintestOfCurve 1 = .ok (.istore_n 1, 1) := by decide +kernel
theorem dX10_faintestOfCurve_2 : decode cX10_faintestOfCurve 2 = .ok (.iconst 1, 1) := by decide +kernel
theorem dX10_faintestOfCurve_3 : decode cX10_faintestOfCurve 3 = .ok (.istore_n 2, 1) := by decide +kernel
theorem dX10_faintestOfCurve_4 : decode cX10_faintestOfCurve 4 = .ok (.iload_n 2, 1) := by decide +kernel
theorem dX10_faintestOfCurve_5 : decode cX10_faintestOfCurve 5 = .ok (.aload_n 0, 1) := by decide +kernel
theorem dX10_faintestOfCurve_6 : decode cX10_faintestOfCurve 6 = .ok (.getfield 43, 3) := by decide +kernel
theorem dX10_faintestOfCurve_9 : decode cX10_faintestOfCurve 9 = .ok (.invokevirtual 267, 3) := by decide +kernel
theorem dX10_faintestOfCurve_12 : decode cX10_faintestOfCurve 12 = .ok (.if_icmp .ge 30, 3) := by decide +kernel
theorem dX10_faintestOfCurve_15 : decode cX10_faintestOfCurve 15 = .ok (.aload_n 0, 1) := by decide +kernel
theorem dX10_faintestOfCurve_16 : decode cX10_faintestOfCurve 16 = .ok (.getfield 43, 3) := by decide +kernel
theorem dX10_faintestOfCurve_19 : decode cX10_faintestOfCurve 19 = .ok (.iload_n 2, 1) := by decide +kernel
theorem dX10_faintestOfCurve_20 : decode cX10_faintestOfCurve 20 = .ok (.invokevirtual 304, 3) := by decide +kernel
theorem dX10_faintestOfCurve_23 : decode cX10_faintestOfCurve 23 = .ok (.aload_n 0, 1) := by decide +kernel
theorem dX10_faintestOfCurve_24 : decode cX10_faintestOfCurve 24 = .ok (.getfield 43, 3) := by decide +kernel
theorem dX10_faintestOfCurve_27 : decode cX10_faintestOfCurve 27 = .ok (.iload_n 1, 1) := by decide +kernel
theorem dX10_faintestOfCurve_28 : decode cX10_faintestOfCurve 28 = .ok (.invokevirtual 304, 3) := by decide +kernel
theorem dX10_faintestOfCurve_31 : decode cX10_faintestOfCurve 31 = .ok (.if_icmp .le 5, 3) := by decide +kernel
theorem dX10_faintestOfCurve_34 : decode cX10_faintestOfCurve 34 = .ok (.iload_n 2, 1) := by decide +kernel
theorem dX10_faintestOfCurve_35 : decode cX10_faintestOfCurve 35 = .ok (.istore_n 1, 1) := by decide +kernel
theorem dX10_faintestOfCurve_36 : decode cX10_faintestOfCurve 36 = .ok (.iinc 2 1, 3) := by decide +kernel
theorem dX10_faintestOfCurve_39 : decode cX10_faintestOfCurve 39 = .ok (.goto (-35), 3) := by decide +kernel
theorem dX10_faintestOfCurve_42 : decode cX10_faintestOfCurve 42 = .ok (.iload_n 1, 1) := by decide +kernel
theorem dX10_faintestOfCurve_43 : decode cX10_faintestOfCurve 43 = .ok (.ireturn, 1) := by decide +kernel
set_option maxRecDepth 20000 in
theorem ggX10_votesForClass_Jx4a65c_size_8abf5 : GoodIn wsX10_votesForClass wsJx4a65c_size_8abf5 := goodIn_r _ [11, 12, 99, 100, 101] (by decide +kernel) (by decide +kernel)
set_option maxRecDepth 20000 in
theorem gX10_votesForClass_Jx4a65c_size_8abf5 : GoodIn wsX10_votesForClass (wsV RX10 81 RJx4a65c yJx4a65c_size_8abf5 wsJx4a65c_size_8abf5) := goodIn_app (goodIn_of _ (by decide +kernel)) ggX10_votesForClass_Jx4a65c_size_8abf5
set_option maxRecDepth 20000 in
theorem ggX10_votesForClass_Jx4a65c_get_915e3 : GoodIn wsX10_votesForClass wsJx4a65c_get_915e3 := goodIn_r _ [16, 12, 17, 18, 19, 20, 21, 22, 23, 24, 25, 26, 27, 10, 28, 29, 99, 100, 101] (by decide +kernel) (by decide +kernel)
set_option maxRecDepth 20000 in
theorem gX10_votesForClass_Jx4a65c_get_915e3 : GoodIn wsX10_votesForClass (wsV RX10 188 RJx4a65c yJx4a65c_get_915e3 wsJx4a65c_get_915e3) := goodIn_app (goodIn_of _ (by decide +kernel)) ggX10_votesForClass_Jx4a65c_get_915e3
set_option maxRecDepth 20000 in
theorem ggX10_votesForClass_X10_featureOfCurve : GoodIn wsX10_votesForClass wsX10_featureOfCurve := goodIn_r _ [34, 35, 36, 37, 38, 33, 39, 40, 41, 42, 43, 44, 45, 46, 47, 48, 49, 50, 51, 52, 53, 54, 55, 56, 57, 58, 59, 60, 61, 62, 63, 64, 65, 66, 67, 68, 69, 70, 71, 72, 80, 81, 82, 83, 84, 85, 86, 87, 88, 89, 90, 91, 92, 102, 103, 104] (by decide +kernel) (by decide +kernel)
set_option maxRecDepth 20000 in
theorem gX10_votesForClass_X10_featureOfCurve : GoodIn wsX10_votesForClass (wsV RX10 243 RX10 yX10_featureOfCurve wsX10_featureOfCurve) := goodIn_app (goodIn_of _ (by decide +kernel)) ggX10_votesForClass_X10_featureOfCurve
set_option maxRecDepth 20000 in
theorem ggX10_votesForClass_X6_holds : GoodIn wsX10_votesForClass wsX6_holds := goodIn_r _ [77, 78, 79, 93, 94, 95, 96, 97, 98] (by decide +kernel) (by decide +kernel)
set_option maxRecDepth 20000 in
theorem gX10_votesForClass_X6_holds : GoodIn wsX10_votesForClass (wsV RX10 348 RX6 yX6_holds wsX6_holds) := goodIn_app (goodIn_of _ (by decide +kernel)) ggX10_votesForClass_X6_holds
theorem dX10_votesForClass_0 : decode cX10_votesForClass 0 = .ok (.iconst 0, 1) := by decide +kernel
theorem dX10_votesForClass_1 : decode cX10_votesForClass 1 = .ok (.istore_n 3, 1) := by decide +kernel
theorem dX10_votesForClass_2 : decode cX10_votesForClass 2 = .ok (.iconst 0, 1) := by decide +kernel
theorem dX10_votesForClass_3 : decode cX10_votesForClass 3 = .ok (.istore 4, 2) := by decide +kernel
theorem dX10_votesForClass_5 : decode cX10_votesForClass 5 = .ok (.iload 4, 2) := by decide +kernel
theorem dX10_votesForClass_7 : decode cX10_votesForClass 7 = .ok (.aload_n 0, 1) := by decide +kernel
theorem dX10_votesForClass_8 : decode cX10_votesForClass 8 = .ok (.getfield 28, 3) := by decide +kernel
theorem dX10_votesForClass_11 : decode cX10_votesForClass 11 = .ok (.invokevirtual 81, 3) := by decide +kernel
theorem dX10_votesForClass_14 : decode cX10_votesForClass 14 = .ok (.if_icmp .ge 66, 3) := by decide +kernel
theorem dX10_votesForClass_17 : decode cX10_votesForClass 17 = .ok (.aload_n 0, 1) := by decide +kernel
theorem dX10_votesForClass_18 : decode cX10_votesForClass 18 = .ok (.getfield 28, 3) := by decide +kernel
theorem dX10_votesForClass_21 : decode cX10_votesForClass 21 = .ok (.iload 4, 2) := by decide +kernel
theorem dX10_votesForClass_23 : decode cX10_votesForClass 23 = .ok (.invokevirtual 188, 3) := by decide +kernel
theorem dX10_votesForClass_26 : decode cX10_votesForClass 26 = .ok (.checkcast 249, 3) := by decide +kernel
theorem dX10_votesForClass_29 : decode cX10_votesForClass 29 = .ok (.astore 5, 2) := by decide +kernel
theorem dX10_votesForClass_31 : decode cX10_votesForClass 31 = .ok (.aload 5, 2) := by decide +kernel
theorem dX10_votesForClass_33 : decode cX10_votesForClass 33 = .ok (.getfield 342, 3) := by decide +kernel
theorem dX10_votesForClass_36 : decode cX10_votesForClass 36 = .ok (.iload_n 1, 1) := by decide +kernel
theorem dX10_votesForClass_37 : decode cX10_votesForClass 37 = .ok (.if_icmp .ne 37, 3) := by decide +kernel
theorem dX10_votesForClass_40 : decode cX10_votesForClass 40 = .ok (.aload 5, 2) := by decide +kernel
theorem dX10_votesForClass_42 : decode cX10_votesForClass 42 = .ok (.getfield 258, 3) := by decide +kernel
theorem dX10_votesForClass_45 : decode cX10_votesForClass 45 = .ok (.ifCond .ne 29, 3) := by decide +kernel
theorem dX10_votesForClass_48 : decode cX10_votesForClass 48 = .ok (.aload 5, 2) := by decide +kernel
theorem dX10_votesForClass_50 : decode cX10_votesForClass 50 = .ok (.aload_n 0, 1) := by decide +kernel
theorem dX10_votesForClass_51 : decode cX10_votesForClass 51 = .ok (.aload 5, 2) := by decide +kernel
theorem dX10_votesForClass_53 : decode cX10_votesForClass 53 = .ok (.getfield 345, 3) := by decide +kernel
theorem dX10_votesForClass_56 : decode cX10_votesForClass 56 = .ok (.iload_n 2, 1) := by decide +kernel
theorem dX10_votesForClass_57 : decode cX10_votesForClass 57 = .ok (.invokevirtual 243, 3) := by decide +kernel
theorem dX10_votesForClass_60 : decode cX10_votesForClass 60 = .ok (.invokevirtual 348, 3) := by decide +kernel
theorem dX10_votesForClass_63 : decode cX10_votesForClass 63 = .ok (.ifCond .eq 11, 3) := by decide +kernel
theorem dX10_votesForClass_66 : decode cX10_votesForClass 66 = .ok (.iload_n 3, 1) := by decide +kernel
theorem dX10_votesForClass_67 : decode cX10_votesForClass 67 = .ok (.aload 5, 2) := by decide +kernel
theorem dX10_votesForClass_69 : decode cX10_votesForClass 69 = .ok (.getfield 351, 3) := by decide +kernel
theorem dX10_votesForClass_72 : decode cX10_votesForClass 72 = .ok (.iadd, 1) := by decide +kernel
theorem dX10_votesForClass_73 : decode cX10_votesForClass 73 = .ok (.istore_n 3, 1) := by decide +kernel
theorem dX10_votesForClass_74 : decode cX10_votesForClass 74 = .ok (.iinc 4 1, 3) := by decide +kernel
theorem dX10_votesForClass_77 : decode cX10_votesForClass 77 = .ok (.goto (-72), 3) := by decide +kernel
theorem dX10_votesForClass_80 : decode cX10_votesForClass 80 = .ok (.iload_n 3, 1) := by decide +kernel
theorem dX10_votesForClass_81 : decode cX10_votesForClass 81 = .ok (.ireturn, 1) := by decide +kernel
set_option maxRecDepth 20000 in
theorem ggX10_meanOfCurve_X5_size : GoodIn wsX10_meanOfCurve wsX5_size := goodIn_r _ [6, 7, 34, 35, 36] (by decide +kernel) (by decide +kernel)
set_option maxRecDepth 20000 in
theorem gX10_meanOfCurve_X5_size : GoodIn wsX10_meanOfCurve (wsV RX10 267 RX5 yX5_size wsX5_size) := goodIn_app (goodIn_of _ (by decide +kernel)) ggX10_meanOfCurve_X5_size
set_option maxRecDepth 20000 in
theorem ggX10_meanOfCurve_X5_value : GoodIn wsX10_meanOfCurve wsX5_value := goodIn_r _ [11, 7, 12, 34, 35, 36] (by decide +kernel) (by decide +kernel)
set_option maxRecDepth 20000 in
theorem gX10_meanOfCurve_X5_value : GoodIn wsX10_meanOfCurve (wsV RX10 304 RX5 yX5_value wsX5_value) := goodIn_app (goodIn_of _ (by decide +kernel)) ggX10_meanOfCurve_X5_value
set_option maxRecDepth 20000 in
theorem ggX10_meanOfCurve_X10_quotient : GoodIn wsX10_meanOfCurve wsX10_quotient := goodIn_r _ [16, 17, 18, 19, 20] (by decide +kernel) (by decide +kernel)
set_option maxRecDepth 20000 in
theorem gX10_meanOfCurve_X10_quotient : GoodIn wsX10_meanOfCurve (va_wsS RX10 323 yX10_quotient wsX10_quotient) := goodIn_app (goodIn_of _ (by decide +kernel)) ggX10_meanOfCurve_X10_quotient
theorem dX10_meanOfCurve_0 : decode cX10_meanOfCurve 0 = .ok (.iconst 0, 1) := by decide +kernel
theorem dX10_meanOfCurve_1 : decode cX10_meanOfCurve 1 = .ok (.istore_n 1, 1) := by decide +kernel
theorem dX10_meanOfCurve_2 : decode cX10_meanOfCurve 2 = .ok (.iconst 0, 1) := by decide +kernel
theorem dX10_meanOfCurve_3 : decode cX10_meanOfCurve 3 = .ok (.istore_n 2, 1) := by decide +kernel
theorem dX10_meanOfCurve_4 : decode cX10_meanOfCurve 4 = .ok (.iload_n 2, 1) := by decide +kernel
theorem dX10_meanOfCurve_5 : decode cX10_meanOfCurve 5 = .ok (.aload_n 0, 1) := by decide +kernel
theorem dX10_meanOfCurve_6 : decode cX10_meanOfCurve 6 = .ok (.getfield 43, 3) := by decide +kernel
theorem dX10_meanOfCurve_9 : decode cX10_meanOfCurve 9 = .ok (.invokevirtual 267, 3) := by decide +kernel
theorem dX10_meanOfCurve_12 : decode cX10_meanOfCurve 12 = .ok (.if_icmp .ge 20, 3) := by decide +kernel
theorem dX10_meanOfCurve_15 : decode cX10_meanOfCurve 15 = .ok (.iload_n 1, 1) := by decide +kernel
theorem dX10_meanOfCurve_16 : decode cX10_meanOfCurve 16 = .ok (.aload_n 0, 1) := by decide +kernel
theorem dX10_meanOfCurve_17 : decode cX10_meanOfCurve 17 = .ok (.getfield 43, 3) := by decide +kernel
theorem dX10_meanOfCurve_20 : decode cX10_meanOfCurve 20 = .ok (.iload_n 2, 1) := by decide +kernel
theorem dX10_meanOfCurve_21 : decode cX10_meanOfCurve 21 = .ok (.invokevirtual 304, 3) := by decide +kernel
theorem dX10_meanOfCurve_24 : decode cX10_meanOfCurve 24 = .ok (.iadd, 1) := by decide +kernel
theorem dX10_meanOfCurve_25 : decode cX10_meanOfCurve 25 = .ok (.istore_n 1, 1) := by decide +kernel
theorem dX10_meanOfCurve_26 : decode cX10_meanOfCurve 26 = .ok (.iinc 2 1, 3) := by decide +kernel
theorem dX10_meanOfCurve_29 : decode cX10_meanOfCurve 29 = .ok (.goto (-25), 3) := by decide +kernel
theorem dX10_meanOfCurve_32 : decode cX10_meanOfCurve 32 = .ok (.iload_n 1, 1) := by decide +kernel
theorem dX10_meanOfCurve_33 : decode cX10_meanOfCurve 33 = .ok (.aload_n 0, 1) := by decide +kernel
theorem dX10_meanOfCurve_34 : decode cX10_meanOfCurve 34 = .ok (.getfield 43, 3) := by decide +kernel
theorem dX10_meanOfCurve_37 : decode cX10_meanOfCurve 37 = .ok (.invokevirtual 267, 3) := by decide +kernel
theorem dX10_meanOfCurve_40 : decode cX10_meanOfCurve 40 = .ok (.invokestatic 323, 3) := by decide +kernel
theorem dX10_meanOfCurve_43 : decode cX10_meanOfCurve 43 = .ok (.ireturn, 1) := by decide +kernel
set_option maxRecDepth 20000 in
theorem ggX10_modulusOfCurve_X10_meanOfCurve : GoodIn wsX10_modulusOfCurve wsX10_meanOfCurve := goodIn_r _ [7, 8, 9, 10, 11, 12, 13, 14, 15, 16, 17, 18, 19, 20, 21, 6, 22, 23, 24, 25, 26, 35, 36, 37, 38, 39, 40, 41, 42, 43, 44, 45, 46, 47, 48, 49, 50] (by decide +kernel) (by decide +kernel)
set_option maxRecDepth 20000 in
theorem gX10_modulusOfCurve_X10_meanOfCurve : GoodIn wsX10_modulusOfCurve (wsV RX10 285 RX10 yX10_meanOfCurve wsX10_meanOfCurve) := goodIn_app (goodIn_of _ (by decide +kernel)) ggX10_modulusOfCurve_X10_meanOfCurve
set_option maxRecDepth 20000 in
theorem ggX10_modulusOfCurve_X10_halvings : GoodIn wsX10_modulusOfCurve wsX10_halvings := goodIn_r _ [29] (by decide +kernel) (by decide +kernel)
set_option maxRecDepth 20000 in
theorem gX10_modulusOfCurve_X10_halvings : GoodIn wsX10_modulusOfCurve (va_wsS RX10 354 yX10_halvings wsX10_halvings) := goodIn_app (goodIn_of _ (by decide +kernel)) ggX10_modulusOfCurve_X10_halvings
theorem dX10_modulusOfCurve_0 : decode cX10_modulusOfCurve 0 = .ok (.aload_n 0, 1) := by decide +kernel
theorem dX10_modulusOfCurve_1 : decode cX10_modulusOfCurve 1 = .ok (.invokevirtual 285, 3) := by decide +kernel
theorem dX10_modulusOfCurve_4 : decode cX10_modulusOfCurve 4 = .ok (.aload_n 1, 1) := by decide +kernel
theorem dX10_modulusOfCurve_5 : decode cX10_modulusOfCurve 5 = .ok (.getfield 280, 3) := by decide +kernel
theorem dX10_modulusOfCurve_8 : decode cX10_modulusOfCurve 8 = .ok (.isub, 1) := by decide +kernel
theorem dX10_modulusOfCurve_9 : decode cX10_modulusOfCurve 9 = .ok (.aload_n 0, 1) := by decide +kernel
theorem dX10_modulusOfCurve_10 : decode cX10_modulusOfCurve 10 = .ok (.getfield 34, 3) := by decide +kernel
theorem dX10_modulusOfCurve_13 : decode cX10_modulusOfCurve 13 = .ok (.isub, 1) := by decide +kernel
theorem dX10_modulusOfCurve_14 : decode cX10_modulusOfCurve 14 = .ok (.bipush 75, 2) := by decide +kernel
theorem dX10_modulusOfCurve_16 : decode cX10_modulusOfCurve 16 = .ok (.iload_n 2, 1) := by decide +kernel
theorem dX10_modulusOfCurve_17 : decode cX10_modulusOfCurve 17 = .ok (.invokestatic 354, 3) := by decide +kernel
theorem dX10_modulusOfCurve_20 : decode cX10_modulusOfCurve 20 = .ok (.imul, 1) := by decide +kernel
theorem dX10_modulusOfCurve_21 : decode cX10_modulusOfCurve 21 = .ok (.iadd, 1) := by decide +kernel
theorem dX10_modulusOfCurve_22 : decode cX10_modulusOfCurve 22 = .ok (.ireturn, 1) := by decide +kernel
theorem dX10_halvings_0 : decode cX10_halvings 0 = .ok (.iconst 0, 1) := by decide +kernel
theorem dX10_halvings_1 : decode cX10_halvings 1 = .ok (.istore_n 1, 1) := by decide +kernel
theorem dX10_halvings_2 : decode cX10_halvings 2 = .ok (.iload_n 0, 1) := by decide +kernel
theorem dX10_halvings_3 : decode cX10_halvings 3 = .ok (.istore_n 2, 1) := by decide +kernel
theorem dX10_halvings_4 : decode cX10_halvings 4 = .ok (.iload_n 2, 1) := by decide +kernel
theorem dX10_halvings_5 : decode cX10_halvings 5 = .ok (.iconst 1, 1) := by decide +kernel
theorem dX10_halvings_6 : decode cX10_halvings 6 = .ok (.if_icmp .le 13, 3) := by decide +kernel
theorem dX10_halvings_9 : decode cX10_halvings 9 = .ok (.iinc 1 1, 3) := by decide +kernel
theorem dX10_halvings_12 : decode cX10_halvings 12 = .ok (.iload_n 2, 1) := by decide +kernel
theorem dX10_halvings_13 : decode cX10_halvings 13 = .ok (.iconst 2, 1) := by decide +kernel
theorem dX10_halvings_14 : decode cX10_halvings 14 = .ok (.idiv, 1) := by decide +kernel
theorem dX10_halvings_15 : decode cX10_halvings 15 = .ok (.istore_n 2, 1) := by decide +kernel
theorem dX10_halvings_16 : decode cX10_halvings 16 = .ok (.goto (-12), 3) := by decide +kernel
theorem dX10_halvings_19 : decode cX10_halvings 19 = .ok (.iload_n 1, 1) := by decide +kernel
theorem dX10_halvings_20 : decode cX10_halvings 20 = .ok (.ireturn, 1) := by decide +kernel
set_option maxRecDepth 20000 in
theorem ggX10_gatherEclipses_X5_clear : GoodIn wsX10_gatherEclipses wsX5_clear := goodIn_r _ [11, 12, 92, 93, 94] (by decide +kernel) (by decide +kernel)
set_option maxRecDepth 20000 in
theorem gX10_gatherEclipses_X5_clear : GoodIn wsX10_gatherEclipses (wsV RX10 292 RX5 yX5_clear wsX5_clear) := goodIn_app (goodIn_of _ (by decide +kernel)) ggX10_gatherEclipses_X5_clear
set_option maxRecDepth 20000 in
theorem ggX10_gatherEclipses_Jx4a65c_size_8abf5 : GoodIn wsX10_gatherEclipses wsJx4a65c_size_8abf5 := goodIn_r _ [17, 18, 95, 96, 97] (by decide +kernel) (by decide +kernel)
set_option maxRecDepth 20000 in
theorem gX10_gatherEclipses_Jx4a65c_size_8abf5 : GoodIn wsX10_gatherEclipses (wsV RX10 81 RJx4a65c yJx4a65c_size_8abf5 wsJx4a65c_size_8abf5) := goodIn_app (goodIn_of _ (by decide +kernel)) ggX10_gatherEclipses_Jx4a65c_size_8abf5
set_option maxRecDepth 20000 in
theorem ggX10_gatherEclipses_Jx4a65c_get_915e3 : GoodIn wsX10_gatherEclipses wsJx4a65c_get_915e3 := goodIn_r _ [22, 18, 23, 24, 25, 26, 27, 28, 29, 30, 31, 32, 33, 16, 34, 35, 95, 96, 97] (by decide +kernel) (by decide +kernel)
set_option maxRecDepth 20000 in
theorem gX10_gatherEclipses_Jx4a65c_get_915e3 : GoodIn wsX10_gatherEclipses (wsV RX10 188 RJx4a65c yJx4a65c_get_915e3 wsJx4a65c_get_915e3) := goodIn_app (goodIn_of _ (by decide +kernel)) ggX10_gatherEclipses_Jx4a65c_get_915e3
set_option maxRecDepth 20000 in
theorem ggX10_gatherEclipses_X7_arrival : GoodIn wsX10_gatherEclipses wsX7_arrival := goodIn_r _ [40, 41, 42, 43, 44, 45, 46, 47, 48, 49, 50, 51, 52, 53, 54, 55, 56, 57, 87, 88, 89, 90, 91] (by decide +kernel) (by decide +kernel)
set_option maxRecDepth 20000 in
theorem gX10_gatherEclipses_X7_arrival : GoodIn wsX10_gatherEclipses (wsV RX10 361 RX7 yX7_arrival wsX7_arrival) := goodIn_app (goodIn_of _ (by decide +kernel)) ggX10_gatherEclipses_X7_arrival
set_option maxRecDepth 20000 in
theorem ggX10_gatherEclipses_X5_add : GoodIn wsX10_gatherEclipses wsX5_add := goodIn_r _ [61, 12, 62, 63, 64, 65, 66, 67, 68, 69, 70, 10, 71, 92, 93, 94] (by decide +kernel) (by decide +kernel)
set_option maxRecDepth 20000 in
theorem gX10_gatherEclipses_X5_add : GoodIn wsX10_gatherEclipses (wsV RX10 302 RX5 yX5_add wsX5_add) := goodIn_app (goodIn_of _ (by decide +kernel)) ggX10_gatherEclipses_X5_add
theorem dX10_gatherEclipses_0 : decode cX10_gatherEclipses 0 = .ok (.aload_n 0, 1) := by decide +kernel
theorem dX10_gatherEclipses_1 : decode cX10_gatherEclipses 1 = .ok (.getfield 50, 3) := by decide +kernel
theorem dX10_gatherEclipses_4 : decode cX10_gatherEclipses 4 = .ok (.invokevirtual 292, 3) := by decide +kernel
theorem dX10_gatherEclipses_7 : decode cX10_gatherEclipses 7 = .ok (.iconst 0, 1) := by decide +kernel
theorem dX10_gatherEclipses_8 : decode cX10_gatherEclipses 8 = .ok (.istore_n 2, 1) := by decide +kernel
theorem dX10_gatherEclipses_9 : decode cX10_gatherEclipses 9 = .ok (.iload_n 2, 1) := by decide +kernel
theorem dX10_gatherEclipses_10 : decode cX10_gatherEclipses 10 = .ok (.aload_n 0, 1) := by decide +kernel
theorem dX10_gatherEclipses_11 : decode cX10_gatherEclipses 11 = .ok (.getfield 31, 3) := by decide +kernel
theorem dX10_gatherEclipses_14 : decode cX10_gatherEclipses 14 = .ok (.invokevirtual 81, 3) := by decide +kernel
theorem dX10_gatherEclipses_17 : decode cX10_gatherEclipses 17 = .ok (.if_icmp .ge 51, 3) := by decide +kernel
theorem dX10_gatherEclipses_20 : decode cX10_gatherEclipses 20 = .ok (.aload_n 0, 1) := by decide +kernel
theorem dX10_gatherEclipses_21 : decode cX10_gatherEclipses 21 = .ok (.getfield 31, 3) := by decide +kernel
theorem dX10_gatherEclipses_24 : decode cX10_gatherEclipses 24 = .ok (.iload_n 2, 1) := by decide +kernel
theorem dX10_gatherEclipses_25 : decode cX10_gatherEclipses 25 = .ok (.invokevirtual 188, 3) := by decide +kernel
theorem dX10_gatherEclipses_28 : decode cX10_gatherEclipses 28 = .ok (.checkcast 149, 3) := by decide +kernel
theorem dX10_gatherEclipses_31 : decode cX10_gatherEclipses 31 = .ok (.astore_n 3, 1) := by decide +kernel
theorem dX10_gatherEclipses_32 : decode cX10_gatherEclipses 32 = .ok (.aload_n 3, 1) := by decide +kernel
theorem dX10_gatherEclipses_33 : decode cX10_gatherEclipses 33 = .ok (.getfield 357, 3) := by decide +kernel
theorem dX10_gatherEclipses_36 : decode cX10_gatherEclipses 36 = .ok (.getfield 154, 3) := by decide +kernel
theorem dX10_gatherEclipses_39 : decode cX10_gatherEclipses 39 = .ok (.iload_n 1, 1) := by decide +kernel
theorem dX10_gatherEclipses_40 : decode cX10_gatherEclipses 40 = .ok (.if_icmp .ne 22, 3) := by decide +kernel
theorem dX10_gatherEclipses_43 : decode cX10_gatherEclipses 43 = .ok (.aload_n 0, 1) := by decide +kernel
theorem dX10_gatherEclipses_44 : decode cX10_gatherEclipses 44 = .ok (.getfield 50, 3) := by decide +kernel
theorem dX10_gatherEclipses_47 : decode cX10_gatherEclipses 47 = .ok (.aload_n 3, 1) := by decide +kernel
theorem dX10_gatherEclipses_48 : decode cX10_gatherEclipses 48 = .ok (.getfield 357, 3) := by decide +kernel
theorem dX10_gatherEclipses_51 : decode cX10_gatherEclipses 51 = .ok (.aload_n 3, 1) := by decide +kernel
theorem dX10_gatherEclipses_52 : decode cX10_gatherEclipses 52 = .ok (.getfield 358, 3) := by decide +kernel
theorem dX10_gatherEclipses_55 : decode cX10_gatherEclipses 55 = .ok (.invokevirtual 361, 3) := by decide +kernel
theorem dX10_gatherEclipses_58 : decode cX10_gatherEclipses 58 = .ok (.iload_n 2, 1) := by decide +kernel
theorem dX10_gatherEclipses_59 : decode cX10_gatherEclipses 59 = .ok (.invokevirtual 302, 3) := by decide +kernel
theorem dX10_gatherEclipses_62 : decode cX10_gatherEclipses 62 = .ok (.iinc 2 1, 3) := by decide +kernel
theorem dX10_gatherEclipses_65 : decode cX10_gatherEclipses 65 = .ok (.goto (-56), 3) := by decide +kernel
theorem dX10_gatherEclipses_68 : decode cX10_gatherEclipses 68 = .ok (.return_, 1) := by decide +kernel
set_option maxRecDepth 20000 in
theorem ggX10_sinceFirst_X5_key : GoodIn wsX10_sinceFirst wsX5_key := goodIn_r _ [6, 7, 8, 22, 23, 24] (by decide +kernel) (by decide +kernel)
set_option maxRecDepth 20000 in
theorem gX10_sinceFirst_X5_key : GoodIn wsX10_sinceFirst (wsV RX10 330 RX5 yX5_key wsX5_key) := goodIn_app (goodIn_of _ (by decide +kernel)) ggX10_sinceFirst_X5_key
theorem dX10_sinceFirst_0 : decode cX10_sinceFirst 0 = .ok (.aload_n 0, 1) := by decide +kernel
theorem dX10_sinceFirst_1 : decode cX10_sinceFirst 1 = .ok (.getfield 50, 3) := by decide +kernel
theorem dX10_sinceFirst_4 : decode cX10_sinceFirst 4 = .ok (.iload_n 1, 1) := by decide +kernel
theorem dX10_sinceFirst_5 : decode cX10_sinceFirst 5 = .ok (.invokevirtual 330, 3) := by decide +kernel
theorem dX10_sinceFirst_8 : decode cX10_sinceFirst 8 = .ok (.aload_n 0, 1) := by decide +kernel
theorem dX10_sinceFirst_9 : decode cX10_sinceFirst 9 = .ok (.getfield 50, 3) := by decide +kernel
theorem dX10_sinceFirst_12 : decode cX10_sinceFirst 12 = .ok (.iconst 0, 1) := by decide +kernel
theorem dX10_sinceFirst_13 : decode cX10_sinceFirst 13 = .ok (.invokevirtual 330, 3) := by decide +kernel
theorem dX10_sinceFirst_16 : decode cX10_sinceFirst 16 = .ok (.isub, 1) := by decide +kernel
theorem dX10_sinceFirst_17 : decode cX10_sinceFirst 17 = .ok (.ireturn, 1) := by decide +kernel
set_option maxRecDepth 20000 in
theorem ggX10_cycleAt_X10_sinceFirst : GoodIn wsX10_cycleAt wsX10_sinceFirst := goodIn_r _ [5, 6, 7, 8, 9, 10, 11, 12, 13, 21, 22, 23, 24, 25, 26, 27, 28, 29, 30, 31, 32, 33, 34, 35, 36] (by decide +kernel) (by decide +kernel)
set_option maxRecDepth 20000 in
theorem gX10_cycleAt_X10_sinceFirst : GoodIn wsX10_cycleAt (wsV RX10 364 RX10 yX10_sinceFirst wsX10_sinceFirst) := goodIn_app (goodIn_of _ (by decide +kernel)) ggX10_cycleAt_X10_sinceFirst
set_option maxRecDepth 20000 in
theorem ggX10_cycleAt_X10_quotient : GoodIn wsX10_cycleAt wsX10_quotient := goodIn_r _ [16, 17, 18, 19, 20] (by decide +kernel) (by decide +kernel)
set_option maxRecDepth 20000 in
theorem gX10_cycleAt_X10_quotient : GoodIn wsX10_cycleAt (va_wsS RX10 323 yX10_quotient wsX10_quotient) := goodIn_app (goodIn_of _ (by decide +kernel)) ggX10_cycleAt_X10_quotient
theorem dX10_cycleAt_0 : decode cX10_cycleAt 0 = .ok (.iconst 2, 1) := by decide +kernel
theorem dX10_cycleAt_1 : decode cX10_cycleAt 1 = .ok (.aload_n 0, 1) := by decide +kernel
theorem dX10_cycleAt_2 : decode cX10_cycleAt 2 = .ok (.iload_n 1, 1) := by decide +kernel
theorem dX10_cycleAt_3 : decode cX10_cycleAt 3 = .ok (.invokevirtual 364, 3) := by decide +kernel
theorem dX10_cycleAt_6 : decode cX10_cycleAt 6 = .ok (.imul, 1) := by decide +kernel
theorem dX10_cycleAt_7 : decode cX10_cycleAt 7 = .ok (.iload_n 2, 1) := by decide +kernel
theorem dX10_cycleAt_8 : decode cX10_cycleAt 8 = .ok (.iadd, 1) := by decide +kernel
theorem dX10_cycleAt_9 : decode cX10_cycleAt 9 = .ok (.iconst 2, 1) := by decide +kernel
theorem dX10_cycleAt_10 : decode cX10_cycleAt 10 = .ok (.iload_n 2, 1) := by decide +kernel
theorem dX10_cycleAt_11 : decode cX10_cycleAt 11 = .ok (.imul, 1) := by decide +kernel
theorem dX10_cycleAt_12 : decode cX10_cycleAt 12 = .ok (.invokestatic 323, 3) := by decide +kernel
theorem dX10_cycleAt_15 : decode cX10_cycleAt 15 = .ok (.ireturn, 1) := by decide +kernel
set_option maxRecDepth 20000 in
theorem ggX10_offsetAt_X10_sinceFirst : GoodIn wsX10_offsetAt wsX10_sinceFirst := goodIn_r _ [5, 6, 7, 8, 9, 10, 11, 12, 13, 25, 26, 27, 28, 29, 30, 31, 32, 33, 34, 35, 36, 37, 38, 39, 40] (by decide +kernel) (by decide +kernel)
set_option maxRecDepth 20000 in
theorem gX10_offsetAt_X10_sinceFirst : GoodIn wsX10_offsetAt (wsV RX10 364 RX10 yX10_sinceFirst wsX10_sinceFirst) := goodIn_app (goodIn_of _ (by decide +kernel)) ggX10_offsetAt_X10_sinceFirst
set_option maxRecDepth 20000 in
theorem ggX10_offsetAt_X10_cycleAt : GoodIn wsX10_offsetAt wsX10_cycleAt := goodIn_r _ [17, 1, 2, 3, 4, 5, 6, 7, 8, 9, 10, 11, 12, 13, 18, 19, 20, 21, 22, 23, 24, 25, 26, 27, 28, 29, 30, 31, 32, 33, 34, 35, 36, 37, 38, 39, 40] (by decide +kernel) (by decide +kernel)
set_option maxRecDepth 20000 in
theorem gX10_offsetAt_X10_cycleAt : GoodIn wsX10_offsetAt (wsV RX10 274 RX10 yX10_cycleAt wsX10_cycleAt) := goodIn_app (goodIn_of _ (by decide +kernel)) ggX10_offsetAt_X10_cycleAt
theorem dX10_offsetAt_0 : decode cX10_offsetAt 0 = .ok (.aload_n 0, 1) := by decide +kernel
theorem dX10_offsetAt_1 : decode cX10_offsetAt 1 = .ok (.iload_n 1, 1) := by decide +kernel
theorem dX10_offsetAt_2 : decode cX10_offsetAt 2 = .ok (.invokevirtual 364, 3) := by decide +kernel
theorem dX10_offsetAt_5 : decode cX10_offsetAt 5 = .ok (.aload_n 0, 1) := by decide +kernel
theorem dX10_offsetAt_6 : decode cX10_offsetAt 6 = .ok (.iload_n 1, 1) := by decide +kernel
theorem dX10_offsetAt_7 : decode cX10_offsetAt 7 = .ok (.iload_n 2, 1) := by decide +kernel
theorem dX10_offsetAt_8 : decode cX10_offsetAt 8 = .ok (.invokevirtual 274, 3) := by decide +kernel
theorem dX10_offsetAt_11 : decode cX10_offsetAt 11 = .ok (.iload_n 2, 1) := by decide +kernel
theorem dX10_offsetAt_12 : decode cX10_offsetAt 12 = .ok (.imul, 1) := by decide +kernel
theorem dX10_offsetAt_13 : decode cX10_offsetAt 13 = .ok (.isub, 1) := by decide +kernel
theorem dX10_offsetAt_14 : decode cX10_offsetAt 14 = .ok (.ireturn, 1) := by decide +kernel
set_option maxRecDepth 20000 in
theorem ggX10_quotient_J9_floorDiv_7cf53 : GoodIn wsX10_quotient wsJ9_floorDiv_7cf53 := goodIn_r _ [4] (by decide +kernel) (by decide +kernel)
set_option maxRecDepth 20000 in
theorem gX10_quotient_J9_floorDiv_7cf53 : GoodIn wsX10_quotient (va_wsS RX10 367 yJ9_floorDiv_7cf53 wsJ9_floorDiv_7cf53) := goodIn_app (goodIn_of _ (by decide +kernel)) ggX10_quotient_J9_floorDiv_7cf53
theorem dX10_quotient_0 : decode cX10_quotient 0 = .ok (.iload_n 1, 1) := by decide +kernel
theorem dX10_quotient_1 : decode cX10_quotient 1 = .ok (.ifCond .le 11, 3) := by decide +kernel
theorem dX10_quotient_4 : decode cX10_quotient 4 = .ok (.iload_n 0, 1) := by decide +kernel
theorem dX10_quotient_5 : decode cX10_quotient 5 = .ok (.iload_n 1, 1) := by decide +kernel
theorem dX10_quotient_6 : decode cX10_quotient 6 = .ok (.invokestatic 367, 3) := by decide +kernel
theorem dX10_quotient_9 : decode cX10_quotient 9 = .ok (.goto 4, 3) := by decide +kernel
theorem dX10_quotient_12 : decode cX10_quotient 12 = .ok (.iconst 0, 1) := by decide +kernel
theorem dX10_quotient_13 : decode cX10_quotient 13 = .ok (.ireturn, 1) := by decide +kernel
set_option maxRecDepth 20000 in
theorem ggX10_remainder_J9_floorMod_7cf53 : GoodIn wsX10_remainder wsJ9_floorMod_7cf53 := goodIn_r _ [4] (by decide +kernel) (by decide +kernel)
set_option maxRecDepth 20000 in
theorem gX10_remainder_J9_floorMod_7cf53 : GoodIn wsX10_remainder (va_wsS RX10 370 yJ9_floorMod_7cf53 wsJ9_floorMod_7cf53) := goodIn_app (goodIn_of _ (by decide +kernel)) ggX10_remainder_J9_floorMod_7cf53
theorem dX10_remainder_0 : decode cX10_remainder 0 = .ok (.iload_n 1, 1) := by decide +kernel
theorem dX10_remainder_1 : decode cX10_remainder 1 = .ok (.ifCond .le 11, 3) := by decide +kernel
theorem dX10_remainder_4 : decode cX10_remainder 4 = .ok (.iload_n 0, 1) := by decide +kernel
theorem dX10_remainder_5 : decode cX10_remainder 5 = .ok (.iload_n 1, 1) := by decide +kernel
theorem dX10_remainder_6 : decode cX10_remainder 6 = .ok (.invokestatic 370, 3) := by decide +kernel
theorem dX10_remainder_9 : decode cX10_remainder 9 = .ok (.goto 4, 3) := by decide +kernel
theorem dX10_remainder_12 : decode cX10_remainder 12 = .ok (.iconst 0, 1) := by decide +kernel
theorem dX10_remainder_13 : decode cX10_remainder 13 = .ok (.ireturn, 1) := by decide +kernel
theorem dX11_init_0 : decode cX11_init 0 = .ok (.aload_n 0, 1) := by decide +kernel
theorem dX11_init_1 : decode cX11_init 1 = .ok (.invokespecial 1, 3) := by decide +kernel
theorem dX11_init_4 : decode cX11_init 4 = .ok (.aload_n 0, 1) := by decide +kernel
theorem dX11_init_5 : decode cX11_init 5 = .ok (.bipush 10, 2) := by decide +kernel
theorem dX11_init_7 : decode cX11_init 7 = .ok (.newarray .int, 2) := by decide +kernel
theorem dX11_init_9 : decode cX11_init 9 = .ok (.putfield 7, 3) := by decide +kernel
theorem dX11_init_12 : decode cX11_init 12 = .ok (.aload_n 0, 1) := by decide +kernel
theorem dX11_init_13 : decode cX11_init 13 = .ok (.bipush 12, 2) := by decide +kernel
theorem dX11_init_15 : decode cX11_init 15 = .ok (.newarray .int, 2) := by decide +kernel
theorem dX11_init_17 : decode cX11_init 17 = .ok (.putfield 13, 3) := by decide +kernel
theorem dX11_init_20 : decode cX11_init 20 = .ok (.aload_n 0, 1) := by decide +kernel
theorem dX11_init_21 : decode cX11_init 21 = .ok (.bipush 12, 2) := by decide +kernel
theorem dX11_init_23 : decode cX11_init 23 = .ok (.newarray .int, 2) := by decide +kernel
theorem dX11_init_25 : decode cX11_init 25 = .ok (.putfield 16, 3) := by decide +kernel
theorem dX11_init_28 : decode cX11_init 28 = .ok (.aload_n 0, 1) := by decide +kernel
theorem dX11_init_29 : decode cX11_init 29 = .ok (.bipush 12, 2) := by decide +kernel
theorem dX11_init_31 : decode cX11_init 31 = .ok (.newarray .int, 2) := by decide +kernel
theorem dX11_init_33 : decode cX11_init 33 = .ok (.putfield 19, 3) := by decide +kernel
theorem dX11_init_36 : decode cX11_init 36 = .ok (.aload_n 0, 1) := by decide +kernel
theorem dX11_init_37 : decode cX11_init 37 = .ok (.bipush 12, 2) := by decide +kernel
theorem dX11_init_39 : decode cX11_init 39 = .ok (.newarray .int, 2) := by decide +kernel
theorem dX11_init_41 : decode cX11_init 41 = .ok (.putfield 22, 3) := by decide +kernel
theorem dX11_init_44 : decode cX11_init 44 = .ok (.aload_n 0, 1) := by decide +kernel
theorem dX11_init_45 : decode cX11_init 45 = .ok (.bipush 8, 2) := by decide +kernel
theorem dX11_init_47 : decode cX11_init 47 = .ok (.newarray .int, 2) := by decide +kernel
theorem dX11_init_49 : decode cX11_init 49 = .ok (.putfield 25, 3) := by decide +kernel
theorem dX11_init_52 : decode cX11_init 52 = .ok (.aload_n 0, 1) := by decide +kernel
theorem dX11_init_53 : decode cX11_init 53 = .ok (.bipush 8, 2) := by decide +kernel
theorem dX11_init_55 : decode cX11_init 55 = .ok (.newarray .int, 2) := by decide +kernel
theorem dX11_init_57 : decode cX11_init 57 = .ok (.putfield 28, 3) := by decide +kernel
theorem dX11_init_60 : decode cX11_init 60 = .ok (.aload_n 0, 1) := by decide +kernel
theorem dX11_init_61 : decode cX11_init 61 = .ok (.bipush 8, 2) := by decide +kernel
theorem dX11_init_63 : decode cX11_init 63 = .ok (.newarray .int, 2) := by decide +kernel
theorem dX11_init_65 : decode cX11_init 65 = .ok (.putfield 31, 3) := by decide +kernel
theorem dX11_init_68 : decode cX11_init 68 = .ok (.aload_n 0, 1) := by decide +kernel
theorem dX11_init_69 : decode cX11_init 69 = .ok (.bipush 8, 2) := by decide +kernel
theorem dX11_init_71 : decode cX11_init 71 = .ok (.newarray .int, 2) := by decide +kernel
theorem dX11_init_73 : decode cX11_init 73 = .ok (.putfield 34, 3) := by decide +kernel
theorem dX11_init_76 : decode cX11_init 76 = .ok (.aload_n 0, 1) := by decide +kernel
theorem dX11_init_77 : decode cX11_init 77 = .ok (.bipush 8, 2) := by decide +kernel
theorem dX11_init_79 : decode cX11_init 79 = .ok (.newarray .int, 2) := by decide +kernel
theorem dX11_init_81 : decode cX11_init 81 = .ok (.putfield 37, 3) := by decide +kernel
theorem dX11_init_84 : decode cX11_init 84 = .ok (.aload_n 0, 1) := by decide +kernel
theorem dX11_init_85 : decode cX11_init 85 = .ok (.bipush 80, 2) := by decide +kernel
theorem dX11_init_87 : decode cX11_init 87 = .ok (.newarray .int, 2) := by decide +kernel
theorem dX11_init_89 : decode cX11_init 89 = .ok (.putfield 40, 3) := by decide +kernel
theorem dX11_init_92 : decode cX11_init 92 = .ok (.aload_n 0, 1) := by decide +kernel
theorem dX11_init_93 : decode cX11_init 93 = .ok (.bipush 80, 2) := by decide +kernel
theorem dX11_init_95 : decode cX11_init 95 = .ok (.newarray .int, 2) := by decide +kernel
theorem dX11_init_97 : decode cX11_init 97 = .ok (.putfield 43, 3) := by decide +kernel
theorem dX11_init_100 : decode cX11_init 100 = .ok (.aload_n 0, 1) := by decide +kernel
theorem dX11_init_101 : decode cX11_init 101 = .ok (.bipush 80, 2) := by decide +kernel
theorem dX11_init_103 : decode cX11_init 103 = .ok (.newarray .int, 2) := by decide +kernel
theorem dX11_init_105 : decode cX11_init 105 = .ok (.putfield 46, 3) := by decide +kernel
theorem dX11_init_108 : decode cX11_init 108 = .ok (.aload_n 0, 1) := by decide +kernel
theorem dX11_init_109 : decode cX11_init 109 = .ok (.bipush 80, 2) := by decide +kernel
theorem dX11_init_111 : decode cX11_init 111 = .ok (.newarray .int, 2) := by decide +kernel
theorem dX11_init_113 : decode cX11_init 113 = .ok (.putfield 49, 3) := by decide +kernel
theorem dX11_init_116 : decode cX11_init 116 = .ok (.aload_n 0, 1) := by decide +kernel
theorem dX11_init_117 : decode cX11_init 117 = .ok (.bipush 80, 2) := by decide +kernel
theorem dX11_init_119 : decode cX11_init 119 = .ok (.newarray .int, 2) := by decide +kernel
theorem dX11_init_121 : decode cX11_init 121 = .ok (.putfield 52, 3) := by decide +kernel
theorem dX11_init_124 : decode cX11_init 124 = .ok (.aload_n 0, 1) := by decide +kernel
theorem dX11_init_125 : decode cX11_init 125 = .ok (.bipush 80, 2) := by decide +kernel
theorem dX11_init_127 : decode cX11_init 127 = .ok (.newarray .int, 2) := by decide +kernel
theorem dX11_init_129 : decode cX11_init 129 = .ok (.putfield 55, 3) := by decide +kernel
theorem dX11_init_132 : decode cX11_init 132 = .ok (.aload_n 0, 1) := by decide +kernel
theorem dX11_init_133 : decode cX11_init 133 = .ok (.bipush 80, 2) := by decide +kernel
theorem dX11_init_135 : decode cX11_init 135 = .ok (.newarray .int, 2) := by decide +kernel
theorem dX11_init_137 : decode cX11_init 137 = .ok (.putfield 58, 3) := by decide +kernel
theorem dX11_init_140 : decode cX11_init 140 = .ok (.aload_n 0, 1) := by decide +kernel
theorem dX11_init_141 : decode cX11_init 141 = .ok (.bipush 80, 2) := by decide +kernel
theorem dX11_init_143 : decode cX11_init 143 = .ok (.newarray .int, 2) := by decide +kernel
theorem dX11_init_145 : decode cX11_init 145 = .ok (.putfield 61, 3) := by decide +kernel
theorem dX11_init_148 : decode cX11_init 148 = .ok (.aload_n 0, 1) := by decide +kernel
theorem dX11_init_149 : decode cX11_init 149 = .ok (.bipush 80, 2) := by decide +kernel
theorem dX11_init_151 : decode cX11_init 151 = .ok (.newarray .boolean, 2) := by decide +kernel
theorem dX11_init_153 : decode cX11_init 153 = .ok (.putfield 64, 3) := by decide +kernel
theorem dX11_init_156 : decode cX11_init 156 = .ok (.aload_n 0, 1) := by decide +kernel
theorem dX11_init_157 : decode cX11_init 157 = .ok (.bipush 8, 2) := by decide +kernel
theorem dX11_init_159 : decode cX11_init 159 = .ok (.newarray .int, 2) := by decide +kernel
theorem dX11_init_161 : decode cX11_init 161 = .ok (.putfield 68, 3) := by decide +kernel
theorem dX11_init_164 : decode cX11_init 164 = .ok (.aload_n 0, 1) := by decide +kernel
theorem dX11_init_165 : decode cX11_init 165 = .ok (.bipush 8, 2) := by decide +kernel
theorem dX11_init_167 : decode cX11_init 167 = .ok (.newarray .int, 2) := by decide +kernel
theorem dX11_init_169 : decode cX11_init 169 = .ok (.putfield 71, 3) := by decide +kernel
theorem dX11_init_172 : decode cX11_init 172 = .ok (.aload_n 0, 1) := by decide +kernel
theorem dX11_init_173 : decode cX11_init 173 = .ok (.bipush 8, 2) := by decide +kernel
theorem dX11_init_175 : decode cX11_init 175 = .ok (.newarray .int, 2) := by decide +kernel
theorem dX11_init_177 : decode cX11_init 177 = .ok (.putfield 74, 3) := by decide +kernel
theorem dX11_init_180 : decode cX11_init 180 = .ok (.aload_n 0, 1) := by decide +kernel
theorem dX11_init_181 : decode cX11_init 181 = .ok (.bipush 8, 2) := by decide +kernel
theorem dX11_init_183 : decode cX11_init 183 = .ok (.newarray .int, 2) := by decide +kernel
theorem dX11_init_185 : decode cX11_init 185 = .ok (.putfield 77, 3) := by decide +kernel
theorem dX11_init_188 : decode cX11_init 188 = .ok (.aload_n 0, 1) := by decide +kernel
theorem dX11_init_189 : decode cX11_init 189 = .ok (.bipush 8, 2) := by decide +kernel
theorem dX11_init_191 : decode cX11_init 191 = .ok (.newarray .int, 2) := by decide +kernel
theorem dX11_init_193 : decode cX11_init 193 = .ok (.putfield 80, 3) := by decide +kernel
theorem dX11_init_196 : decode cX11_init 196 = .ok (.aload_n 0, 1) := by decide +kernel
theorem dX11_init_197 : decode cX11_init 197 = .ok (.bipush 8, 2) := by decide +kernel
theorem dX11_init_199 : decode cX11_init 199 = .ok (.newarray .boolean, 2) := by decide +kernel
theorem dX11_init_201 : decode cX11_init 201 = .ok (.putfield 83, 3) := by decide +kernel
theorem dX11_init_204 : decode cX11_init 204 = .ok (.aload_n 0, 1) := by decide +kernel
theorem dX11_init_205 : decode cX11_init 205 = .ok (.bipush 30, 2) := by decide +kernel
theorem dX11_init_207 : decode cX11_init 207 = .ok (.newarray .int, 2) := by decide +kernel
theorem dX11_init_209 : decode cX11_init 209 = .ok (.putfield 86, 3) := by decide +kernel
theorem dX11_init_212 : decode cX11_init 212 = .ok (.aload_n 0, 1) := by decide +kernel
theorem dX11_init_213 : decode cX11_init 213 = .ok (.bipush 30, 2) := by decide +kernel
theorem dX11_init_215 : decode cX11_init 215 = .ok (.newarray .int, 2) := by decide +kernel
theorem dX11_init_217 : decode cX11_init 217 = .ok (.putfield 89, 3) := by decide +kernel
theorem dX11_init_220 : decode cX11_init 220 = .ok (.aload_n 0, 1) := by decide +kernel
theorem dX11_init_221 : decode cX11_init 221 = .ok (.bipush 80, 2) := by decide +kernel
theorem dX11_init_223 : decode cX11_init 223 = .ok (.newarray .int, 2) := by decide +kernel
theorem dX11_init_225 : decode cX11_init 225 = .ok (.putfield 92, 3) := by decide +kernel
theorem dX11_init_228 : decode cX11_init 228 = .ok (.aload_n 0, 1) := by decide +kernel
theorem dX11_init_229 : decode cX11_init 229 = .ok (.bipush 80, 2) := by decide +kernel
theorem dX11_init_231 : decode cX11_init 231 = .ok (.newarray .int, 2) := by decide +kernel
theorem dX11_init_233 : decode cX11_init 233 = .ok (.putfield 95, 3) := by decide +kernel
theorem dX11_init_236 : decode cX11_init 236 = .ok (.aload_n 0, 1) := by decide +kernel
theorem dX11_init_237 : decode cX11_init 237 = .ok (.bipush 80, 2) := by decide +kernel
theorem dX11_init_239 : decode cX11_init 239 = .ok (.newarray .int, 2) := by decide +kernel
theorem dX11_init_241 : decode cX11_init 241 = .ok (.putfield 98, 3) := by decide +kernel
theorem dX11_init_244 : decode cX11_init 244 = .ok (.aload_n 0, 1) := by decide +kernel
theorem dX11_init_245 : decode cX11_init 245 = .ok (.bipush 30, 2) := by decide +kernel
theorem dX11_init_247 : decode cX11_init 247 = .ok (.newarray .int, 2) := by decide +kernel
theorem dX11_init_249 : decode cX11_init 249 = .ok (.putfield 101, 3) := by decide +kernel
theorem dX11_init_252 : decode cX11_init 252 = .ok (.aload_n 0, 1) := by decide +kernel
theorem dX11_init_253 : decode cX11_init 253 = .ok (.bipush 12, 2) := by decide +kernel
theorem dX11_init_255 : decode cX11_init 255 = .ok (.newarray .int, 2) := by decide +kernel
theorem dX11_init_257 : decode cX11_init 257 = .ok (.putfield 104, 3) := by decide +kernel
theorem dX11_init_260 : decode cX11_init 260 = .ok (.aload_n 0, 1) := by decide +kernel
theorem dX11_init_261 : decode cX11_init 261 = .ok (.bipush 12, 2) := by decide +kernel
theorem dX11_init_263 : decode cX11_init 263 = .ok (.newarray .boolean, 2) := by decide +kernel
theorem dX11_init_265 : decode cX11_init 265 = .ok (.putfield 107, 3) := by decide +kernel
theorem dX11_init_268 : decode cX11_init 268 = .ok (.iconst 0, 1) := by decide +kernel
theorem dX11_init_269 : decode cX11_init 269 = .ok (.istore_n 1, 1) := by decide +kernel
theorem dX11_init_270 : decode cX11_init 270 = .ok (.iload_n 1, 1) := by decide +kernel
theorem dX11_init_271 : decode cX11_init 271 = .ok (.bipush 10, 2) := by decide +kernel
theorem dX11_init_273 : decode cX11_init 273 = .ok (.if_icmp .ge 18, 3) := by decide +kernel
theorem dX11_init_276 : decode cX11_init 276 = .ok (.aload_n 0, 1) := by decide +kernel
theorem dX11_init_277 : decode cX11_init 277 = .ok (.getfield 7, 3) := by decide +kernel
theorem dX11_init_280 : decode cX11_init 280 = .ok (.iload_n 1, 1) := by decide +kernel
theorem dX11_init_281 : decode cX11_init 281 = .ok (.sipush 1000, 3) := by decide +kernel
theorem dX11_init_284 : decode cX11_init 284 = .ok (.iastore, 1) := by decide +kernel
theorem dX11_init_285 : decode cX11_init 285 = .ok (.iinc 1 1, 3) := by decide +kernel
theorem dX11_init_288 : decode cX11_init 288 = .ok (.goto (-18), 3) := by decide +kernel
theorem dX11_init_291 : decode cX11_init 291 = .ok (.return_, 1) := by decide +kernel
theorem dX11_thrown_0 : decode cX11_thrown 0 = .ok (.aload_n 0, 1) := by decide +kernel
theorem dX11_thrown_1 : decode cX11_thrown 1 = .ok (.getfield 110, 3) := by decide +kernel
theorem dX11_thrown_4 : decode cX11_thrown 4 = .ok (.ireturn, 1) := by decide +kernel
theorem dX11_in_0 : decode cX11_in 0 = .ok (.iload_n 0, 1) := by decide +kernel
theorem dX11_in_1 : decode cX11_in 1 = .ok (.iload_n 1, 1) := by decide +kernel
theorem dX11_in_2 : decode cX11_in 2 = .ok (.if_icmp .lt 12, 3) := by decide +kernel
theorem dX11_in_5 : decode cX11_in 5 = .ok (.iload_n 0, 1) := by decide +kernel
theorem dX11_in_6 : decode cX11_in 6 = .ok (.iload_n 2, 1) := by decide +kernel
theorem dX11_in_7 : decode cX11_in 7 = .ok (.if_icmp .gt 7, 3) := by decide +kernel
theorem dX11_in_10 : decode cX11_in 10 = .ok (.iconst 1, 1) := by decide +kernel
theorem dX11_in_11 : decode cX11_in 11 = .ok (.goto 4, 3) := by decide +kernel
theorem dX11_in_14 : decode cX11_in 14 = .ok (.iconst 0, 1) := by decide +kernel
theorem dX11_in_15 : decode cX11_in 15 = .ok (.ireturn, 1) := by decide +kernel
set_option maxRecDepth 20000 in
theorem ggX11_isStar_X11_in : GoodIn wsX11_isStar wsX11_in := goodIn_r _ [5] (by decide +kernel) (by decide +kernel)
set_option maxRecDepth 20000 in
theorem gX11_isStar_X11_in : GoodIn wsX11_isStar (va_wsS RX11 117 yX11_in wsX11_in) := goodIn_app (goodIn_of _ (by decide +kernel)) ggX11_isStar_X11_in
theorem dX11_isStar_0 : decode cX11_isStar 0 = .ok (.iload_n 1, 1) := by decide +kernel
theorem dX11_isStar_1 : decode cX11_isStar 1 = .ok (.iconst 0, 1) := by decide +kernel
theorem dX11_isStar_2 : decode cX11_isStar 2 = .ok (.aload_n 0, 1) := by decide +kernel
theorem dX11_isStar_3 : decode cX11_isStar 3 = .ok (.getfield 114, 3) := by decide +kernel
theorem dX11_isStar_6 : decode cX11_isStar 6 = .ok (.iconst 1, 1) := by decide +kernel
theorem dX11_isStar_7 : decode cX11_isStar 7 = .ok (.isub, 1) := by decide +kernel
theorem dX11_isStar_8 : decode cX11_isStar 8 = .ok (.invokestatic 117, 3) := by decide +kernel
theorem dX11_isStar_11 : decode cX11_isStar 11 = .ok (.ireturn, 1) := by decide +kernel
set_option maxRecDepth 20000 in
theorem ggX11_isPeriod_X11_in : GoodIn wsX11_isPeriod wsX11_in := goodIn_r _ [5] (by decide +kernel) (by decide +kernel)
set_option maxRecDepth 20000 in
theorem gX11_isPeriod_X11_in : GoodIn wsX11_isPeriod (va_wsS RX11 117 yX11_in wsX11_in) := goodIn_app (goodIn_of _ (by decide +kernel)) ggX11_isPeriod_X11_in
theorem dX11_isPeriod_0 : decode cX11_isPeriod 0 = .ok (.iload_n 0, 1) := by decide +kernel
theorem dX11_isPeriod_1 : decode cX11_isPeriod 1 = .ok (.bipush 30, 2) := by decide +kernel
theorem dX11_isPeriod_3 : decode cX11_isPeriod 3 = .ok (.ldc 121, 2) := by decide +kernel
theorem dX11_isPeriod_5 : decode cX11_isPeriod 5 = .ok (.invokestatic 117, 3) := by decide +kernel
theorem dX11_isPeriod_8 : decode cX11_isPeriod 8 = .ok (.ireturn, 1) := by decide +kernel
theorem dX11_part_0 : decode cX11_part 0 = .ok (.iload_n 0, 1) := by decide +kernel
theorem dX11_part_1 : decode cX11_part 1 = .ok (.iload_n 1, 1) := by decide +kernel
theorem dX11_part_2 : decode cX11_part 2 = .ok (.irem, 1) := by decide +kernel
theorem dX11_part_3 : decode cX11_part 3 = .ok (.ifCond .ge 11, 3) := by decide +kernel
theorem dX11_part_6 : decode cX11_part 6 = .ok (.iload_n 0, 1) := by decide +kernel
theorem dX11_part_7 : decode cX11_part 7 = .ok (.iload_n 1, 1) := by decide +kernel
theorem dX11_part_8 : decode cX11_part 8 = .ok (.idiv, 1) := by decide +kernel
theorem dX11_part_9 : decode cX11_part 9 = .ok (.iconst 1, 1) := by decide +kernel
theorem dX11_part_10 : decode cX11_part 10 = .ok (.isub, 1) := by decide +kernel
theorem dX11_part_11 : decode cX11_part 11 = .ok (.goto 6, 3) := by decide +kernel
theorem dX11_part_14 : decode cX11_part 14 = .ok (.iload_n 0, 1) := by decide +kernel
theorem dX11_part_15 : decode cX11_part 15 = .ok (.iload_n 1, 1) := by decide +kernel
theorem dX11_part_16 : decode cX11_part 16 = .ok (.idiv, 1) := by decide +kernel
theorem dX11_part_17 : decode cX11_part 17 = .ok (.ireturn, 1) := by decide +kernel
theorem dX11_remainder_0 : decode cX11_remainder 0 = .ok (.iload_n 0, 1) := by decide +kernel
theorem dX11_remainder_1 : decode cX11_remainder 1 = .ok (.iload_n 1, 1) := by decide +kernel
theorem dX11_remainder_2 : decode cX11_remainder 2 = .ok (.irem, 1) := by decide +kernel
theorem dX11_remainder_3 : decode cX11_remainder 3 = .ok (.istore_n 2, 1) := by decide +kernel
theorem dX11_remainder_4 : decode cX11_remainder 4 = .ok (.iload_n 2, 1) := by decide +kernel
theorem dX11_remainder_5 : decode cX11_remainder 5 = .ok (.ifCond .ge 9, 3) := by decide +kernel
theorem dX11_remainder_8 : decode cX11_remainder 8 = .ok (.iload_n 2, 1) := by decide +kernel
theorem dX11_remainder_9 : decode cX11_remainder 9 = .ok (.iload_n 1, 1) := by decide +kernel
theorem dX11_remainder_10 : decode cX11_remainder 10 = .ok (.iadd, 1) := by decide +kernel
theorem dX11_remainder_11 : decode cX11_remainder 11 = .ok (.goto 4, 3) := by decide +kernel
theorem dX11_remainder_14 : decode cX11_remainder 14 = .ok (.iload_n 2, 1) := by decide +kernel
theorem dX11_remainder_15 : decode cX11_remainder 15 = .ok (.ireturn, 1) := by decide +kernel
set_option maxRecDepth 20000 in
theorem ggX11_comparison_X11_in : GoodIn wsX11_comparison wsX11_in := goodIn_r _ [6] (by decide +kernel) (by decide +kernel)
set_option maxRecDepth 20000 in
theorem gX11_comparison_X11_in : GoodIn wsX11_comparison (va_wsS RX11 117 yX11_in wsX11_in) := goodIn_app (goodIn_of _ (by decide +kernel)) ggX11_comparison_X11_in
theorem dX11_comparison_0 : decode cX11_comparison 0 = .ok (.aload_n 0, 1) := by decide +kernel
theorem dX11_comparison_1 : decode cX11_comparison 1 = .ok (.iload_n 1, 1) := by decide +kernel
theorem dX11_comparison_2 : decode cX11_comparison 2 = .ok (.iconst 0, 1) := by decide +kernel
theorem dX11_comparison_3 : decode cX11_comparison 3 = .ok (.bipush 9, 2) := by decide +kernel
theorem dX11_comparison_5 : decode cX11_comparison 5 = .ok (.invokestatic 117, 3) := by decide +kernel
theorem dX11_comparison_8 : decode cX11_comparison 8 = .ok (.ifCond .ne 7, 3) := by decide +kernel
theorem dX11_comparison_11 : decode cX11_comparison 11 = .ok (.iconst 1, 1) := by decide +kernel
theorem dX11_comparison_12 : decode cX11_comparison 12 = .ok (.goto 21, 3) := by decide +kernel
theorem dX11_comparison_15 : decode cX11_comparison 15 = .ok (.iload_n 2, 1) := by decide +kernel
theorem dX11_comparison_16 : decode cX11_comparison 16 = .ok (.sipush (-200), 3) := by decide +kernel
theorem dX11_comparison_19 : decode cX11_comparison 19 = .ok (.sipush 2000, 3) := by decide +kernel
theorem dX11_comparison_22 : decode cX11_comparison 22 = .ok (.invokestatic 117, 3) := by decide +kernel
theorem dX11_comparison_25 : decode cX11_comparison 25 = .ok (.ifCond .ne 7, 3) := by decide +kernel
theorem dX11_comparison_28 : decode cX11_comparison 28 = .ok (.iconst 2, 1) := by decide +kernel
theorem dX11_comparison_29 : decode cX11_comparison 29 = .ok (.goto 4, 3) := by decide +kernel
theorem dX11_comparison_32 : decode cX11_comparison 32 = .ok (.iconst 0, 1) := by decide +kernel
theorem dX11_comparison_33 : decode cX11_comparison 33 = .ok (.putfield 110, 3) := by decide +kernel
theorem dX11_comparison_36 : decode cX11_comparison 36 = .ok (.aload_n 0, 1) := by decide +kernel
theorem dX11_comparison_37 : decode cX11_comparison 37 = .ok (.getfield 110, 3) := by decide +kernel
theorem dX11_comparison_40 : decode cX11_comparison 40 = .ok (.ifCond .le 5, 3) := by decide +kernel
theorem dX11_comparison_43 : decode cX11_comparison 43 = .ok (.iconst 0, 1) := by decide +kernel
theorem dX11_comparison_44 : decode cX11_comparison 44 = .ok (.ireturn, 1) := by decide +kernel
theorem dX11_comparison_45 : decode cX11_comparison 45 = .ok (.aload_n 0, 1) := by decide +kernel
theorem dX11_comparison_46 : decode cX11_comparison 46 = .ok (.getfield 7, 3) := by decide +kernel
theorem dX11_comparison_49 : decode cX11_comparison 49 = .ok (.iload_n 1, 1) := by decide +kernel
theorem dX11_comparison_50 : decode cX11_comparison 50 = .ok (.iaload, 1) := by decide +kernel
theorem dX11_comparison_51 : decode cX11_comparison 51 = .ok (.istore_n 3, 1) := by decide +kernel
theorem dX11_comparison_52 : decode cX11_comparison 52 = .ok (.aload_n 0, 1) := by decide +kernel
theorem dX11_comparison_53 : decode cX11_comparison 53 = .ok (.getfield 7, 3) := by decide +kernel
theorem dX11_comparison_56 : decode cX11_comparison 56 = .ok (.iload_n 1, 1) := by decide +kernel
theorem dX11_comparison_57 : decode cX11_comparison 57 = .ok (.iload_n 2, 1) := by decide +kernel
theorem dX11_comparison_58 : decode cX11_comparison 58 = .ok (.iastore, 1) := by decide +kernel
theorem dX11_comparison_59 : decode cX11_comparison 59 = .ok (.iload_n 3, 1) := by decide +kernel
theorem dX11_comparison_60 : decode cX11_comparison 60 = .ok (.ireturn, 1) := by decide +kernel
set_option maxRecDepth 20000 in
theorem ggX11_star_X11_in : GoodIn wsX11_star wsX11_in := goodIn_r _ [8] (by decide +kernel) (by decide +kernel)
set_option maxRecDepth 20000 in
theorem gX11_star_X11_in : GoodIn wsX11_star (va_wsS RX11 117 yX11_in wsX11_in) := goodIn_app (goodIn_of _ (by decide +kernel)) ggX11_star_X11_in
theorem dX11_star_0 : decode cX11_star 0 = .ok (.aload_n 0, 1) := by decide +kernel
theorem dX11_star_1 : decode cX11_star 1 = .ok (.iload_n 1, 1) := by decide +kernel
theorem dX11_star_2 : decode cX11_star 2 = .ok (.iconst 0, 1) := by decide +kernel
theorem dX11_star_3 : decode cX11_star 3 = .ok (.sipush 363, 3) := by decide +kernel
theorem dX11_star_6 : decode cX11_star 6 = .ok (.invokestatic 117, 3) := by decide +kernel
theorem dX11_star_9 : decode cX11_star 9 = .ok (.ifCond .ne 7, 3) := by decide +kernel
theorem dX11_star_12 : decode cX11_star 12 = .ok (.iconst 1, 1) := by decide +kernel
theorem dX11_star_13 : decode cX11_star 13 = .ok (.goto 17, 3) := by decide +kernel
theorem dX11_star_16 : decode cX11_star 16 = .ok (.aload_n 0, 1) := by decide +kernel
theorem dX11_star_17 : decode cX11_star 17 = .ok (.getfield 114, 3) := by decide +kernel
theorem dX11_star_20 : decode cX11_star 20 = .ok (.bipush 12, 2) := by decide +kernel
theorem dX11_star_22 : decode cX11_star 22 = .ok (.if_icmp .ne 7, 3) := by decide +kernel
theorem dX11_star_25 : decode cX11_star 25 = .ok (.iconst 2, 1) := by decide +kernel
theorem dX11_star_26 : decode cX11_star 26 = .ok (.goto 4, 3) := by decide +kernel
theorem dX11_star_29 : decode cX11_star 29 = .ok (.iconst 0, 1) := by decide +kernel
theorem dX11_star_30 : decode cX11_star 30 = .ok (.putfield 110, 3) := by decide +kernel
theorem dX11_star_33 : decode cX11_star 33 = .ok (.aload_n 0, 1) := by decide +kernel
theorem dX11_star_34 : decode cX11_star 34 = .ok (.getfield 110, 3) := by decide +kernel
theorem dX11_star_37 : decode cX11_star 37 = .ok (.ifCond .le 5, 3) := by decide +kernel
theorem dX11_star_40 : decode cX11_star 40 = .ok (.iconst 0, 1) := by decide +kernel
theorem dX11_star_41 : decode cX11_star 41 = .ok (.ireturn, 1) := by decide +kernel
theorem dX11_star_42 : decode cX11_star 42 = .ok (.aload_n 0, 1) := by decide +kernel
theorem dX11_star_43 : decode cX11_star 43 = .ok (.getfield 13, 3) := by decide +kernel
theorem dX11_star_46 : decode cX11_star 46 = .ok (.aload_n 0, 1) := by decide +kernel
theorem dX11_star_47 : decode cX11_star 47 = .ok (.getfield 114, 3) := by decide +kernel
theorem dX11_star_50 : decode cX11_star 50 = .ok (.iload_n 1, 1) := by decide +kernel
theorem dX11_star_51 : decode cX11_star 51 = .ok (.iastore, 1) := by decide +kernel
theorem dX11_star_52 : decode cX11_star 52 = .ok (.aload_n 0, 1) := by decide +kernel
theorem dX11_star_53 : decode cX11_star 53 = .ok (.getfield 16, 3) := by decide +kernel
theorem dX11_star_56 : decode cX11_star 56 = .ok (.aload_n 0, 1) := by decide +kernel
theorem dX11_star_57 : decode cX11_star 57 = .ok (.getfield 114, 3) := by decide +kernel
theorem dX11_star_60 : decode cX11_star 60 = .ok (.aload_n 0, 1) := by decide +kernel
theorem dX11_star_61 : decode cX11_star 61 = .ok (.getfield 114, 3) := by decide +kernel
theorem dX11_star_64 : decode cX11_star 64 = .ok (.iastore, 1) := by decide +kernel
theorem dX11_star_65 : decode cX11_star 65 = .ok (.aload_n 0, 1) := by decide +kernel
theorem dX11_star_66 : decode cX11_star 66 = .ok (.dup, 1) := by decide +kernel
theorem dX11_star_67 : decode cX11_star 67 = .ok (.getfield 114, 3) := by decide +kernel
theorem dX11_star_70 : decode cX11_star 70 = .ok (.iconst 1, 1) := by decide +kernel
theorem dX11_star_71 : decode cX11_star 71 = .ok (.iadd, 1) := by decide +kernel
theorem dX11_star_72 : decode cX11_star 72 = .ok (.putfield 114, 3) := by decide +kernel
theorem dX11_star_75 : decode cX11_star 75 = .ok (.aload_n 0, 1) := by decide +kernel
theorem dX11_star_76 : decode cX11_star 76 = .ok (.getfield 114, 3) := by decide +kernel
theorem dX11_star_79 : decode cX11_star 79 = .ok (.iconst 1, 1) := by decide +kernel
theorem dX11_star_80 : decode cX11_star 80 = .ok (.isub, 1) := by decide +kernel
theorem dX11_star_81 : decode cX11_star 81 = .ok (.ireturn, 1) := by decide +kernel
set_option maxRecDepth 20000 in
theorem ggX11_bias_X11_in : GoodIn wsX11_bias wsX11_in := goodIn_r _ [6] (by decide +kernel) (by decide +kernel)
set_option maxRecDepth 20000 in
theorem gX11_bias_X11_in : GoodIn wsX11_bias (va_wsS RX11 117 yX11_in wsX11_in) := goodIn_app (goodIn_of _ (by decide +kernel)) ggX11_bias_X11_in
theorem dX11_bias_0 : decode cX11_bias 0 = .ok (.aload_n 0, 1) := by decide +kernel
theorem dX11_bias_1 : decode cX11_bias 1 = .ok (.iload_n 1, 1) := by decide +kernel
theorem dX11_bias_2 : decode cX11_bias 2 = .ok (.iconst 0, 1) := by decide +kernel
theorem dX11_bias_3 : decode cX11_bias 3 = .ok (.bipush 7, 2) := by decide +kernel
theorem dX11_bias_5 : decode cX11_bias 5 = .ok (.invokestatic 117, 3) := by decide +kernel
theorem dX11_bias_8 : decode cX11_bias 8 = .ok (.ifCond .ne 7, 3) := by decide +kernel
theorem dX11_bias_11 : decode cX11_bias 11 = .ok (.iconst 1, 1) := by decide +kernel
theorem dX11_bias_12 : decode cX11_bias 12 = .ok (.goto 19, 3) := by decide +kernel
theorem dX11_bias_15 : decode cX11_bias 15 = .ok (.iload_n 2, 1) := by decide +kernel
theorem dX11_bias_16 : decode cX11_bias 16 = .ok (.bipush (-99), 2) := by decide +kernel
theorem dX11_bias_18 : decode cX11_bias 18 = .ok (.bipush 99, 2) := by decide +kernel
theorem dX11_bias_20 : decode cX11_bias 20 = .ok (.invokestatic 117, 3) := by decide +kernel
theorem dX11_bias_23 : decode cX11_bias 23 = .ok (.ifCond .ne 7, 3) := by decide +kernel
theorem dX11_bias_26 : decode cX11_bias 26 = .ok (.iconst 2, 1) := by decide +kernel
theorem dX11_bias_27 : decode cX11_bias 27 = .ok (.goto 4, 3) := by decide +kernel
theorem dX11_bias_30 : decode cX11_bias 30 = .ok (.iconst 0, 1) := by decide +kernel
theorem dX11_bias_31 : decode cX11_bias 31 = .ok (.putfield 110, 3) := by decide +kernel
theorem dX11_bias_34 : decode cX11_bias 34 = .ok (.aload_n 0, 1) := by decide +kernel
theorem dX11_bias_35 : decode cX11_bias 35 = .ok (.getfield 110, 3) := by decide +kernel
theorem dX11_bias_38 : decode cX11_bias 38 = .ok (.ifCond .le 5, 3) := by decide +kernel
theorem dX11_bias_41 : decode cX11_bias 41 = .ok (.iconst 0, 1) := by decide +kernel
theorem dX11_bias_42 : decode cX11_bias 42 = .ok (.ireturn, 1) := by decide +kernel
theorem dX11_bias_43 : decode cX11_bias 43 = .ok (.aload_n 0, 1) := by decide +kernel
theorem dX11_bias_44 : decode cX11_bias 44 = .ok (.getfield 25, 3) := by decide +kernel
theorem dX11_bias_47 : decode cX11_bias 47 = .ok (.iload_n 1, 1) := by decide +kernel
theorem dX11_bias_48 : decode cX11_bias 48 = .ok (.iaload, 1) := by decide +kernel
theorem dX11_bias_49 : decode cX11_bias 49 = .ok (.istore_n 3, 1) := by decide +kernel
theorem dX11_bias_50 : decode cX11_bias 50 = .ok (.aload_n 0, 1) := by decide +kernel
theorem dX11_bias_51 : decode cX11_bias 51 = .ok (.getfield 25, 3) := by decide +kernel
theorem dX11_bias_54 : decode cX11_bias 54 = .ok (.iload_n 1, 1) := by decide +kernel
theorem dX11_bias_55 : decode cX11_bias 55 = .ok (.iload_n 2, 1) := by decide +kernel
theorem dX11_bias_56 : decode cX11_bias 56 = .ok (.iastore, 1) := by decide +kernel
theorem dX11_bias_57 : decode cX11_bias 57 = .ok (.iload_n 3, 1) := by decide +kernel
theorem dX11_bias_58 : decode cX11_bias 58 = .ok (.ireturn, 1) := by decide +kernel
set_option maxRecDepth 20000 in
theorem ggX11_clock_X11_in : GoodIn wsX11_clock wsX11_in := goodIn_r _ [6] (by decide +kernel) (by decide +kernel)
set_option maxRecDepth 20000 in
theorem gX11_clock_X11_in : GoodIn wsX11_clock (va_wsS RX11 117 yX11_in wsX11_in) := goodIn_app (goodIn_of _ (by decide +kernel)) ggX11_clock_X11_in
theorem dX11_clock_0 : decode cX11_clock 0 = .ok (.aload_n 0, 1) := by decide +kernel
theorem dX11_clock_1 : decode cX11_clock 1 = .ok (.iload_n 1, 1) := by decide +kernel
theorem dX11_clock_2 : decode cX11_clock 2 = .ok (.iconst 0, 1) := by decide +kernel
theorem dX11_clock_3 : decode cX11_clock 3 = .ok (.bipush 7, 2) := by decide +kernel
theorem dX11_clock_5 : decode cX11_clock 5 = .ok (.invokestatic 117, 3) := by decide +kernel
theorem dX11_clock_8 : decode cX11_clock 8 = .ok (.ifCond .ne 7, 3) := by decide +kernel
theorem dX11_clock_11 : decode cX11_clock 11 = .ok (.iconst 1, 1) := by decide +kernel
theorem dX11_clock_12 : decode cX11_clock 12 = .ok (.goto 21, 3) := by decide +kernel
theorem dX11_clock_15 : decode cX11_clock 15 = .ok (.iload_n 2, 1) := by decide +kernel
theorem dX11_clock_16 : decode cX11_clock 16 = .ok (.sipush (-1440), 3) := by decide +kernel
theorem dX11_clock_19 : decode cX11_clock 19 = .ok (.sipush 1440, 3) := by decide +kernel
theorem dX11_clock_22 : decode cX11_clock 22 = .ok (.invokestatic 117, 3) := by decide +kernel
theorem dX11_clock_25 : decode cX11_clock 25 = .ok (.ifCond .ne 7, 3) := by decide +kernel
theorem dX11_clock_28 : decode cX11_clock 28 = .ok (.iconst 2, 1) := by decide +kernel
theorem dX11_clock_29 : decode cX11_clock 29 = .ok (.goto 4, 3) := by decide +kernel
theorem dX11_clock_32 : decode cX11_clock 32 = .ok (.iconst 0, 1) := by decide +kernel
theorem dX11_clock_33 : decode cX11_clock 33 = .ok (.putfield 110, 3) := by decide +kernel
theorem dX11_clock_36 : decode cX11_clock 36 = .ok (.aload_n 0, 1) := by decide +kernel
theorem dX11_clock_37 : decode cX11_clock 37 = .ok (.getfield 110, 3) := by decide +kernel
theorem dX11_clock_40 : decode cX11_clock 40 = .ok (.ifCond .le 5, 3) := by decide +kernel
theorem dX11_clock_43 : decode cX11_clock 43 = .ok (.iconst 0, 1) := by decide +kernel
theorem dX11_clock_44 : decode cX11_clock 44 = .ok (.ireturn, 1) := by decide +kernel
theorem dX11_clock_45 : decode cX11_clock 45 = .ok (.aload_n 0, 1) := by decide +kernel
theorem dX11_clock_46 : decode cX11_clock 46 = .ok (.getfield 28, 3) := by decide +kernel
theorem dX11_clock_49 : decode cX11_clock 49 = .ok (.iload_n 1, 1) := by decide +kernel
theorem dX11_clock_50 : decode cX11_clock 50 = .ok (.iaload, 1) := by decide +kernel
theorem dX11_clock_51 : decode cX11_clock 51 = .ok (.istore_n 3, 1) := by decide +kernel
theorem dX11_clock_52 : decode cX11_clock 52 = .ok (.aload_n 0, 1) := by decide +kernel
theorem dX11_clock_53 : decode cX11_clock 53 = .ok (.getfield 28, 3) := by decide +kernel
theorem dX11_clock_56 : decode cX11_clock 56 = .ok (.iload_n 1, 1) := by decide +kernel
theorem dX11_clock_57 : decode cX11_clock 57 = .ok (.iload_n 2, 1) := by decide +kernel
theorem dX11_clock_58 : decode cX11_clock 58 = .ok (.iastore, 1) := by decide +kernel
theorem dX11_clock_59 : decode cX11_clock 59 = .ok (.iload_n 3, 1) := by decide +kernel
theorem dX11_clock_60 : decode cX11_clock 60 = .ok (.ireturn, 1) := by decide +kernel
set_option maxRecDepth 20000 in
theorem ggX11_plate_X11_in : GoodIn wsX11_plate wsX11_in := goodIn_r _ [10] (by decide +kernel) (by decide +kernel)
set_option maxRecDepth 20000 in
theorem gX11_plate_X11_in : GoodIn wsX11_plate (va_wsS RX11 117 yX11_in wsX11_in) := goodIn_app (goodIn_of _ (by decide +kernel)) ggX11_plate_X11_in
theorem dX11_plate_0 : decode cX11_plate 0 = .ok (.aload_n 0, 1) := by decide +kernel
theorem dX11_plate_1 : decode cX11_plate 1 = .ok (.iload_n 1, 1) := by decide +kernel
theorem dX11_plate_2 : decode cX11_plate 2 = .ok (.iconst 0, 1) := by decide +kernel
theorem dX11_plate_3 : decode cX11_plate 3 = .ok (.ldc 122, 2) := by decide +kernel
theorem dX11_plate_5 : decode cX11_plate 5 = .ok (.invokestatic 117, 3) := by decide +kernel
theorem dX11_plate_8 : decode cX11_plate 8 = .ok (.ifCond .eq 26, 3) := by decide +kernel
theorem dX11_plate_11 : decode cX11_plate 11 = .ok (.iload_n 2, 1) := by decide +kernel
theorem dX11_plate_12 : decode cX11_plate 12 = .ok (.sipush (-500), 3) := by decide +kernel
theorem dX11_plate_15 : decode cX11_plate 15 = .ok (.sipush 3000, 3) := by decide +kernel
theorem dX11_plate_18 : decode cX11_plate 18 = .ok (.invokestatic 117, 3) := by decide +kernel
theorem dX11_plate_21 : decode cX11_plate 21 = .ok (.ifCond .eq 13, 3) := by decide +kernel
theorem dX11_plate_24 : decode cX11_plate 24 = .ok (.iload_n 3, 1) := by decide +kernel
theorem dX11_plate_25 : decode cX11_plate 25 = .ok (.iconst 1, 1) := by decide +kernel
theorem dX11_plate_26 : decode cX11_plate 26 = .ok (.bipush 20, 2) := by decide +kernel
theorem dX11_plate_28 : decode cX11_plate 28 = .ok (.invokestatic 117, 3) := by decide +kernel
theorem dX11_plate_31 : decode cX11_plate 31 = .ok (.ifCond .ne 7, 3) := by decide +kernel
theorem dX11_plate_34 : decode cX11_plate 34 = .ok (.iconst 1, 1) := by decide +kernel
theorem dX11_plate_35 : decode cX11_plate 35 = .ok (.goto 17, 3) := by decide +kernel
theorem dX11_plate_38 : decode cX11_plate 38 = .ok (.aload_n 0, 1) := by decide +kernel
theorem dX11_plate_39 : decode cX11_plate 39 = .ok (.getfield 123, 3) := by decide +kernel
theorem dX11_plate_42 : decode cX11_plate 42 = .ok (.bipush 8, 2) := by decide +kernel
theorem dX11_plate_44 : decode cX11_plate 44 = .ok (.if_icmp .ne 7, 3) := by decide +kernel
theorem dX11_plate_47 : decode cX11_plate 47 = .ok (.iconst 2, 1) := by decide +kernel
theorem dX11_plate_48 : decode cX11_plate 48 = .ok (.goto 4, 3) := by decide +kernel
theorem dX11_plate_51 : decode cX11_plate 51 = .ok (.iconst 0, 1) := by decide +kernel
theorem dX11_plate_52 : decode cX11_plate 52 = .ok (.putfield 110, 3) := by decide +kernel
theorem dX11_plate_55 : decode cX11_plate 55 = .ok (.aload_n 0, 1) := by decide +kernel
theorem dX11_plate_56 : decode cX11_plate 56 = .ok (.getfield 110, 3) := by decide +kernel
theorem dX11_plate_59 : decode cX11_plate 59 = .ok (.ifCond .le 5, 3) := by decide +kernel
theorem dX11_plate_62 : decode cX11_plate 62 = .ok (.iconst 0, 1) := by decide +kernel
theorem dX11_plate_63 : decode cX11_plate 63 = .ok (.ireturn, 1) := by decide +kernel
theorem dX11_plate_64 : decode cX11_plate 64 = .ok (.aload_n 0, 1) := by decide +kernel
theorem dX11_plate_65 : decode cX11_plate 65 = .ok (.getfield 31, 3) := by decide +kernel
theorem dX11_plate_68 : decode cX11_plate 68 = .ok (.aload_n 0, 1) := by decide +kernel
theorem dX11_plate_69 : decode cX11_plate 69 = .ok (.getfield 123, 3) := by decide +kernel
theorem dX11_plate_72 : decode cX11_plate 72 = .ok (.iload_n 1, 1) := by decide +kernel
theorem dX11_plate_73 : decode cX11_plate 73 = .ok (.iastore, 1) := by decide +kernel
theorem dX11_plate_74 : decode cX11_plate 74 = .ok (.aload_n 0, 1) := by decide +kernel
theorem dX11_plate_75 : decode cX11_plate 75 = .ok (.getfield 34, 3) := by decide +kernel
theorem dX11_plate_78 : decode cX11_plate 78 = .ok (.aload_n 0, 1) := by decide +kernel
theorem dX11_plate_79 : decode cX11_plate 79 = .ok (.getfield 123, 3) := by decide +kernel
theorem dX11_plate_82 : decode cX11_plate 82 = .ok (.iload_n 2, 1) := by decide +kernel
theorem dX11_plate_83 : decode cX11_plate 83 = .ok (.iastore, 1) := by decide +kernel
theorem dX11_plate_84 : decode cX11_plate 84 = .ok (.aload_n 0, 1) := by decide +kernel
theorem dX11_plate_85 : decode cX11_plate 85 = .ok (.getfield 37, 3) := by decide +kernel
theorem dX11_plate_88 : decode cX11_plate 88 = .ok (.aload_n 0, 1) := by decide +kernel
theorem dX11_plate_89 : decode cX11_plate 89 = .ok (.getfield 123, 3) := by decide +kernel
theorem dX11_plate_92 : decode cX11_plate 92 = .ok (.iload_n 3, 1) := by decide +kernel
theorem dX11_plate_93 : decode cX11_plate 93 = .ok (.iastore, 1) := by decide +kernel
theorem dX11_plate_94 : decode cX11_plate 94 = .ok (.aload_n 0, 1) := by decide +kernel
theorem dX11_plate_95 : decode cX11_plate 95 = .ok (.dup, 1) := by decide +kernel
theorem dX11_plate_96 : decode cX11_plate 96 = .ok (.getfield 123, 3) := by decide +kernel
theorem dX11_plate_99 : decode cX11_plate 99 = .ok (.iconst 1, 1) := by decide +kernel
theorem dX11_plate_100 : decode cX11_plate 100 = .ok (.iadd, 1) := by decide +kernel
theorem dX11_plate_101 : decode cX11_plate 101 = .ok (.putfield 123, 3) := by decide +kernel
theorem dX11_plate_104 : decode cX11_plate 104 = .ok (.aload_n 0, 1) := by decide +kernel
theorem dX11_plate_105 : decode cX11_plate 105 = .ok (.getfield 123, 3) := by decide +kernel
theorem dX11_plate_108 : decode cX11_plate 108 = .ok (.iconst 1, 1) := by decide +kernel
theorem dX11_plate_109 : decode cX11_plate 109 = .ok (.isub, 1) := by decide +kernel
theorem dX11_plate_110 : decode cX11_plate 110 = .ok (.ireturn, 1) := by decide +kernel
set_option maxRecDepth 20000 in
theorem ggX11_join_X11_in : GoodIn wsX11_join wsX11_in := goodIn_r _ [7] (by decide +kernel) (by decide +kernel)
set_option maxRecDepth 20000 in
theorem gX11_join_X11_in : GoodIn wsX11_join (va_wsS RX11 117 yX11_in wsX11_in) := goodIn_app (goodIn_of _ (by decide +kernel)) ggX11_join_X11_in
theorem dX11_join_0 : decode cX11_join 0 = .ok (.aload_n 0, 1) := by decide +kernel
theorem dX11_join_1 : decode cX11_join 1 = .ok (.iload_n 1, 1) := by decide +kernel
theorem dX11_join_2 : decode cX11_join 2 = .ok (.iconst 0, 1) := by decide +kernel
theorem dX11_join_3 : decode cX11_join 3 = .ok (.aload_n 0, 1) := by decide +kernel
theorem dX11_join_4 : decode cX11_join 4 = .ok (.getfield 123, 3) := by decide +kernel
theorem dX11_join_7 : decode cX11_join 7 = .ok (.iconst 1, 1) := by decide +kernel
theorem dX11_join_8 : decode cX11_join 8 = .ok (.isub, 1) := by decide +kernel
theorem dX11_join_9 : decode cX11_join 9 = .ok (.invokestatic 117, 3) := by decide +kernel
theorem dX11_join_12 : decode cX11_join 12 = .ok (.ifCond .ne 7, 3) := by decide +kernel
theorem dX11_join_15 : decode cX11_join 15 = .ok (.iconst 1, 1) := by decide +kernel
theorem dX11_join_16 : decode cX11_join 16 = .ok (.goto 21, 3) := by decide +kernel
theorem dX11_join_19 : decode cX11_join 19 = .ok (.iload_n 2, 1) := by decide +kernel
theorem dX11_join_20 : decode cX11_join 20 = .ok (.sipush (-500), 3) := by decide +kernel
theorem dX11_join_23 : decode cX11_join 23 = .ok (.sipush 3000, 3) := by decide +kernel
theorem dX11_join_26 : decode cX11_join 26 = .ok (.invokestatic 117, 3) := by decide +kernel
theorem dX11_join_29 : decode cX11_join 29 = .ok (.ifCond .ne 7, 3) := by decide +kernel
theorem dX11_join_32 : decode cX11_join 32 = .ok (.iconst 2, 1) := by decide +kernel
theorem dX11_join_33 : decode cX11_join 33 = .ok (.goto 4, 3) := by decide +kernel
theorem dX11_join_36 : decode cX11_join 36 = .ok (.iconst 0, 1) := by decide +kernel
theorem dX11_join_37 : decode cX11_join 37 = .ok (.putfield 110, 3) := by decide +kernel
theorem dX11_join_40 : decode cX11_join 40 = .ok (.aload_n 0, 1) := by decide +kernel
theorem dX11_join_41 : decode cX11_join 41 = .ok (.getfield 110, 3) := by decide +kernel
theorem dX11_join_44 : decode cX11_join 44 = .ok (.ifCond .le 5, 3) := by decide +kernel
theorem dX11_join_47 : decode cX11_join 47 = .ok (.iconst 0, 1) := by decide +kernel
theorem dX11_join_48 : decode cX11_join 48 = .ok (.ireturn, 1) := by decide +kernel
theorem dX11_join_49 : decode cX11_join 49 = .ok (.aload_n 0, 1) := by decide +kernel
theorem dX11_join_50 : decode cX11_join 50 = .ok (.getfield 34, 3) := by decide +kernel
theorem dX11_join_53 : decode cX11_join 53 = .ok (.iload_n 1, 1) := by decide +kernel
theorem dX11_join_54 : decode cX11_join 54 = .ok (.iaload, 1) := by decide +kernel
theorem dX11_join_55 : decode cX11_join 55 = .ok (.istore_n 3, 1) := by decide +kernel
theorem dX11_join_56 : decode cX11_join 56 = .ok (.aload_n 0, 1) := by decide +kernel
theorem dX11_join_57 : decode cX11_join 57 = .ok (.getfield 34, 3) := by decide +kernel
theorem dX11_join_60 : decode cX11_join 60 = .ok (.iload_n 1, 1) := by decide +kernel
theorem dX11_join_61 : decode cX11_join 61 = .ok (.iload_n 2, 1) := by decide +kernel
theorem dX11_join_62 : decode cX11_join 62 = .ok (.iastore, 1) := by decide +kernel
theorem dX11_join_63 : decode cX11_join 63 = .ok (.iload_n 3, 1) := by decide +kernel
theorem dX11_join_64 : decode cX11_join 64 = .ok (.ireturn, 1) := by decide +kernel
theorem dX11_keeps_0 : decode cX11_keeps 0 = .ok (.aload_n 0, 1) := by decide +kernel
theorem dX11_keeps_1 : decode cX11_keeps 1 = .ok (.getfield 40, 3) := by decide +kernel
theorem dX11_keeps_4 : decode cX11_keeps 4 = .ok (.aload_n 0, 1) := by decide +kernel
theorem dX11_keeps_5 : decode cX11_keeps 5 = .ok (.getfield 126, 3) := by decide +kernel
theorem dX11_keeps_8 : decode cX11_keeps 8 = .ok (.iload_n 1, 1) := by decide +kernel
theorem dX11_keeps_9 : decode cX11_keeps 9 = .ok (.iastore, 1) := by decide +kernel
theorem dX11_keeps_10 : decode cX11_keeps 10 = .ok (.aload_n 0, 1) := by decide +kernel
theorem dX11_keeps_11 : decode cX11_keeps 11 = .ok (.getfield 43, 3) := by decide +kernel
theorem dX11_keeps_14 : decode cX11_keeps 14 = .ok (.aload_n 0, 1) := by decide +kernel
theorem dX11_keeps_15 : decode cX11_keeps 15 = .ok (.getfield 126, 3) := by decide +kernel
theorem dX11_keeps_18 : decode cX11_keeps 18 = .ok (.iload_n 2, 1) := by decide +kernel
theorem dX11_keeps_19 : decode cX11_keeps 19 = .ok (.iastore, 1) := by decide +kernel
theorem dX11_keeps_20 : decode cX11_keeps 20 = .ok (.aload_n 0, 1) := by decide +kernel
theorem dX11_keeps_21 : decode cX11_keeps 21 = .ok (.getfield 46, 3) := by decide +kernel
theorem dX11_keeps_24 : decode cX11_keeps 24 = .ok (.aload_n 0, 1) := by decide +kernel
theorem dX11_keeps_25 : decode cX11_keeps 25 = .ok (.getfield 126, 3) := by decide +kernel
theorem dX11_keeps_28 : decode cX11_keeps 28 = .ok (.iload_n 3, 1) := by decide +kernel
theorem dX11_keeps_29 : decode cX11_keeps 29 = .ok (.iastore, 1) := by decide +kernel
theorem dX11_keeps_30 : decode cX11_keeps 30 = .ok (.aload_n 0, 1) := by decide +kernel
theorem dX11_keeps_31 : decode cX11_keeps 31 = .ok (.getfield 49, 3) := by decide +kernel
theorem dX11_keeps_34 : decode cX11_keeps 34 = .ok (.aload_n 0, 1) := by decide +kernel
theorem dX11_keeps_35 : decode cX11_keeps 35 = .ok (.getfield 126, 3) := by decide +kernel
theorem dX11_keeps_38 : decode cX11_keeps 38 = .ok (.iload 4, 2) := by decide +kernel
theorem dX11_keeps_40 : decode cX11_keeps 40 = .ok (.iastore, 1) := by decide +kernel
theorem dX11_keeps_41 : decode cX11_keeps 41 = .ok (.aload_n 0, 1) := by decide +kernel
theorem dX11_keeps_42 : decode cX11_keeps 42 = .ok (.getfield 64, 3) := by decide +kernel
theorem dX11_keeps_45 : decode cX11_keeps 45 = .ok (.aload_n 0, 1) := by decide +kernel
theorem dX11_keeps_46 : decode cX11_keeps 46 = .ok (.getfield 126, 3) := by decide +kernel
theorem dX11_keeps_49 : decode cX11_keeps 49 = .ok (.iconst 0, 1) := by decide +kernel
theorem dX11_keeps_50 : decode cX11_keeps 50 = .ok (.bastore, 1) := by decide +kernel
theorem dX11_keeps_51 : decode cX11_keeps 51 = .ok (.aload_n 0, 1) := by decide +kernel
theorem dX11_keeps_52 : decode cX11_keeps 52 = .ok (.dup, 1) := by decide +kernel
theorem dX11_keeps_53 : decode cX11_keeps 53 = .ok (.getfield 126, 3) := by decide +kernel
theorem dX11_keeps_56 : decode cX11_keeps 56 = .ok (.iconst 1, 1) := by decide +kernel
theorem dX11_keeps_57 : decode cX11_keeps 57 = .ok (.iadd, 1) := by decide +kernel
theorem dX11_keeps_58 : decode cX11_keeps 58 = .ok (.putfield 126, 3) := by decide +kernel
theorem dX11_keeps_61 : decode cX11_keeps 61 = .ok (.aload_n 0, 1) := by decide +kernel
theorem dX11_keeps_62 : decode cX11_keeps 62 = .ok (.getfield 126, 3) := by decide +kernel
theorem dX11_keeps_65 : decode cX11_keeps 65 = .ok (.iconst 1, 1) := by decide +kernel
theorem dX11_keeps_66 : decode cX11_keeps 66 = .ok (.isub, 1) := by decide +kernel
theorem dX11_keeps_67 : decode cX11_keeps 67 = .ok (.ireturn, 1) := by decide +kernel
set_option maxRecDepth 20000 in
theorem ggX11_step_X11_isStar : GoodIn wsX11_step wsX11_isStar := goodIn_r _ [12, 13, 14, 15, 11, 16, 26, 27, 28, 29, 30, 31, 32, 33, 34, 35, 36, 37, 38, 39, 40, 41, 42, 43, 44, 45, 46, 47, 48, 49, 50, 51, 52, 53, 54, 55, 56, 57, 58, 59, 60, 61, 62, 63, 64, 65, 66, 67] (by decide +kernel) (by decide +kernel)
set_option maxRecDepth 20000 in
theorem gX11_step_X11_isStar : GoodIn wsX11_step (wsV RX11 129 RX11 yX11_isStar wsX11_isStar) := goodIn_app (goodIn_of _ (by decide +kernel)) ggX11_step_X11_isStar
set_option maxRecDepth 20000 in
theorem ggX11_step_X11_in : GoodIn wsX11_step wsX11_in := goodIn_r _ [16] (by decide +kernel) (by decide +kernel)
set_option maxRecDepth 20000 in
theorem gX11_step_X11_in : GoodIn wsX11_step (va_wsS RX11 117 yX11_in wsX11_in) := goodIn_app (goodIn_of _ (by decide +kernel)) ggX11_step_X11_in
set_option maxRecDepth 20000 in
theorem ggX11_step_X11_keeps : GoodIn wsX11_step wsX11_keeps := goodIn_r _ [20, 21, 2, 22, 23, 24, 25, 26, 27, 28, 29, 30, 31, 32, 33, 34, 35, 36, 37, 38, 39, 40, 41, 42, 43, 44, 45, 46, 47, 48, 49, 50, 51, 52, 53, 54, 55, 56, 57, 58, 59, 60, 61, 62, 63, 64, 65, 66, 67] (by decide +kernel) (by decide +kernel)
set_option maxRecDepth 20000 in
theorem gX11_step_X11_keeps : GoodIn wsX11_step (wsV RX11 133 RX11 yX11_keeps wsX11_keeps) := goodIn_app (goodIn_of _ (by decide +kernel)) ggX11_step_X11_keeps
theorem dX11_step_0 : decode cX11_step 0 = .ok (.aload_n 0, 1) := by decide +kernel
theorem dX11_step_1 : decode cX11_step 1 = .ok (.iload_n 1, 1) := by decide +kernel
theorem dX11_step_2 : decode cX11_step 2 = .ok (.invokevirtual 129, 3) := by decide +kernel
theorem dX11_step_5 : decode cX11_step 5 = .ok (.ifCond .eq 39, 3) := by decide +kernel
theorem dX11_step_8 : decode cX11_step 8 = .ok (.iload_n 2, 1) := by decide +kernel
theorem dX11_step_9 : decode cX11_step 9 = .ok (.iconst 0, 1) := by decide +kernel
theorem dX11_step_10 : decode cX11_step 10 = .ok (.bipush 7, 2) := by decide +kernel
theorem dX11_step_12 : decode cX11_step 12 = .ok (.invokestatic 117, 3) := by decide +kernel
theorem dX11_step_15 : decode cX11_step 15 = .ok (.ifCond .eq 29, 3) := by decide +kernel
theorem dX11_step_18 : decode cX11_step 18 = .ok (.iload 4, 2) := by decide +kernel
theorem dX11_step_20 : decode cX11_step 20 = .ok (.iconst 0, 1) := by decide +kernel
theorem dX11_step_21 : decode cX11_step 21 = .ok (.bipush 9, 2) := by decide +kernel
theorem dX11_step_23 : decode cX11_step 23 = .ok (.invokestatic 117, 3) := by decide +kernel
theorem dX11_step_26 : decode cX11_step 26 = .ok (.ifCond .eq 18, 3) := by decide +kernel
theorem dX11_step_29 : decode cX11_step 29 = .ok (.iload 7, 2) := by decide +kernel
theorem dX11_step_31 : decode cX11_step 31 = .ok (.iconst 0, 1) := by decide +kernel
theorem dX11_step_32 : decode cX11_step 32 = .ok (.bipush 9, 2) := by decide +kernel
theorem dX11_step_34 : decode cX11_step 34 = .ok (.invokestatic 117, 3) := by decide +kernel
theorem dX11_step_37 : decode cX11_step 37 = .ok (.ifCond .eq 7, 3) := by decide +kernel
theorem dX11_step_40 : decode cX11_step 40 = .ok (.iconst 1, 1) := by decide +kernel
theorem dX11_step_41 : decode cX11_step 41 = .ok (.goto 4, 3) := by decide +kernel
theorem dX11_step_44 : decode cX11_step 44 = .ok (.iconst 0, 1) := by decide +kernel
theorem dX11_step_45 : decode cX11_step 45 = .ok (.istore 8, 2) := by decide +kernel
theorem dX11_step_47 : decode cX11_step 47 = .ok (.iload_n 3, 1) := by decide +kernel
theorem dX11_step_48 : decode cX11_step 48 = .ok (.iconst 0, 1) := by decide +kernel
theorem dX11_step_49 : decode cX11_step 49 = .ok (.ldc 122, 2) := by decide +kernel
theorem dX11_step_51 : decode cX11_step 51 = .ok (.invokestatic 117, 3) := by decide +kernel
theorem dX11_step_54 : decode cX11_step 54 = .ok (.ifCond .eq 44, 3) := by decide +kernel
theorem dX11_step_57 : decode cX11_step 57 = .ok (.iload 5, 2) := by decide +kernel
theorem dX11_step_59 : decode cX11_step 59 = .ok (.iconst 0, 1) := by decide +kernel
theorem dX11_step_60 : decode cX11_step 60 = .ok (.bipush 9, 2) := by decide +kernel
theorem dX11_step_62 : decode cX11_step 62 = .ok (.invokestatic 117, 3) := by decide +kernel
theorem dX11_step_65 : decode cX11_step 65 = .ok (.ifCond .eq 33, 3) := by decide +kernel
theorem dX11_step_68 : decode cX11_step 68 = .ok (.iload 6, 2) := by decide +kernel
theorem dX11_step_70 : decode cX11_step 70 = .ok (.iconst 0, 1) := by decide +kernel
theorem dX11_step_71 : decode cX11_step 71 = .ok (.bipush 9, 2) := by decide +kernel
theorem dX11_step_73 : decode cX11_step 73 = .ok (.invokestatic 117, 3) := by decide +kernel
theorem dX11_step_76 : decode cX11_step 76 = .ok (.ifCond .eq 22, 3) := by decide +kernel
theorem dX11_step_79 : decode cX11_step 79 = .ok (.iload 5, 2) := by decide +kernel
theorem dX11_step_81 : decode cX11_step 81 = .ok (.iload 6, 2) := by decide +kernel
theorem dX11_step_83 : decode cX11_step 83 = .ok (.iadd, 1) := by decide +kernel
theorem dX11_step_84 : decode cX11_step 84 = .ok (.ifCond .le 14, 3) := by decide +kernel
theorem dX11_step_87 : decode cX11_step 87 = .ok (.iload 4, 2) := by decide +kernel
theorem dX11_step_89 : decode cX11_step 89 = .ok (.iload 7, 2) := by decide +kernel
theorem dX11_step_91 : decode cX11_step 91 = .ok (.if_icmp .eq 7, 3) := by decide +kernel
theorem dX11_step_94 : decode cX11_step 94 = .ok (.iconst 1, 1) := by decide +kernel
theorem dX11_step_95 : decode cX11_step 95 = .ok (.goto 4, 3) := by decide +kernel
theorem dX11_step_98 : decode cX11_step 98 = .ok (.iconst 0, 1) := by decide +kernel
theorem dX11_step_99 : decode cX11_step 99 = .ok (.istore 9, 2) := by decide +kernel
theorem dX11_step_101 : decode cX11_step 101 = .ok (.aload_n 0, 1) := by decide +kernel
theorem dX11_step_102 : decode cX11_step 102 = .ok (.iload 8, 2) := by decide +kernel
theorem dX11_step_104 : decode cX11_step 104 = .ok (.ifCond .ne 7, 3) := by decide +kernel
theorem dX11_step_107 : decode cX11_step 107 = .ok (.iconst 1, 1) := by decide +kernel
theorem dX11_step_108 : decode cX11_step 108 = .ok (.goto 26, 3) := by decide +kernel
theorem dX11_step_111 : decode cX11_step 111 = .ok (.iload 9, 2) := by decide +kernel
theorem dX11_step_113 : decode cX11_step 113 = .ok (.ifCond .ne 7, 3) := by decide +kernel
theorem dX11_step_116 : decode cX11_step 116 = .ok (.iconst 2, 1) := by decide +kernel
theorem dX11_step_117 : decode cX11_step 117 = .ok (.goto 17, 3) := by decide +kernel
theorem dX11_step_120 : decode cX11_step 120 = .ok (.aload_n 0, 1) := by decide +kernel
theorem dX11_step_121 : decode cX11_step 121 = .ok (.getfield 126, 3) := by decide +kernel
theorem dX11_step_124 : decode cX11_step 124 = .ok (.bipush 80, 2) := by decide +kernel
theorem dX11_step_126 : decode cX11_step 126 = .ok (.if_icmp .ne 7, 3) := by decide +kernel
theorem dX11_step_129 : decode cX11_step 129 = .ok (.iconst 3, 1) := by decide +kernel
theorem dX11_step_130 : decode cX11_step 130 = .ok (.goto 4, 3) := by decide +kernel
theorem dX11_step_133 : decode cX11_step 133 = .ok (.iconst 0, 1) := by decide +kernel
theorem dX11_step_134 : decode cX11_step 134 = .ok (.putfield 110, 3) := by decide +kernel
theorem dX11_step_137 : decode cX11_step 137 = .ok (.aload_n 0, 1) := by decide +kernel
theorem dX11_step_138 : decode cX11_step 138 = .ok (.getfield 110, 3) := by decide +kernel
theorem dX11_step_141 : decode cX11_step 141 = .ok (.ifCond .le 5, 3) := by decide +kernel
theorem dX11_step_144 : decode cX11_step 144 = .ok (.iconst 0, 1) := by decide +kernel
theorem dX11_step_145 : decode cX11_step 145 = .ok (.ireturn, 1) := by decide +kernel
theorem dX11_step_146 : decode cX11_step 146 = .ok (.aload_n 0, 1) := by decide +kernel
theorem dX11_step_147 : decode cX11_step 147 = .ok (.getfield 52, 3) := by decide +kernel
theorem dX11_step_150 : decode cX11_step 150 = .ok (.aload_n 0, 1) := by decide +kernel
theorem dX11_step_151 : decode cX11_step 151 = .ok (.getfield 126, 3) := by decide +kernel
theorem dX11_step_154 : decode cX11_step 154 = .ok (.iload 4, 2) := by decide +kernel
theorem dX11_step_156 : decode cX11_step 156 = .ok (.iastore, 1) := by decide +kernel
theorem dX11_step_157 : decode cX11_step 157 = .ok (.aload_n 0, 1) := by decide +kernel
theorem dX11_step_158 : decode cX11_step 158 = .ok (.getfield 55, 3) := by decide +kernel
theorem dX11_step_161 : decode cX11_step 161 = .ok (.aload_n 0, 1) := by decide +kernel
theorem dX11_step_162 : decode cX11_step 162 = .ok (.getfield 126, 3) := by decide +kernel
theorem dX11_step_165 : decode cX11_step 165 = .ok (.iload 5, 2) := by decide +kernel
theorem dX11_step_167 : decode cX11_step 167 = .ok (.iastore, 1) := by decide +kernel
theorem dX11_step_168 : decode cX11_step 168 = .ok (.aload_n 0, 1) := by decide +kernel
theorem dX11_step_169 : decode cX11_step 169 = .ok (.getfield 58, 3) := by decide +kernel
theorem dX11_step_172 : decode cX11_step 172 = .ok (.aload_n 0, 1) := by decide +kernel
theorem dX11_step_173 : decode cX11_step 173 = .ok (.getfield 126, 3) := by decide +kernel
theorem dX11_step_176 : decode cX11_step 176 = .ok (.iload 6, 2) := by decide +kernel
theorem dX11_step_178 : decode cX11_step 178 = .ok (.iastore, 1) := by decide +kernel
theorem dX11_step_179 : decode cX11_step 179 = .ok (.aload_n 0, 1) := by decide +kernel
theorem dX11_step_180 : decode cX11_step 180 = .ok (.getfield 61, 3) := by decide +kernel
theorem dX11_step_183 : decode cX11_step 183 = .ok (.aload_n 0, 1) := by decide +kernel
theorem dX11_step_184 : decode cX11_step 184 = .ok (.getfield 126, 3) := by decide +kernel
theorem dX11_step_187 : decode cX11_step 187 = .ok (.iload 7, 2) := by decide +kernel
theorem dX11_step_189 : decode cX11_step 189 = .ok (.iastore, 1) := by decide +kernel
theorem dX11_step_190 : decode cX11_step 190 = .ok (.aload_n 0, 1) := by decide +kernel
theorem dX11_step_191 : decode cX11_step 191 = .ok (.iconst 0, 1) := by decide +kernel
theorem dX11_step_192 : decode cX11_step 192 = .ok (.iload_n 1, 1) := by decide +kernel
theorem dX11_step_193 : decode cX11_step 193 = .ok (.iload_n 2, 1) := by decide +kernel
theorem dX11_step_194 : decode cX11_step 194 = .ok (.iload_n 3, 1) := by decide +kernel
theorem dX11_step_195 : decode cX11_step 195 = .ok (.invokevirtual 133, 3) := by decide +kernel
theorem dX11_step_198 : decode cX11_step 198 = .ok (.ireturn, 1) := by decide +kernel
set_option maxRecDepth 20000 in
theorem ggX11_density_X11_isStar : GoodIn wsX11_density wsX11_isStar := goodIn_r _ [8, 9, 10, 11, 7, 12, 22, 23, 24, 25, 26, 27, 28, 29, 30, 31, 32, 33, 34, 35, 36, 37, 38, 39, 40, 41, 42, 43, 44, 45, 46, 47, 48, 49, 50, 51, 52, 53, 54, 55, 56, 57, 58, 59, 60, 61, 62, 63] (by decide +kernel) (by decide +kernel)
set_option maxRecDepth 20000 in
theorem gX11_density_X11_isStar : GoodIn wsX11_density (wsV RX11 129 RX11 yX11_isStar wsX11_isStar) := goodIn_app (goodIn_of _ (by decide +kernel)) ggX11_density_X11_isStar
set_option maxRecDepth 20000 in
theorem ggX11_density_X11_in : GoodIn wsX11_density wsX11_in := goodIn_r _ [12] (by decide +kernel) (by decide +kernel)
set_option maxRecDepth 20000 in
theorem gX11_density_X11_in : GoodIn wsX11_density (va_wsS RX11 117 yX11_in wsX11_in) := goodIn_app (goodIn_of _ (by decide +kernel)) ggX11_density_X11_in
set_option maxRecDepth 20000 in
theorem ggX11_density_X11_keeps : GoodIn wsX11_density wsX11_keeps := goodIn_r _ [16, 17, 2, 18, 19, 20, 21, 22, 23, 24, 25, 26, 27, 28, 29, 30, 31, 32, 33, 34, 35, 36, 37, 38, 39, 40, 41, 42, 43, 44, 45, 46, 47, 48, 49, 50, 51, 52, 53, 54, 55, 56, 57, 58, 59, 60, 61, 62, 63] (by decide +kernel) (by decide +kernel)
set_option maxRecDepth 20000 in
theorem gX11_density_X11_keeps : GoodIn wsX11_density (wsV RX11 133 RX11 yX11_keeps wsX11_keeps) := goodIn_app (goodIn_of _ (by decide +kernel)) ggX11_density_X11_keeps
theorem dX11_density_0 : decode cX11_density 0 = .ok (.aload_n 0, 1) := by decide +kernel
theorem dX11_density_1 : decode cX11_density 1 = .ok (.aload_n 0, 1) := by decide +kernel
theorem dX11_density_2 : decode cX11_density 2 = .ok (.iload_n 1, 1) := by decide +kernel
theorem dX11_density_3 : decode cX11_density 3 = .ok (.invokevirtual 129, 3) := by decide +kernel
theorem dX11_density_6 : decode cX11_density 6 = .ok (.ifCond .eq 17, 3) := by decide +kernel
theorem dX11_density_9 : decode cX11_density 9 = .ok (.iload_n 2, 1) := by decide +kernel
theorem dX11_density_10 : decode cX11_density 10 = .ok (.iconst 0, 1) := by decide +kernel
theorem dX11_density_11 : decode cX11_density 11 = .ok (.aload_n 0, 1) := by decide +kernel
theorem dX11_density_12 : decode cX11_density 12 = .ok (.getfield 123, 3) := by decide +kernel
theorem dX11_density_15 : decode cX11_density 15 = .ok (.iconst 1, 1) := by decide +kernel
theorem dX11_density_16 : decode cX11_density 16 = .ok (.isub, 1) := by decide +kernel
theorem dX11_density_17 : decode cX11_density 17 = .ok (.invokestatic 117, 3) := by decide +kernel
theorem dX11_density_20 : decode cX11_density 20 = .ok (.ifCond .ne 7, 3) := by decide +kernel
theorem dX11_density_23 : decode cX11_density 23 = .ok (.iconst 1, 1) := by decide +kernel
theorem dX11_density_24 : decode cX11_density 24 = .ok (.goto 32, 3) := by decide +kernel
theorem dX11_density_27 : decode cX11_density 27 = .ok (.iload_n 3, 1) := by decide +kernel
theorem dX11_density_28 : decode cX11_density 28 = .ok (.iconst 0, 1) := by decide +kernel
theorem dX11_density_29 : decode cX11_density 29 = .ok (.sipush 255, 3) := by decide +kernel
theorem dX11_density_32 : decode cX11_density 32 = .ok (.invokestatic 117, 3) := by decide +kernel
theorem dX11_density_35 : decode cX11_density 35 = .ok (.ifCond .ne 7, 3) := by decide +kernel
theorem dX11_density_38 : decode cX11_density 38 = .ok (.iconst 2, 1) := by decide +kernel
theorem dX11_density_39 : decode cX11_density 39 = .ok (.goto 17, 3) := by decide +kernel
theorem dX11_density_42 : decode cX11_density 42 = .ok (.aload_n 0, 1) := by decide +kernel
theorem dX11_density_43 : decode cX11_density 43 = .ok (.getfield 126, 3) := by decide +kernel
theorem dX11_density_46 : decode cX11_density 46 = .ok (.bipush 80, 2) := by decide +kernel
theorem dX11_density_48 : decode cX11_density 48 = .ok (.if_icmp .ne 7, 3) := by decide +kernel
theorem dX11_density_51 : decode cX11_density 51 = .ok (.iconst 3, 1) := by decide +kernel
theorem dX11_density_52 : decode cX11_density 52 = .ok (.goto 4, 3) := by decide +kernel
theorem dX11_density_55 : decode cX11_density 55 = .ok (.iconst 0, 1) := by decide +kernel
theorem dX11_density_56 : decode cX11_density 56 = .ok (.putfield 110, 3) := by decide +kernel
theorem dX11_density_59 : decode cX11_density 59 = .ok (.aload_n 0, 1) := by decide +kernel
theorem dX11_density_60 : decode cX11_density 60 = .ok (.getfield 110, 3) := by decide +kernel
theorem dX11_density_63 : decode cX11_density 63 = .ok (.ifCond .le 7, 3) := by decide +kernel
theorem dX11_density_66 : decode cX11_density 66 = .ok (.iconst 0, 1) := by decide +kernel
theorem dX11_density_67 : decode cX11_density 67 = .ok (.goto 11, 3) := by decide +kernel
theorem dX11_density_70 : decode cX11_density 70 = .ok (.aload_n 0, 1) := by decide +kernel
theorem dX11_density_71 : decode cX11_density 71 = .ok (.iconst 1, 1) := by decide +kernel
theorem dX11_density_72 : decode cX11_density 72 = .ok (.iload_n 1, 1) := by decide +kernel
theorem dX11_density_73 : decode cX11_density 73 = .ok (.iload_n 2, 1) := by decide +kernel
theorem dX11_density_74 : decode cX11_density 74 = .ok (.iload_n 3, 1) := by decide +kernel
theorem dX11_density_75 : decode cX11_density 75 = .ok (.invokevirtual 133, 3) := by decide +kernel
theorem dX11_density_78 : decode cX11_density 78 = .ok (.ireturn, 1) := by decide +kernel
set_option maxRecDepth 20000 in
theorem ggX11_doubt_X11_in : GoodIn wsX11_doubt wsX11_in := goodIn_r _ [7] (by decide +kernel) (by decide +kernel)
set_option maxRecDepth 20000 in
theorem gX11_doubt_X11_in : GoodIn wsX11_doubt (va_wsS RX11 117 yX11_in wsX11_in) := goodIn_app (goodIn_of _ (by decide +kernel)) ggX11_doubt_X11_in
theorem dX11_doubt_0 : decode cX11_doubt 0 = .ok (.aload_n 0, 1) := by decide +kernel
theorem dX11_doubt_1 : decode cX11_doubt 1 = .ok (.iload_n 1, 1) := by decide +kernel
theorem dX11_doubt_2 : decode cX11_doubt 2 = .ok (.iconst 0, 1) := by decide +kernel
theorem dX11_doubt_3 : decode cX11_doubt 3 = .ok (.aload_n 0, 1) := by decide +kernel
theorem dX11_doubt_4 : decode cX11_doubt 4 = .ok (.getfield 126, 3) := by decide +kernel
theorem dX11_doubt_7 : decode cX11_doubt 7 = .ok (.iconst 1, 1) := by decide +kernel
theorem dX11_doubt_8 : decode cX11_doubt 8 = .ok (.isub, 1) := by decide +kernel
theorem dX11_doubt_9 : decode cX11_doubt 9 = .ok (.invokestatic 117, 3) := by decide +kernel
theorem dX11_doubt_12 : decode cX11_doubt 12 = .ok (.ifCond .eq 7, 3) := by decide +kernel
theorem dX11_doubt_15 : decode cX11_doubt 15 = .ok (.iconst 0, 1) := by decide +kernel
theorem dX11_doubt_16 : decode cX11_doubt 16 = .ok (.goto 4, 3) := by decide +kernel
theorem dX11_doubt_19 : decode cX11_doubt 19 = .ok (.iconst 1, 1) := by decide +kernel
theorem dX11_doubt_20 : decode cX11_doubt 20 = .ok (.putfield 110, 3) := by decide +kernel
theorem dX11_doubt_23 : decode cX11_doubt 23 = .ok (.aload_n 0, 1) := by decide +kernel
theorem dX11_doubt_24 : decode cX11_doubt 24 = .ok (.getfield 110, 3) := by decide +kernel
theorem dX11_doubt_27 : decode cX11_doubt 27 = .ok (.ifCond .le 5, 3) := by decide +kernel
theorem dX11_doubt_30 : decode cX11_doubt 30 = .ok (.iconst 0, 1) := by decide +kernel
theorem dX11_doubt_31 : decode cX11_doubt 31 = .ok (.ireturn, 1) := by decide +kernel
theorem dX11_doubt_32 : decode cX11_doubt 32 = .ok (.aload_n 0, 1) := by decide +kernel
theorem dX11_doubt_33 : decode cX11_doubt 33 = .ok (.getfield 64, 3) := by decide +kernel
theorem dX11_doubt_36 : decode cX11_doubt 36 = .ok (.iload_n 1, 1) := by decide +kernel
theorem dX11_doubt_37 : decode cX11_doubt 37 = .ok (.baload, 1) := by decide +kernel
theorem dX11_doubt_38 : decode cX11_doubt 38 = .ok (.istore_n 3, 1) := by decide +kernel
theorem dX11_doubt_39 : decode cX11_doubt 39 = .ok (.aload_n 0, 1) := by decide +kernel
theorem dX11_doubt_40 : decode cX11_doubt 40 = .ok (.getfield 64, 3) := by decide +kernel
theorem dX11_doubt_43 : decode cX11_doubt 43 = .ok (.iload_n 1, 1) := by decide +kernel
theorem dX11_doubt_44 : decode cX11_doubt 44 = .ok (.iload_n 2, 1) := by decide +kernel
theorem dX11_doubt_45 : decode cX11_doubt 45 = .ok (.bastore, 1) := by decide +kernel
theorem dX11_doubt_46 : decode cX11_doubt 46 = .ok (.iload_n 3, 1) := by decide +kernel
theorem dX11_doubt_47 : decode cX11_doubt 47 = .ok (.ireturn, 1) := by decide +kernel
set_option maxRecDepth 20000 in
theorem ggX11_minimum_X11_isStar : GoodIn wsX11_minimum wsX11_isStar := goodIn_r _ [10, 11, 12, 13, 9, 14, 15, 16, 17, 18, 19, 20, 21, 22, 23, 24, 25, 26, 27, 28, 29, 30, 31, 32, 33, 34, 35, 36, 37, 38, 39, 40, 41, 42, 43, 44, 45, 46, 47, 48, 49, 50, 51, 52, 53, 54, 55, 56] (by decide +kernel) (by decide +kernel)
set_option maxRecDepth 20000 in
theorem gX11_minimum_X11_isStar : GoodIn wsX11_minimum (wsV RX11 129 RX11 yX11_isStar wsX11_isStar) := goodIn_app (goodIn_of _ (by decide +kernel)) ggX11_minimum_X11_isStar
set_option maxRecDepth 20000 in
theorem ggX11_minimum_X11_in : GoodIn wsX11_minimum wsX11_in := goodIn_r _ [14] (by decide +kernel) (by decide +kernel)
set_option maxRecDepth 20000 in
theorem gX11_minimum_X11_in : GoodIn wsX11_minimum (va_wsS RX11 117 yX11_in wsX11_in) := goodIn_app (goodIn_of _ (by decide +kernel)) ggX11_minimum_X11_in
theorem dX11_minimum_0 : decode cX11_minimum 0 = .ok (.aload_n 0, 1) := by decide +kernel
theorem dX11_minimum_1 : decode cX11_minimum 1 = .ok (.aload_n 0, 1) := by decide +kernel
theorem dX11_minimum_2 : decode cX11_minimum 2 = .ok (.iload_n 1, 1) := by decide +kernel
theorem dX11_minimum_3 : decode cX11_minimum 3 = .ok (.invokevirtual 129, 3) := by decide +kernel
theorem dX11_minimum_6 : decode cX11_minimum 6 = .ok (.ifCond .ne 7, 3) := by decide +kernel
theorem dX11_minimum_9 : decode cX11_minimum 9 = .ok (.iconst 1, 1) := by decide +kernel
theorem dX11_minimum_10 : decode cX11_minimum 10 = .ok (.goto 31, 3) := by decide +kernel
theorem dX11_minimum_13 : decode cX11_minimum 13 = .ok (.iload_n 2, 1) := by decide +kernel
theorem dX11_minimum_14 : decode cX11_minimum 14 = .ok (.iconst 0, 1) := by decide +kernel
theorem dX11_minimum_15 : decode cX11_minimum 15 = .ok (.ldc 122, 2) := by decide +kernel
theorem dX11_minimum_17 : decode cX11_minimum 17 = .ok (.invokestatic 117, 3) := by decide +kernel
theorem dX11_minimum_20 : decode cX11_minimum 20 = .ok (.ifCond .ne 7, 3) := by decide +kernel
theorem dX11_minimum_23 : decode cX11_minimum 23 = .ok (.iconst 2, 1) := by decide +kernel
theorem dX11_minimum_24 : decode cX11_minimum 24 = .ok (.goto 17, 3) := by decide +kernel
theorem dX11_minimum_27 : decode cX11_minimum 27 = .ok (.aload_n 0, 1) := by decide +kernel
theorem dX11_minimum_28 : decode cX11_minimum 28 = .ok (.getfield 137, 3) := by decide +kernel
theorem dX11_minimum_31 : decode cX11_minimum 31 = .ok (.bipush 30, 2) := by decide +kernel
theorem dX11_minimum_33 : decode cX11_minimum 33 = .ok (.if_icmp .ne 7, 3) := by decide +kernel
theorem dX11_minimum_36 : decode cX11_minimum 36 = .ok (.iconst 3, 1) := by decide +kernel
theorem dX11_minimum_37 : decode cX11_minimum 37 = .ok (.goto 4, 3) := by decide +kernel
theorem dX11_minimum_40 : decode cX11_minimum 40 = .ok (.iconst 0, 1) := by decide +kernel
theorem dX11_minimum_41 : decode cX11_minimum 41 = .ok (.putfield 110, 3) := by decide +kernel
theorem dX11_minimum_44 : decode cX11_minimum 44 = .ok (.aload_n 0, 1) := by decide +kernel
theorem dX11_minimum_45 : decode cX11_minimum 45 = .ok (.getfield 110, 3) := by decide +kernel
theorem dX11_minimum_48 : decode cX11_minimum 48 = .ok (.ifCond .le 5, 3) := by decide +kernel
theorem dX11_minimum_51 : decode cX11_minimum 51 = .ok (.iconst 0, 1) := by decide +kernel
theorem dX11_minimum_52 : decode cX11_minimum 52 = .ok (.ireturn, 1) := by decide +kernel
theorem dX11_minimum_53 : decode cX11_minimum 53 = .ok (.aload_n 0, 1) := by decide +kernel
theorem dX11_minimum_54 : decode cX11_minimum 54 = .ok (.getfield 86, 3) := by decide +kernel
theorem dX11_minimum_57 : decode cX11_minimum 57 = .ok (.aload_n 0, 1) := by decide +kernel
theorem dX11_minimum_58 : decode cX11_minimum 58 = .ok (.getfield 137, 3) := by decide +kernel
theorem dX11_minimum_61 : decode cX11_minimum 61 = .ok (.iload_n 1, 1) := by decide +kernel
theorem dX11_minimum_62 : decode cX11_minimum 62 = .ok (.iastore, 1) := by decide +kernel
theorem dX11_minimum_63 : decode cX11_minimum 63 = .ok (.aload_n 0, 1) := by decide +kernel
theorem dX11_minimum_64 : decode cX11_minimum 64 = .ok (.getfield 89, 3) := by decide +kernel
theorem dX11_minimum_67 : decode cX11_minimum 67 = .ok (.aload_n 0, 1) := by decide +kernel
theorem dX11_minimum_68 : decode cX11_minimum 68 = .ok (.getfield 137, 3) := by decide +kernel
theorem dX11_minimum_71 : decode cX11_minimum 71 = .ok (.iload_n 2, 1) := by decide +kernel
theorem dX11_minimum_72 : decode cX11_minimum 72 = .ok (.iastore, 1) := by decide +kernel
theorem dX11_minimum_73 : decode cX11_minimum 73 = .ok (.aload_n 0, 1) := by decide +kernel
theorem dX11_minimum_74 : decode cX11_minimum 74 = .ok (.dup, 1) := by decide +kernel
theorem dX11_minimum_75 : decode cX11_minimum 75 = .ok (.getfield 137, 3) := by decide +kernel
theorem dX11_minimum_78 : decode cX11_minimum 78 = .ok (.iconst 1, 1) := by decide +kernel
theorem dX11_minimum_79 : decode cX11_minimum 79 = .ok (.iadd, 1) := by decide +kernel
theorem dX11_minimum_80 : decode cX11_minimum 80 = .ok (.putfield 137, 3) := by decide +kernel
theorem dX11_minimum_83 : decode cX11_minimum 83 = .ok (.aload_n 0, 1) := by decide +kernel
theorem dX11_minimum_84 : decode cX11_minimum 84 = .ok (.getfield 137, 3) := by decide +kernel
theorem dX11_minimum_87 : decode cX11_minimum 87 = .ok (.iconst 1, 1) := by decide +kernel
theorem dX11_minimum_88 : decode cX11_minimum 88 = .ok (.isub, 1) := by decide +kernel
theorem dX11_minimum_89 : decode cX11_minimum 89 = .ok (.ireturn, 1) := by decide +kernel
theorem dX11_renumbers_0 : decode cX11_renumbers 0 = .ok (.iconst (-1), 1) := by decide +kernel
theorem dX11_renumbers_1 : decode cX11_renumbers 1 = .ok (.istore_n 2, 1) := by decide +kernel
theorem dX11_renumbers_2 : decode cX11_renumbers 2 = .ok (.aload_n 0, 1) := by decide +kernel
theorem dX11_renumbers_3 : decode cX11_renumbers 3 = .ok (.getfield 114, 3) := by decide +kernel
theorem dX11_renumbers_6 : decode cX11_renumbers 6 = .ok (.iconst 1, 1) := by decide +kernel
theorem dX11_renumbers_7 : decode cX11_renumbers 7 = .ok (.isub, 1) := by decide +kernel
theorem dX11_renumbers_8 : decode cX11_renumbers 8 = .ok (.istore_n 3, 1) := by decide +kernel
theorem dX11_renumbers_9 : decode cX11_renumbers 9 = .ok (.iload_n 3, 1) := by decide +kernel
theorem dX11_renumbers_10 : decode cX11_renumbers 10 = .ok (.ifCond .lt 25, 3) := by decide +kernel
theorem dX11_renumbers_13 : decode cX11_renumbers 13 = .ok (.aload_n 0, 1) := by decide +kernel
theorem dX11_renumbers_14 : decode cX11_renumbers 14 = .ok (.getfield 16, 3) := by decide +kernel
theorem dX11_renumbers_17 : decode cX11_renumbers 17 = .ok (.iload_n 3, 1) := by decide +kernel
theorem dX11_renumbers_18 : decode cX11_renumbers 18 = .ok (.iaload, 1) := by decide +kernel
theorem dX11_renumbers_19 : decode cX11_renumbers 19 = .ok (.iload_n 1, 1) := by decide +kernel
theorem dX11_renumbers_20 : decode cX11_renumbers 20 = .ok (.if_icmp .ne 7, 3) := by decide +kernel
theorem dX11_renumbers_23 : decode cX11_renumbers 23 = .ok (.iload_n 3, 1) := by decide +kernel
theorem dX11_renumbers_24 : decode cX11_renumbers 24 = .ok (.goto 4, 3) := by decide +kernel
theorem dX11_renumbers_27 : decode cX11_renumbers 27 = .ok (.iload_n 2, 1) := by decide +kernel
theorem dX11_renumbers_28 : decode cX11_renumbers 28 = .ok (.istore_n 2, 1) := by decide +kernel
theorem dX11_renumbers_29 : decode cX11_renumbers 29 = .ok (.iinc 3 (-1), 3) := by decide +kernel
theorem dX11_renumbers_32 : decode cX11_renumbers 32 = .ok (.goto (-23), 3) := by decide +kernel
theorem dX11_renumbers_35 : decode cX11_renumbers 35 = .ok (.iconst 0, 1) := by decide +kernel
theorem dX11_renumbers_36 : decode cX11_renumbers 36 = .ok (.istore_n 3, 1) := by decide +kernel
theorem dX11_renumbers_37 : decode cX11_renumbers 37 = .ok (.iload_n 3, 1) := by decide +kernel
theorem dX11_renumbers_38 : decode cX11_renumbers 38 = .ok (.aload_n 0, 1) := by decide +kernel
theorem dX11_renumbers_39 : decode cX11_renumbers 39 = .ok (.getfield 114, 3) := by decide +kernel
theorem dX11_renumbers_42 : decode cX11_renumbers 42 = .ok (.if_icmp .ge 35, 3) := by decide +kernel
theorem dX11_renumbers_45 : decode cX11_renumbers 45 = .ok (.aload_n 0, 1) := by decide +kernel
theorem dX11_renumbers_46 : decode cX11_renumbers 46 = .ok (.getfield 16, 3) := by decide +kernel
theorem dX11_renumbers_49 : decode cX11_renumbers 49 = .ok (.iload_n 3, 1) := by decide +kernel
theorem dX11_renumbers_50 : decode cX11_renumbers 50 = .ok (.aload_n 0, 1) := by decide +kernel
theorem dX11_renumbers_51 : decode cX11_renumbers 51 = .ok (.getfield 16, 3) := by decide +kernel
theorem dX11_renumbers_54 : decode cX11_renumbers 54 = .ok (.iload_n 3, 1) := by decide +kernel
theorem dX11_renumbers_55 : decode cX11_renumbers 55 = .ok (.iaload, 1) := by decide +kernel
theorem dX11_renumbers_56 : decode cX11_renumbers 56 = .ok (.iload_n 1, 1) := by decide +kernel
theorem dX11_renumbers_57 : decode cX11_renumbers 57 = .ok (.if_icmp .ne 7, 3) := by decide +kernel
theorem dX11_renumbers_60 : decode cX11_renumbers 60 = .ok (.iload_n 2, 1) := by decide +kernel
theorem dX11_renumbers_61 : decode cX11_renumbers 61 = .ok (.goto 9, 3) := by decide +kernel
theorem dX11_renumbers_64 : decode cX11_renumbers 64 = .ok (.aload_n 0, 1) := by decide +kernel
theorem dX11_renumbers_65 : decode cX11_renumbers 65 = .ok (.getfield 16, 3) := by decide +kernel
theorem dX11_renumbers_68 : decode cX11_renumbers 68 = .ok (.iload_n 3, 1) := by decide +kernel
theorem dX11_renumbers_69 : decode cX11_renumbers 69 = .ok (.iaload, 1) := by decide +kernel
theorem dX11_renumbers_70 : decode cX11_renumbers 70 = .ok (.iastore, 1) := by decide +kernel
theorem dX11_renumbers_71 : decode cX11_renumbers 71 = .ok (.iinc 3 1, 3) := by decide +kernel
theorem dX11_renumbers_74 : decode cX11_renumbers 74 = .ok (.goto (-37), 3) := by decide +kernel
theorem dX11_renumbers_77 : decode cX11_renumbers 77 = .ok (.iload_n 2, 1) := by decide +kernel
theorem dX11_renumbers_78 : decode cX11_renumbers 78 = .ok (.ireturn, 1) := by decide +kernel
set_option maxRecDepth 20000 in
theorem ggX11_merge_X11_isStar : GoodIn wsX11_merge wsX11_isStar := goodIn_r _ [8, 3, 9, 10, 7, 11, 16, 17, 18, 19, 20, 21, 22, 23, 24, 25, 26, 27, 28, 29, 30, 31, 32, 33, 34, 35, 36, 37, 38, 39, 40, 41, 42, 43, 44, 45, 46, 47, 48, 49, 50, 51, 52, 53, 54, 55, 56, 57] (by decide +kernel) (by decide +kernel)
set_option maxRecDepth 20000 in
theorem gX11_merge_X11_isStar : GoodIn wsX11_merge (wsV RX11 129 RX11 yX11_isStar wsX11_isStar) := goodIn_app (goodIn_of _ (by decide +kernel)) ggX11_merge_X11_isStar
set_option maxRecDepth 20000 in
theorem ggX11_merge_X11_renumbers : GoodIn wsX11_merge wsX11_renumbers := goodIn_r _ [15, 3, 1, 16, 17, 18, 19, 20, 21, 22, 23, 24, 25, 26, 27, 28, 29, 30, 31, 32, 33, 34, 35, 36, 37, 38, 39, 40, 41, 42, 43, 44, 45, 46, 47, 48, 49, 50, 51, 52, 53, 54, 55, 56, 57] (by decide +kernel) (by decide +kernel)
set_option maxRecDepth 20000 in
theorem gX11_merge_X11_renumbers : GoodIn wsX11_merge (wsV RX11 140 RX11 yX11_renumbers wsX11_renumbers) := goodIn_app (goodIn_of _ (by decide +kernel)) ggX11_merge_X11_renumbers
theorem dX11_merge_0 : decode cX11_merge 0 = .ok (.aload_n 0, 1) := by decide +kernel
theorem dX11_merge_1 : decode cX11_merge 1 = .ok (.aload_n 0, 1) := by decide +kernel
theorem dX11_merge_2 : decode cX11_merge 2 = .ok (.iload_n 1, 1) := by decide +kernel
theorem dX11_merge_3 : decode cX11_merge 3 = .ok (.invokevirtual 129, 3) := by decide +kernel
theorem dX11_merge_6 : decode cX11_merge 6 = .ok (.ifCond .eq 11, 3) := by decide +kernel
theorem dX11_merge_9 : decode cX11_merge 9 = .ok (.aload_n 0, 1) := by decide +kernel
theorem dX11_merge_10 : decode cX11_merge 10 = .ok (.iload_n 2, 1) := by decide +kernel
theorem dX11_merge_11 : decode cX11_merge 11 = .ok (.invokevirtual 129, 3) := by decide +kernel
theorem dX11_merge_14 : decode cX11_merge 14 = .ok (.ifCond .ne 7, 3) := by decide +kernel
theorem dX11_merge_17 : decode cX11_merge 17 = .ok (.iconst 1, 1) := by decide +kernel
theorem dX11_merge_18 : decode cX11_merge 18 = .ok (.goto 23, 3) := by decide +kernel
theorem dX11_merge_21 : decode cX11_merge 21 = .ok (.aload_n 0, 1) := by decide +kernel
theorem dX11_merge_22 : decode cX11_merge 22 = .ok (.getfield 16, 3) := by decide +kernel
theorem dX11_merge_25 : decode cX11_merge 25 = .ok (.iload_n 1, 1) := by decide +kernel
theorem dX11_merge_26 : decode cX11_merge 26 = .ok (.iaload, 1) := by decide +kernel
theorem dX11_merge_27 : decode cX11_merge 27 = .ok (.aload_n 0, 1) := by decide +kernel
theorem dX11_merge_28 : decode cX11_merge 28 = .ok (.getfield 16, 3) := by decide +kernel
theorem dX11_merge_31 : decode cX11_merge 31 = .ok (.iload_n 2, 1) := by decide +kernel
theorem dX11_merge_32 : decode cX11_merge 32 = .ok (.iaload, 1) := by decide +kernel
theorem dX11_merge_33 : decode cX11_merge 33 = .ok (.if_icmp .ne 7, 3) := by decide +kernel
theorem dX11_merge_36 : decode cX11_merge 36 = .ok (.iconst 2, 1) := by decide +kernel
theorem dX11_merge_37 : decode cX11_merge 37 = .ok (.goto 4, 3) := by decide +kernel
theorem dX11_merge_40 : decode cX11_merge 40 = .ok (.iconst 0, 1) := by decide +kernel
theorem dX11_merge_41 : decode cX11_merge 41 = .ok (.putfield 110, 3) := by decide +kernel
theorem dX11_merge_44 : decode cX11_merge 44 = .ok (.aload_n 0, 1) := by decide +kernel
theorem dX11_merge_45 : decode cX11_merge 45 = .ok (.getfield 110, 3) := by decide +kernel
theorem dX11_merge_48 : decode cX11_merge 48 = .ok (.ifCond .le 5, 3) := by decide +kernel
theorem dX11_merge_51 : decode cX11_merge 51 = .ok (.iconst 0, 1) := by decide +kernel
theorem dX11_merge_52 : decode cX11_merge 52 = .ok (.ireturn, 1) := by decide +kernel
theorem dX11_merge_53 : decode cX11_merge 53 = .ok (.aload_n 0, 1) := by decide +kernel
theorem dX11_merge_54 : decode cX11_merge 54 = .ok (.getfield 16, 3) := by decide +kernel
theorem dX11_merge_57 : decode cX11_merge 57 = .ok (.iload_n 2, 1) := by decide +kernel
theorem dX11_merge_58 : decode cX11_merge 58 = .ok (.iaload, 1) := by decide +kernel
theorem dX11_merge_59 : decode cX11_merge 59 = .ok (.istore_n 3, 1) := by decide +kernel
theorem dX11_merge_60 : decode cX11_merge 60 = .ok (.iconst 0, 1) := by decide +kernel
theorem dX11_merge_61 : decode cX11_merge 61 = .ok (.istore 4, 2) := by decide +kernel
theorem dX11_merge_63 : decode cX11_merge 63 = .ok (.iload 4, 2) := by decide +kernel
theorem dX11_merge_65 : decode cX11_merge 65 = .ok (.aload_n 0, 1) := by decide +kernel
theorem dX11_merge_66 : decode cX11_merge 66 = .ok (.getfield 114, 3) := by decide +kernel
theorem dX11_merge_69 : decode cX11_merge 69 = .ok (.if_icmp .ge 43, 3) := by decide +kernel
theorem dX11_merge_72 : decode cX11_merge 72 = .ok (.aload_n 0, 1) := by decide +kernel
theorem dX11_merge_73 : decode cX11_merge 73 = .ok (.getfield 16, 3) := by decide +kernel
theorem dX11_merge_76 : decode cX11_merge 76 = .ok (.iload 4, 2) := by decide +kernel
theorem dX11_merge_78 : decode cX11_merge 78 = .ok (.aload_n 0, 1) := by decide +kernel
theorem dX11_merge_79 : decode cX11_merge 79 = .ok (.getfield 16, 3) := by decide +kernel
theorem dX11_merge_82 : decode cX11_merge 82 = .ok (.iload 4, 2) := by decide +kernel
theorem dX11_merge_84 : decode cX11_merge 84 = .ok (.iaload, 1) := by decide +kernel
theorem dX11_merge_85 : decode cX11_merge 85 = .ok (.iload_n 3, 1) := by decide +kernel
theorem dX11_merge_86 : decode cX11_merge 86 = .ok (.if_icmp .ne 12, 3) := by decide +kernel
theorem dX11_merge_89 : decode cX11_merge 89 = .ok (.aload_n 0, 1) := by decide +kernel
theorem dX11_merge_90 : decode cX11_merge 90 = .ok (.getfield 16, 3) := by decide +kernel
theorem dX11_merge_93 : decode cX11_merge 93 = .ok (.iload_n 1, 1) := by decide +kernel
theorem dX11_merge_94 : decode cX11_merge 94 = .ok (.iaload, 1) := by decide +kernel
theorem dX11_merge_95 : decode cX11_merge 95 = .ok (.goto 10, 3) := by decide +kernel
theorem dX11_merge_98 : decode cX11_merge 98 = .ok (.aload_n 0, 1) := by decide +kernel
theorem dX11_merge_99 : decode cX11_merge 99 = .ok (.getfield 16, 3) := by decide +kernel
theorem dX11_merge_102 : decode cX11_merge 102 = .ok (.iload 4, 2) := by decide +kernel
theorem dX11_merge_104 : decode cX11_merge 104 = .ok (.iaload, 1) := by decide +kernel
theorem dX11_merge_105 : decode cX11_merge 105 = .ok (.iastore, 1) := by decide +kernel
theorem dX11_merge_106 : decode cX11_merge 106 = .ok (.iinc 4 1, 3) := by decide +kernel
theorem dX11_merge_109 : decode cX11_merge 109 = .ok (.goto (-46), 3) := by decide +kernel
theorem dX11_merge_112 : decode cX11_merge 112 = .ok (.aload_n 0, 1) := by decide +kernel
theorem dX11_merge_113 : decode cX11_merge 113 = .ok (.aload_n 0, 1) := by decide +kernel
theorem dX11_merge_114 : decode cX11_merge 114 = .ok (.getfield 16, 3) := by decide +kernel
theorem dX11_merge_117 : decode cX11_merge 117 = .ok (.iload_n 1, 1) := by decide +kernel
theorem dX11_merge_118 : decode cX11_merge 118 = .ok (.iaload, 1) := by decide +kernel
theorem dX11_merge_119 : decode cX11_merge 119 = .ok (.invokevirtual 140, 3) := by decide +kernel
theorem dX11_merge_122 : decode cX11_merge 122 = .ok (.ireturn, 1) := by decide +kernel
set_option maxRecDepth 20000 in
theorem ggX11_split_X11_isStar : GoodIn wsX11_split wsX11_isStar := goodIn_r _ [8, 2, 9, 10, 7, 11, 16, 17, 18, 19, 20, 21, 22, 23, 24, 25, 26, 27, 28, 29, 30, 31, 32, 33, 34, 35, 36, 37, 38, 39, 40, 41, 42, 43, 44, 45, 46, 47, 48, 49, 50, 51, 52, 53, 54, 55, 56, 57] (by decide +kernel) (by decide +kernel)
set_option maxRecDepth 20000 in
theorem gX11_split_X11_isStar : GoodIn wsX11_split (wsV RX11 129 RX11 yX11_isStar wsX11_isStar) := goodIn_app (goodIn_of _ (by decide +kernel)) ggX11_split_X11_isStar
set_option maxRecDepth 20000 in
theorem ggX11_split_X11_renumbers : GoodIn wsX11_split wsX11_renumbers := goodIn_r _ [15, 2, 3, 16, 17, 18, 19, 20, 21, 22, 23, 24, 25, 26, 27, 28, 29, 30, 31, 32, 33, 34, 35, 36, 37, 38, 39, 40, 41, 42, 43, 44, 45, 46, 47, 48, 49, 50, 51, 52, 53, 54, 55, 56, 57] (by decide +kernel) (by decide +kernel)
set_option maxRecDepth 20000 in
theorem gX11_split_X11_renumbers : GoodIn wsX11_split (wsV RX11 140 RX11 yX11_renumbers wsX11_renumbers) := goodIn_app (goodIn_of _ (by decide +kernel)) ggX11_split_X11_renumbers
theorem dX11_split_0 : decode cX11_split 0 = .ok (.aload_n 0, 1) := by decide +kernel
theorem dX11_split_1 : decode cX11_split 1 = .ok (.aload_n 0, 1) := by decide +kernel
theorem dX11_split_2 : decode cX11_split 2 = .ok (.iload_n 1, 1) := by decide +kernel
theorem dX11_split_3 : decode cX11_split 3 = .ok (.invokevirtual 129, 3) := by decide +kernel
theorem dX11_split_6 : decode cX11_split 6 = .ok (.ifCond .eq 7, 3) := by decide +kernel
theorem dX11_split_9 : decode cX11_split 9 = .ok (.iconst 0, 1) := by decide +kernel
