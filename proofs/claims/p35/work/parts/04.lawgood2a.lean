set_option maxRecDepth 20000 in
theorem ggL_law_X10_dust : GoodIn wsL_law wsX10_dust := goodIn_ca (goodIn_ca (goodIn_r _ [568, 532, 233, 234, 235, 2, 236, 164, 165, 20, 237, 137, 138, 139, 17, 140, 76, 167, 168, 169, 170, 171, 172, 173, 174, 175, 176, 177, 178, 179, 180, 181, 182, 44, 132, 133, 134, 135, 136, 699, 700, 701, 702, 703, 677, 678, 679, 680, 681, 682, 683, 684, 685, 686, 687, 688, 689, 690, 691, 692] (by decide +kernel) (by decide +kernel)) (goodIn_sub (fun _ h => List.mem_append_right _ h) (by decide +kernel))) (goodIn_sub (fun _ h => List.mem_append_left _ (List.mem_append_left _ (List.mem_append_right _ h))) (by decide +kernel))
set_option maxRecDepth 20000 in
theorem gL_law_X10_dust : GoodIn wsL_law (wsV RL 177 RX10 yX10_dust wsX10_dust) := goodIn_app (goodIn_of _ (by decide +kernel)) ggL_law_X10_dust
set_option maxRecDepth 20000 in
theorem ggL_law_X10_zero : GoodIn wsL_law wsX10_zero := goodIn_ca (goodIn_r _ [572, 25, 132, 133, 2, 134, 135, 136, 677, 678, 679, 680, 681, 682, 683, 684, 685, 686, 687, 688, 689] (by decide +kernel) (by decide +kernel)) (goodIn_sub (fun _ h => List.mem_append_left _ (List.mem_append_left _ (List.mem_append_right _ h))) (by decide +kernel))
set_option maxRecDepth 20000 in
theorem gL_law_X10_zero : GoodIn wsL_law (wsV RL 180 RX10 yX10_zero wsX10_zero) := goodIn_app (goodIn_of _ (by decide +kernel)) ggL_law_X10_zero
set_option maxRecDepth 20000 in
theorem ggL_law_L_lays : GoodIn wsL_law wsL_lays := goodIn_r _ [575, 576, 577, 292, 578, 579, 580, 581, 582, 583, 584, 585, 586, 587, 588, 589, 590] (by decide +kernel) (by decide +kernel)
set_option maxRecDepth 20000 in
theorem gL_law_L_lays : GoodIn wsL_law (va_wsS RL 183 yL_lays wsL_lays) := goodIn_app (goodIn_of _ (by decide +kernel)) ggL_law_L_lays
