set_option maxRecDepth 20000 in
theorem gp_areLooks_c : GoodIn wsL_law [Cond.code yL_areLooks cL_areLooks 11 (some .boolean)] := goodIn_r _ [608] (by decide +kernel) (by decide +kernel)
set_option maxRecDepth 20000 in
theorem gp_areLooks_r1 : GoodIn wsL_law wsL_areLooks_r1 := goodIn_r _ [609, 610, 611, 2, 612, 135, 136, 345, 314, 271, 272, 273, 274, 275, 164, 165, 22, 276, 137, 138, 139, 17, 140, 76] (by decide +kernel) (by decide +kernel)
set_option maxRecDepth 20000 in
theorem gp_areLooks_r2 : GoodIn wsL_law wsL_areLooks_r2 := goodIn_r _ [167, 168, 169, 170, 171, 172, 173, 174, 175, 176, 177, 178, 179, 180, 181, 182, 44, 613, 614, 615, 381, 260, 383, 264] (by decide +kernel) (by decide +kernel)
set_option maxRecDepth 20000 in
theorem gp_areLooks_r3 : GoodIn wsL_law wsL_areLooks_r3 := goodIn_r _ [384, 265, 385, 331, 332, 333, 334, 335, 336, 616, 391, 232, 393, 243, 394, 246, 244, 245, 375, 376, 377, 378, 379, 380] (by decide +kernel) (by decide +kernel)
set_option maxRecDepth 20000 in
theorem gp_areLooks_r4 : GoodIn wsL_law wsL_areLooks_r4 := goodIn_r _ [382, 386, 387, 388, 241, 389, 390, 392, 350, 351, 352, 353, 354, 355, 356, 357, 358, 359, 360, 131, 361, 153, 362, 114] (by decide +kernel) (by decide +kernel)
set_option maxRecDepth 20000 in
theorem gp_areLooks_r5 : GoodIn wsL_law wsL_areLooks_r5 := goodIn_r _ [62, 115, 363, 364, 365, 366, 367, 368, 369, 370, 371, 372, 242, 373, 374, 617, 618, 619, 620, 621, 622, 623, 624, 579] (by decide +kernel) (by decide +kernel)
set_option maxRecDepth 20000 in
theorem gp_areLooks_r6 : GoodIn wsL_law wsL_areLooks_r6 := goodIn_r _ [580, 292, 581, 582, 583, 584] (by decide +kernel) (by decide +kernel)
set_option maxRecDepth 20000 in
theorem ggL_law_L_areLooks : GoodIn wsL_law wsL_areLooks := goodIn_ca (goodIn_ca (goodIn_ca (goodIn_ca (goodIn_ca (goodIn_ca (goodIn_ca (goodIn_ca (goodIn_ca (goodIn_ca (goodIn_cn gp_areLooks_c (goodIn_app gp_areLooks_r1 (goodIn_app gp_areLooks_r2 (goodIn_app gp_areLooks_r3 (goodIn_app gp_areLooks_r4 (goodIn_app gp_areLooks_r5 (gp_areLooks_r6))))))) (goodIn_sub inlX1 (by decide +kernel))) (goodIn_sub inlX8 (by decide +kernel))) (goodIn_sub inlX7 (by decide +kernel))) (goodIn_sub inlX10 (by decide +kernel))) (goodIn_sub inlJx4a65c (by decide +kernel))) (goodIn_sub inlX4 (by decide +kernel))) (goodIn_sub inlX0 (by decide +kernel))) (goodIn_sub inlX9 (by decide +kernel))) (goodIn_sub (fun _ h => List.mem_append_left _ (List.mem_append_left _ (List.mem_append_right _ h))) (by decide +kernel))) (goodIn_sub (fun _ h => List.mem_append_right _ h) (by decide +kernel))
set_option maxRecDepth 20000 in
theorem gL_law_L_areLooks : GoodIn wsL_law (va_wsS RL 191 yL_areLooks wsL_areLooks) := goodIn_app (goodIn_of _ (by decide +kernel)) ggL_law_L_areLooks
