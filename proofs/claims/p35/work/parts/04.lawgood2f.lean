set_option maxRecDepth 20000 in
theorem gp_areNear_c : GoodIn wsL_law [Cond.code yL_areNear cL_areNear 16 (some .boolean)] := goodIn_r _ [672] (by decide +kernel) (by decide +kernel)
set_option maxRecDepth 20000 in
theorem gp_areNear_r1 : GoodIn wsL_law wsL_areNear_r1 := goodIn_r _ [536, 537, 292, 538, 603, 604, 605, 597, 598, 599, 628, 629, 630, 646, 647, 648, 643, 644, 645, 582, 583, 584, 673, 674] (by decide +kernel) (by decide +kernel)
set_option maxRecDepth 20000 in
theorem gp_areNear_r2 : GoodIn wsL_law wsL_areNear_r2 := goodIn_r _ [675, 2, 676, 164, 165, 32, 20, 237, 346, 347, 348, 28, 349, 59, 137, 138, 139, 17, 140, 76, 167, 168, 169, 170] (by decide +kernel) (by decide +kernel)
set_option maxRecDepth 20000 in
theorem gp_areNear_r3 : GoodIn wsL_law wsL_areNear_r3 := goodIn_r _ [171, 172, 173, 174, 175, 176, 177, 178, 179, 180, 181, 182, 44, 659, 660, 661, 131, 662, 154, 152, 341, 342, 343, 344] (by decide +kernel) (by decide +kernel)
set_option maxRecDepth 20000 in
theorem gp_areNear_r4 : GoodIn wsL_law wsL_areNear_r4 := goodIn_r _ [29, 22, 276, 345, 303, 271, 350, 351, 352, 353, 260, 354, 355, 356, 264, 357, 358, 359, 360, 361, 153, 362, 114, 62] (by decide +kernel) (by decide +kernel)
set_option maxRecDepth 20000 in
theorem gp_areNear_r5 : GoodIn wsL_law wsL_areNear_r5 := goodIn_r _ [115, 331, 332, 333, 334, 335, 336, 363, 364, 365, 366, 367, 368, 369, 232, 370, 371, 372, 242, 241, 373, 374, 375, 376] (by decide +kernel) (by decide +kernel)
set_option maxRecDepth 20000 in
theorem gp_areNear_r6 : GoodIn wsL_law wsL_areNear_r6 := goodIn_r _ [377, 378, 379, 380, 381, 382, 383, 384, 265, 385, 386, 387, 388, 389, 390, 391, 392, 393, 243, 394, 246, 244, 245, 395] (by decide +kernel) (by decide +kernel)
set_option maxRecDepth 20000 in
theorem gp_areNear_r7 : GoodIn wsL_law wsL_areNear_r7 := goodIn_r _ [396, 397, 398, 64, 399, 117, 118, 119, 65, 400, 401, 402, 403, 444, 445, 446, 447, 448, 449, 450, 451, 452, 404, 405] (by decide +kernel) (by decide +kernel)
set_option maxRecDepth 20000 in
theorem gp_areNear_r8 : GoodIn wsL_law wsL_areNear_r8 := goodIn_r _ [406, 407, 528, 529, 530, 531, 532, 25, 520, 521, 522, 523, 424, 425, 426, 427, 330, 533, 534, 535] (by decide +kernel) (by decide +kernel)
set_option maxRecDepth 20000 in
theorem ggL_law_L_areNear : GoodIn wsL_law wsL_areNear := goodIn_ca (goodIn_ca (goodIn_ca (goodIn_ca (goodIn_ca (goodIn_ca (goodIn_ca (goodIn_ca (goodIn_ca (goodIn_ca (goodIn_cn gp_areNear_c (goodIn_app gp_areNear_r1 (goodIn_app gp_areNear_r2 (goodIn_app gp_areNear_r3 (goodIn_app gp_areNear_r4 (goodIn_app gp_areNear_r5 (goodIn_app gp_areNear_r6 (goodIn_app gp_areNear_r7 (gp_areNear_r8))))))))) (goodIn_sub inlX10 (by decide +kernel))) (goodIn_sub inlX5 (by decide +kernel))) (goodIn_sub inlJx4a65c (by decide +kernel))) (goodIn_sub inlX7 (by decide +kernel))) (goodIn_sub inlX1 (by decide +kernel))) (goodIn_sub inlX8 (by decide +kernel))) (goodIn_sub inlX4 (by decide +kernel))) (goodIn_sub inlX9 (by decide +kernel))) (goodIn_sub inlX0 (by decide +kernel))) (goodIn_sub (fun _ h => List.mem_append_right _ h) (by decide +kernel))
set_option maxRecDepth 20000 in
theorem gL_law_L_areNear : GoodIn wsL_law (va_wsS RL 203 yL_areNear wsL_areNear) := goodIn_app (goodIn_of _ (by decide +kernel)) ggL_law_L_areNear
