theorem goodIn_cn {big a : List Cond} {c : Cond} (h1 : GoodIn big [c]) (h2 : GoodIn big a) : GoodIn big (c :: a) := fun w h => (List.mem_cons.mp h).elim (fun e => h1 w (by rw [e]; exact List.mem_cons_self)) (h2 w)
set_option maxRecDepth 20000 in
theorem gp_areTrials_c : GoodIn wsL_law [Cond.code yL_areTrials cL_areTrials 18 (some .boolean)] := goodIn_r _ [593] (by decide +kernel) (by decide +kernel)
set_option maxRecDepth 20000 in
theorem gp_areTrials_r1 : GoodIn wsL_law wsL_areTrials_r1 := goodIn_r _ [7, 594, 595, 292, 596, 597, 598, 599, 600, 601, 602, 603, 604, 605, 290, 291, 293, 294, 295, 296, 297, 298, 299, 300] (by decide +kernel) (by decide +kernel)
set_option maxRecDepth 20000 in
theorem gp_areTrials_r2 : GoodIn wsL_law wsL_areTrials_r2 := goodIn_r _ [301, 2, 302, 144, 145, 303, 304, 114, 62, 115, 305, 61, 63, 233, 234, 235, 236, 164, 165, 20, 237, 137, 138, 139] (by decide +kernel) (by decide +kernel)
set_option maxRecDepth 20000 in
theorem gp_areTrials_r3 : GoodIn wsL_law wsL_areTrials_r3 := goodIn_r _ [17, 140, 76, 167, 168, 169, 170, 171, 172, 173, 174, 175, 176, 177, 178, 179, 180, 181, 182, 44, 306, 307, 308, 309] (by decide +kernel) (by decide +kernel)
set_option maxRecDepth 20000 in
theorem gp_areTrials_r4 : GoodIn wsL_law wsL_areTrials_r4 := goodIn_r _ [310, 311, 312, 313, 314, 315, 316, 317, 318, 319, 320, 321, 322, 323, 324, 325, 326, 327, 328, 329, 132, 133, 134, 135] (by decide +kernel) (by decide +kernel)
set_option maxRecDepth 20000 in
theorem gp_areTrials_r5 : GoodIn wsL_law wsL_areTrials_r5 := goodIn_r _ [136, 330, 331, 332, 333, 334, 335, 336, 337, 338, 339, 340, 29, 341, 342, 343, 344, 22, 276, 345, 271, 346, 347, 348] (by decide +kernel) (by decide +kernel)
set_option maxRecDepth 20000 in
theorem gp_areTrials_r6 : GoodIn wsL_law wsL_areTrials_r6 := goodIn_r _ [28, 349, 59, 350, 351, 352, 353, 260, 354, 355, 356, 264, 357, 358, 359, 360, 131, 361, 153, 362, 363, 364, 365, 366] (by decide +kernel) (by decide +kernel)
set_option maxRecDepth 20000 in
theorem gp_areTrials_r7 : GoodIn wsL_law wsL_areTrials_r7 := goodIn_r _ [367, 368, 369, 232, 370, 371, 372, 242, 241, 373, 374, 375, 376, 377, 378, 379, 380, 381, 382, 383, 384, 265, 385, 386] (by decide +kernel) (by decide +kernel)
set_option maxRecDepth 20000 in
theorem gp_areTrials_r8 : GoodIn wsL_law wsL_areTrials_r8 := goodIn_r _ [387, 388, 389, 390, 391, 392, 393, 243, 394, 246, 244, 245, 395, 396, 397, 398, 64, 399, 117, 118, 119, 65, 400, 401] (by decide +kernel) (by decide +kernel)
set_option maxRecDepth 20000 in
theorem gp_areTrials_r9 : GoodIn wsL_law wsL_areTrials_r9 := goodIn_r _ [402, 403, 404, 405, 406, 407, 408, 409, 410, 411, 33, 412, 413, 414, 415, 30, 416, 417, 418, 419, 420, 421, 422, 423] (by decide +kernel) (by decide +kernel)
set_option maxRecDepth 20000 in
theorem gp_areTrials_r10 : GoodIn wsL_law wsL_areTrials_r10 := goodIn_r _ [424, 425, 426, 427, 428, 429, 430, 431, 432, 433, 434, 435, 436, 437, 438, 439, 440, 441, 442, 443, 444, 445, 446, 447] (by decide +kernel) (by decide +kernel)
set_option maxRecDepth 20000 in
theorem gp_areTrials_r11 : GoodIn wsL_law wsL_areTrials_r11 := goodIn_r _ [448, 449, 450, 451, 452, 453, 454, 455, 456, 457, 458, 459, 460, 461, 462, 463, 464, 465, 466, 467, 468, 469, 470, 471] (by decide +kernel) (by decide +kernel)
set_option maxRecDepth 20000 in
theorem gp_areTrials_r12 : GoodIn wsL_law wsL_areTrials_r12 := goodIn_r _ [472, 23, 473, 474, 475, 476, 477, 478, 479, 480, 481, 482, 483, 484, 485, 486, 487, 488, 489, 490, 491, 492, 31, 493] (by decide +kernel) (by decide +kernel)
set_option maxRecDepth 20000 in
theorem gp_areTrials_r13 : GoodIn wsL_law wsL_areTrials_r13 := goodIn_r _ [494, 495, 496, 24, 497, 498, 499, 500, 501, 502, 503, 504, 505, 506, 507, 508, 509, 510, 511, 512, 513, 514, 515, 516] (by decide +kernel) (by decide +kernel)
set_option maxRecDepth 20000 in
theorem gp_areTrials_r14 : GoodIn wsL_law wsL_areTrials_r14 := goodIn_r _ [517, 518, 519, 520, 521, 522, 523, 524, 525, 526, 527, 528, 529, 530, 531, 532, 25, 533, 534, 535] (by decide +kernel) (by decide +kernel)
set_option maxRecDepth 20000 in
theorem ggL_law_L_areTrials : GoodIn wsL_law wsL_areTrials := goodIn_ca (goodIn_ca (goodIn_ca (goodIn_ca (goodIn_ca (goodIn_ca (goodIn_ca (goodIn_ca (goodIn_ca (goodIn_ca (goodIn_ca (goodIn_ca (goodIn_ca (goodIn_ca (goodIn_cn gp_areTrials_c (goodIn_app gp_areTrials_r1 (goodIn_app gp_areTrials_r2 (goodIn_app gp_areTrials_r3 (goodIn_app gp_areTrials_r4 (goodIn_app gp_areTrials_r5 (goodIn_app gp_areTrials_r6 (goodIn_app gp_areTrials_r7 (goodIn_app gp_areTrials_r8 (goodIn_app gp_areTrials_r9 (goodIn_app gp_areTrials_r10 (goodIn_app gp_areTrials_r11 (goodIn_app gp_areTrials_r12 (goodIn_app gp_areTrials_r13 (gp_areTrials_r14))))))))))))))) (goodIn_sub inlX7 (by decide +kernel))) (goodIn_sub inlX10 (by decide +kernel))) (goodIn_sub inlJx4a65c (by decide +kernel))) (goodIn_sub inlX1 (by decide +kernel))) (goodIn_sub inlX8 (by decide +kernel))) (goodIn_sub inlX5 (by decide +kernel))) (goodIn_sub inlX4 (by decide +kernel))) (goodIn_sub inlX9 (by decide +kernel))) (goodIn_sub inlX0 (by decide +kernel))) (goodIn_sub inlX6 (by decide +kernel))) (goodIn_sub inlX3 (by decide +kernel))) (goodIn_sub (fun _ h => List.mem_append_left _ (List.mem_append_right _ h)) (by decide +kernel))) (goodIn_sub (fun _ h => List.mem_append_right _ h) (by decide +kernel))) (goodIn_sub (fun _ h => List.mem_append_left _ (List.mem_append_left _ (List.mem_append_right _ h))) (by decide +kernel))
set_option maxRecDepth 20000 in
theorem gL_law_L_areTrials : GoodIn wsL_law (va_wsS RL 187 yL_areTrials wsL_areTrials) := goodIn_app (goodIn_of _ (by decide +kernel)) ggL_law_L_areTrials
