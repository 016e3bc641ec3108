set_option maxRecDepth 20000 in
theorem gp_areStars_c : GoodIn wsL_law [Cond.code yL_areStars cL_areStars 19 (some .boolean)] := goodIn_r _ [627] (by decide +kernel) (by decide +kernel)
set_option maxRecDepth 20000 in
theorem gp_areStars_r1 : GoodIn wsL_law wsL_areStars_r1 := goodIn_r _ [7, 603, 604, 292, 605, 597, 598, 599, 628, 629, 630, 631, 632, 633, 2, 634, 303, 233, 234, 235, 236, 164, 165, 20] (by decide +kernel) (by decide +kernel)
set_option maxRecDepth 20000 in
theorem gp_areStars_r2 : GoodIn wsL_law wsL_areStars_r2 := goodIn_r _ [237, 137, 138, 139, 17, 140, 76, 167, 168, 169, 170, 171, 172, 173, 174, 175, 176, 177, 178, 179, 180, 181, 182, 44] (by decide +kernel) (by decide +kernel)
set_option maxRecDepth 20000 in
theorem gp_areStars_r3 : GoodIn wsL_law wsL_areStars_r3 := goodIn_r _ [536, 537, 538, 635, 636, 637, 638, 327, 328, 329, 326, 132, 133, 134, 135, 136, 341, 342, 343, 344, 29, 22, 276, 345] (by decide +kernel) (by decide +kernel)
set_option maxRecDepth 20000 in
theorem gp_areStars_r4 : GoodIn wsL_law wsL_areStars_r4 := goodIn_r _ [271, 346, 347, 348, 28, 349, 59, 350, 351, 352, 353, 260, 354, 355, 356, 264, 357, 358, 359, 360, 131, 361, 153, 362] (by decide +kernel) (by decide +kernel)
set_option maxRecDepth 20000 in
theorem gp_areStars_r5 : GoodIn wsL_law wsL_areStars_r5 := goodIn_r _ [114, 62, 115, 331, 332, 333, 334, 335, 336, 363, 364, 365, 366, 367, 368, 369, 232, 370, 371, 372, 242, 241, 373, 374] (by decide +kernel) (by decide +kernel)
set_option maxRecDepth 20000 in
theorem gp_areStars_r6 : GoodIn wsL_law wsL_areStars_r6 := goodIn_r _ [375, 376, 377, 378, 379, 380, 381, 382, 383, 384, 265, 385, 386, 387, 388, 389, 390, 391, 392, 393, 243, 394, 246, 244] (by decide +kernel) (by decide +kernel)
set_option maxRecDepth 20000 in
theorem gp_areStars_r7 : GoodIn wsL_law wsL_areStars_r7 := goodIn_r _ [245, 395, 396, 397, 398, 64, 399, 117, 118, 119, 65, 400, 401, 402, 403, 412, 413, 414, 415, 30, 416, 417, 418, 404] (by decide +kernel) (by decide +kernel)
set_option maxRecDepth 20000 in
theorem gp_areStars_r8 : GoodIn wsL_law wsL_areStars_r8 := goodIn_r _ [405, 406, 407, 419, 420, 421, 422, 423, 424, 425, 426, 427, 594, 595, 596, 600, 601, 602, 639, 640, 641, 642, 290, 291] (by decide +kernel) (by decide +kernel)
set_option maxRecDepth 20000 in
theorem gp_areStars_r9 : GoodIn wsL_law wsL_areStars_r9 := goodIn_r _ [293, 294, 295, 296, 297, 298, 299, 300, 301, 302, 144, 145, 304, 305, 61, 63, 306, 307, 308, 309, 310, 311, 312, 313] (by decide +kernel) (by decide +kernel)
set_option maxRecDepth 20000 in
theorem gp_areStars_r10 : GoodIn wsL_law wsL_areStars_r10 := goodIn_r _ [314, 315, 316, 317, 318, 319, 320, 321, 322, 323, 324, 325, 330, 337, 338, 339, 340, 408, 409, 410, 411, 33, 428, 429] (by decide +kernel) (by decide +kernel)
set_option maxRecDepth 20000 in
theorem gp_areStars_r11 : GoodIn wsL_law wsL_areStars_r11 := goodIn_r _ [430, 431, 432, 433, 434, 435, 436, 437, 438, 439, 440, 441, 442, 443, 444, 445, 446, 447, 448, 449, 450, 451, 452, 453] (by decide +kernel) (by decide +kernel)
set_option maxRecDepth 20000 in
theorem gp_areStars_r12 : GoodIn wsL_law wsL_areStars_r12 := goodIn_r _ [454, 455, 456, 457, 458, 459, 460, 461, 462, 463, 464, 465, 466, 467, 468, 469, 470, 471, 472, 23, 473, 474, 475, 476] (by decide +kernel) (by decide +kernel)
set_option maxRecDepth 20000 in
theorem gp_areStars_r13 : GoodIn wsL_law wsL_areStars_r13 := goodIn_r _ [477, 478, 479, 480, 481, 482, 483, 484, 485, 486, 487, 488, 489, 490, 491, 492, 31, 493, 494, 495, 496, 24, 497, 498] (by decide +kernel) (by decide +kernel)
set_option maxRecDepth 20000 in
theorem gp_areStars_r14 : GoodIn wsL_law wsL_areStars_r14 := goodIn_r _ [499, 500, 501, 502, 503, 504, 505, 506, 507, 508, 509, 510, 511, 512, 513, 514, 515, 516, 517, 518, 519, 520, 521, 522] (by decide +kernel) (by decide +kernel)
set_option maxRecDepth 20000 in
theorem gp_areStars_r15 : GoodIn wsL_law wsL_areStars_r15 := goodIn_r _ [523, 524, 525, 526, 527, 528, 529, 530, 531, 532, 25, 533, 534, 535, 643, 644, 645, 582, 583, 584, 646, 647, 648, 649] (by decide +kernel) (by decide +kernel)
set_option maxRecDepth 20000 in
theorem gp_areStars_r16 : GoodIn wsL_law wsL_areStars_r16 := goodIn_r _ [650, 651, 652, 653, 654, 655, 656, 657, 658, 659, 660, 661, 662, 154, 152] (by decide +kernel) (by decide +kernel)
set_option maxRecDepth 20000 in
theorem ggL_law_L_areStars : GoodIn wsL_law wsL_areStars := goodIn_ca (goodIn_ca (goodIn_ca (goodIn_ca (goodIn_ca (goodIn_ca (goodIn_ca (goodIn_ca (goodIn_ca (goodIn_ca (goodIn_ca (goodIn_ca (goodIn_ca (goodIn_ca (goodIn_cn gp_areStars_c (goodIn_app gp_areStars_r1 (goodIn_app gp_areStars_r2 (goodIn_app gp_areStars_r3 (goodIn_app gp_areStars_r4 (goodIn_app gp_areStars_r5 (goodIn_app gp_areStars_r6 (goodIn_app gp_areStars_r7 (goodIn_app gp_areStars_r8 (goodIn_app gp_areStars_r9 (goodIn_app gp_areStars_r10 (goodIn_app gp_areStars_r11 (goodIn_app gp_areStars_r12 (goodIn_app gp_areStars_r13 (goodIn_app gp_areStars_r14 (goodIn_app gp_areStars_r15 (gp_areStars_r16))))))))))))))))) (goodIn_sub inlX7 (by decide +kernel))) (goodIn_sub inlX10 (by decide +kernel))) (goodIn_sub inlJx4a65c (by decide +kernel))) (goodIn_sub inlX1 (by decide +kernel))) (goodIn_sub inlX8 (by decide +kernel))) (goodIn_sub inlX5 (by decide +kernel))) (goodIn_sub inlX4 (by decide +kernel))) (goodIn_sub inlX9 (by decide +kernel))) (goodIn_sub inlX0 (by decide +kernel))) (goodIn_sub inlX6 (by decide +kernel))) (goodIn_sub inlX3 (by decide +kernel))) (goodIn_sub (fun _ h => List.mem_append_right _ h) (by decide +kernel))) (goodIn_sub (fun _ h => List.mem_append_left _ (List.mem_append_left _ (List.mem_append_right _ h))) (by decide +kernel))) (goodIn_sub (fun _ h => List.mem_append_left _ (List.mem_append_right _ h)) (by decide +kernel))
set_option maxRecDepth 20000 in
theorem gL_law_L_areStars : GoodIn wsL_law (va_wsS RL 195 yL_areStars wsL_areStars) := goodIn_app (goodIn_of _ (by decide +kernel)) ggL_law_L_areStars
