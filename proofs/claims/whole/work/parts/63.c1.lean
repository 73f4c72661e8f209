/-! the law: words and rows -/
set_option maxRecDepth 20000 in
theorem gL_law_L_frame : GoodIn wsL_law (va_wsS RL 111 yL_frame wsL_frame) := goodIn_app (goodIn_of _ (by decide +kernel)) ggL_law_L_frame
set_option maxRecDepth 20000 in
theorem ggL_law_X8_frame : GoodIn wsL_law wsX8_frame := goodIn_r _ [443, 444, 123, 445, 446, 447, 5, 448, 157, 158, 159, 160, 161, 162, 163, 164, 290, 291, 292, 263, 264, 265, 247, 248, 249, 449, 450, 451, 452, 812, 813, 814, 815, 816, 817, 818, 819, 820, 821, 822, 823, 824] (by decide +kernel) (by decide +kernel)
set_option maxRecDepth 20000 in
theorem gL_law_X8_frame : GoodIn wsL_law (wsV RL 114 RX8 yX8_frame wsX8_frame) := goodIn_app (goodIn_of _ (by decide +kernel)) ggL_law_X8_frame
set_option maxRecDepth 20000 in
theorem ggL_law_L_waiting : GoodIn wsL_law wsL_waiting := goodIn_ca (goodIn_ca (goodIn_r _ [455, 432, 136, 456, 457, 458, 2, 459, 437, 438, 142, 143, 21, 410, 360, 361, 49, 362, 330, 439, 348, 349, 350, 64, 806, 807, 808, 809, 810, 811, 827, 828, 829, 830, 831, 832, 833, 834, 835, 836, 837, 847, 848] (by decide +kernel) (by decide +kernel)) (goodIn_sub (fun _ h => List.mem_append_right _ h) (by decide +kernel))) (goodIn_sub (fun _ h => List.mem_append_left _ (List.mem_append_left _ (List.mem_append_right _ h))) (by decide +kernel))
set_option maxRecDepth 20000 in
theorem gL_law_L_waiting : GoodIn wsL_law (va_wsS RL 115 yL_waiting wsL_waiting) := goodIn_app (goodIn_of _ (by decide +kernel)) ggL_law_L_waiting
set_option maxRecDepth 20000 in
theorem ggL_law_X8_waiting : GoodIn wsL_law wsX8_waiting := goodIn_r _ [463, 464, 123, 465, 466, 467, 5, 468, 157, 158, 159, 160, 161, 162, 163, 164, 253, 254, 255, 812, 813, 814, 815, 816, 817, 818, 819, 820, 821, 822, 823, 824] (by decide +kernel) (by decide +kernel)
set_option maxRecDepth 20000 in
theorem gL_law_X8_waiting : GoodIn wsL_law (wsV RL 117 RX8 yX8_waiting wsX8_waiting) := goodIn_app (goodIn_of _ (by decide +kernel)) ggL_law_X8_waiting
set_option maxRecDepth 20000 in
theorem ggL_law_L_block : GoodIn wsL_law wsL_block := goodIn_ca (goodIn_r _ [471, 432, 472, 473, 474, 2, 475, 437, 438, 21, 476, 477, 478, 45, 479, 59, 806, 807, 808, 809, 810, 811, 827, 828, 829, 830, 831, 832, 833, 834, 835, 836, 837, 843, 844, 845, 846] (by decide +kernel) (by decide +kernel)) (goodIn_sub (fun _ h => List.mem_append_right _ h) (by decide +kernel))
set_option maxRecDepth 20000 in
theorem gL_law_L_block : GoodIn wsL_law (va_wsS RL 118 yL_block wsL_block) := goodIn_app (goodIn_of _ (by decide +kernel)) ggL_law_L_block
set_option maxRecDepth 20000 in
theorem ggL_law_X8_block : GoodIn wsL_law wsX8_block := goodIn_r _ [483, 123, 157, 158, 5, 159, 160, 161, 162, 163, 164, 812, 813, 814, 815, 816, 817, 818, 819, 820, 821, 822, 823, 824] (by decide +kernel) (by decide +kernel)
set_option maxRecDepth 20000 in
theorem gL_law_X8_block : GoodIn wsL_law (wsV RL 120 RX8 yX8_block wsX8_block) := goodIn_app (goodIn_of _ (by decide +kernel)) ggL_law_X8_block
set_option maxRecDepth 20000 in
theorem ggL_law_L_broken : GoodIn wsL_law wsL_broken := goodIn_ca (goodIn_ca (goodIn_r _ [486, 432, 136, 487, 488, 489, 2, 490, 437, 438, 142, 143, 21, 491, 492, 493, 54, 494, 95, 495, 496, 497, 498, 68, 806, 807, 808, 809, 810, 811, 827, 828, 829, 830, 831, 832, 833, 834, 835, 836, 837, 849, 850, 851, 852, 853, 854, 855] (by decide +kernel) (by decide +kernel)) (goodIn_sub (fun _ h => List.mem_append_right _ h) (by decide +kernel))) (goodIn_sub (fun _ h => List.mem_append_left _ (List.mem_append_left _ (List.mem_append_right _ h))) (by decide +kernel))
set_option maxRecDepth 20000 in
theorem gL_law_L_broken : GoodIn wsL_law (va_wsS RL 121 yL_broken wsL_broken) := goodIn_app (goodIn_of _ (by decide +kernel)) ggL_law_L_broken
set_option maxRecDepth 20000 in
theorem ggL_law_X8_broken : GoodIn wsL_law wsX8_broken := goodIn_r _ [502, 123, 503, 157, 158, 5, 159, 160, 161, 162, 163, 164, 812, 813, 814, 815, 816, 817, 818, 819, 820, 821, 822, 823, 824] (by decide +kernel) (by decide +kernel)
set_option maxRecDepth 20000 in
theorem gL_law_X8_broken : GoodIn wsL_law (wsV RL 123 RX8 yX8_broken wsX8_broken) := goodIn_app (goodIn_of _ (by decide +kernel)) ggL_law_X8_broken
set_option maxRecDepth 20000 in
theorem ggL_law_L_setting : GoodIn wsL_law wsL_setting := goodIn_ca (goodIn_r _ [506, 136, 507, 508, 509, 2, 510, 142, 143, 21, 806, 807, 808, 809, 810, 811, 827, 828, 829, 830, 831, 832, 833, 834, 835, 836, 837] (by decide +kernel) (by decide +kernel)) (goodIn_sub (fun _ h => List.mem_append_left _ (List.mem_append_left _ (List.mem_append_right _ h))) (by decide +kernel))
set_option maxRecDepth 20000 in
theorem gL_law_L_setting : GoodIn wsL_law (va_wsS RL 124 yL_setting wsL_setting) := goodIn_app (goodIn_of _ (by decide +kernel)) ggL_law_L_setting
set_option maxRecDepth 20000 in
theorem ggL_law_X8_setting : GoodIn wsL_law wsX8_setting := goodIn_r _ [514, 503, 123, 157, 158, 5, 159, 160, 161, 162, 163, 164, 812, 813, 814, 815, 816, 817, 818, 819, 820, 821, 822, 823, 824] (by decide +kernel) (by decide +kernel)
set_option maxRecDepth 20000 in
theorem gL_law_X8_setting : GoodIn wsL_law (wsV RL 126 RX8 yX8_setting wsX8_setting) := goodIn_app (goodIn_of _ (by decide +kernel)) ggL_law_X8_setting
set_option maxRecDepth 20000 in
theorem ggL_law_L_shoot : GoodIn wsL_law wsL_shoot := goodIn_ca (goodIn_r _ [517, 136, 518, 519, 520, 2, 521, 142, 143, 26, 21, 522, 523, 524, 525, 526, 527, 528, 25, 529, 313, 312, 530, 531, 532, 533, 109, 534, 535, 536, 20, 537, 42, 73, 74, 75, 76, 46, 50, 51, 55, 77, 78, 79, 80, 81, 82, 538, 539, 540, 45, 541, 59, 542, 87, 88, 89, 543, 544, 545, 49, 546, 330, 64, 373, 547, 548, 549, 54, 550, 68, 551, 100, 101, 102, 103, 94, 95, 320, 321, 322, 323, 324, 325, 326, 327, 328, 329, 331, 332, 333, 334, 806, 807, 808, 809, 810, 811, 838, 839, 840, 827, 828, 829, 830, 831, 832, 833, 834, 835, 836, 837, 843, 844, 845, 846, 847, 848, 849, 850, 851, 852, 853, 854, 855] (by decide +kernel) (by decide +kernel)) (goodIn_sub (fun _ h => List.mem_append_left _ (List.mem_append_left _ (List.mem_append_right _ h))) (by decide +kernel))
set_option maxRecDepth 20000 in
theorem gL_law_L_shoot : GoodIn wsL_law (va_wsS RL 127 yL_shoot wsL_shoot) := goodIn_app (goodIn_of _ (by decide +kernel)) ggL_law_L_shoot
set_option maxRecDepth 20000 in
theorem ggL_law_X8_shoot : GoodIn wsL_law wsX8_shoot := goodIn_r _ [555, 123, 556, 557, 5, 558, 559, 157, 158, 159, 160, 161, 162, 163, 164, 560, 561, 562, 563, 416, 125, 266, 267, 268, 244, 245, 246, 247, 248, 249, 250, 251, 252, 253, 254, 255, 812, 813, 814, 815, 816, 817, 818, 819, 820, 821, 822, 823, 824] (by decide +kernel) (by decide +kernel)
set_option maxRecDepth 20000 in
theorem gL_law_X8_shoot : GoodIn wsL_law (wsV RL 129 RX8 yX8_shoot wsX8_shoot) := goodIn_app (goodIn_of _ (by decide +kernel)) ggL_law_X8_shoot
set_option maxRecDepth 20000 in
theorem ggL_law_L_ticks : GoodIn wsL_law wsL_ticks := goodIn_ca (goodIn_r _ [566, 136, 567, 568, 569, 2, 570, 142, 143, 26, 21, 571, 572, 573, 526, 527, 528, 25, 529, 313, 312, 530, 531, 532, 533, 109, 534, 535, 536, 20, 537, 42, 73, 74, 75, 76, 46, 50, 51, 55, 77, 78, 79, 80, 81, 82, 538, 539, 540, 45, 541, 59, 542, 87, 88, 89, 543, 544, 545, 49, 546, 330, 64, 373, 547, 548, 549, 54, 550, 68, 551, 100, 101, 102, 103, 94, 95, 335, 336, 337, 338, 339, 340, 341, 342, 343, 344, 345, 346, 347, 348, 349, 350, 351, 352, 353, 354, 326, 327, 328, 329, 331, 332, 333, 334, 355, 356, 357, 358, 359, 360, 361, 362, 363, 324, 325, 364, 365, 366, 367, 368, 369, 370, 371, 372, 374, 375, 376, 377, 378, 379, 380, 381, 382, 383, 384, 385, 386, 387, 388, 389, 390, 391, 392, 393, 394, 395, 396, 397, 398, 399, 400, 401, 402, 403, 404, 405, 406, 407, 408, 409, 96, 97, 98, 99, 806, 807, 808, 809, 810, 811, 838, 839, 840, 827, 828, 829, 830, 831, 832, 833, 834, 835, 836, 837, 843, 844, 845, 846, 847, 848, 849, 850, 851, 852, 853, 854, 855] (by decide +kernel) (by decide +kernel)) (goodIn_sub (fun _ h => List.mem_append_left _ (List.mem_append_left _ (List.mem_append_right _ h))) (by decide +kernel))
set_option maxRecDepth 20000 in
theorem gL_law_L_ticks : GoodIn wsL_law (va_wsS RL 130 yL_ticks wsL_ticks) := goodIn_app (goodIn_of _ (by decide +kernel)) ggL_law_L_ticks
set_option maxRecDepth 20000 in
theorem ggL_law_X8_ticks : GoodIn wsL_law wsX8_ticks := goodIn_r _ [577, 123, 578, 579, 5, 580, 581, 157, 158, 159, 160, 161, 162, 163, 164, 560, 561, 562, 563, 416, 125, 266, 267, 268, 269, 270, 271, 272, 273, 274, 275, 276, 277, 278, 279, 280, 253, 254, 255, 281, 282, 283, 263, 264, 265, 284, 285, 286, 287, 288, 289, 290, 291, 292, 247, 248, 249, 260, 261, 262, 293, 294, 295, 812, 813, 814, 815, 816, 817, 818, 819, 820, 821, 822, 823, 824] (by decide +kernel) (by decide +kernel)
set_option maxRecDepth 20000 in
theorem gL_law_X8_ticks : GoodIn wsL_law (wsV RL 132 RX8 yX8_ticks wsX8_ticks) := goodIn_app (goodIn_of _ (by decide +kernel)) ggL_law_X8_ticks
