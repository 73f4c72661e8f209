/-! the law: words and rows -/
set_option maxRecDepth 20000 in
theorem ggL_law_L_drop : GoodIn wsL_law wsL_drop := goodIn_ca (goodIn_r _ [584, 432, 585, 586, 587, 2, 588, 437, 438, 21, 26, 410, 360, 361, 49, 362, 330, 526, 527, 528, 25, 529, 313, 312, 530, 531, 532, 533, 109, 534, 535, 536, 20, 537, 42, 73, 74, 75, 76, 46, 50, 51, 55, 77, 78, 79, 80, 81, 82, 538, 539, 540, 45, 541, 59, 542, 87, 88, 89, 543, 544, 545, 546, 64, 373, 547, 548, 549, 54, 550, 68, 551, 100, 101, 102, 103, 94, 95, 411, 387, 388, 389, 347, 348, 349, 350, 390, 391, 392, 393, 369, 370, 371, 372, 359, 355, 356, 357, 358, 331, 332, 333, 334, 363, 324, 325, 806, 807, 808, 809, 810, 811, 827, 828, 829, 830, 831, 832, 833, 834, 835, 836, 837, 847, 848, 838, 839, 840, 843, 844, 845, 846, 849, 850, 851, 852, 853, 854, 855] (by decide +kernel) (by decide +kernel)) (goodIn_sub (fun _ h => List.mem_append_right _ h) (by decide +kernel))
set_option maxRecDepth 20000 in
theorem gL_law_L_drop : GoodIn wsL_law (va_wsS RL 133 yL_drop wsL_drop) := goodIn_app (goodIn_of _ (by decide +kernel)) ggL_law_L_drop
set_option maxRecDepth 20000 in
theorem ggL_law_X8_drop : GoodIn wsL_law wsX8_drop := goodIn_r _ [592, 123, 445, 446, 447, 5, 448, 157, 158, 159, 160, 161, 162, 163, 164, 560, 561, 562, 563, 416, 125, 266, 267, 268, 260, 261, 262, 263, 264, 265, 812, 813, 814, 815, 816, 817, 818, 819, 820, 821, 822, 823, 824] (by decide +kernel) (by decide +kernel)
set_option maxRecDepth 20000 in
theorem gL_law_X8_drop : GoodIn wsL_law (wsV RL 135 RX8 yX8_drop wsX8_drop) := goodIn_app (goodIn_of _ (by decide +kernel)) ggL_law_X8_drop
set_option maxRecDepth 20000 in
theorem ggL_law_L_format : GoodIn wsL_law wsL_format := goodIn_ca (goodIn_r _ [595, 136, 596, 597, 598, 2, 599, 142, 143, 26, 21, 526, 527, 528, 25, 529, 313, 312, 530, 531, 532, 533, 109, 534, 535, 536, 20, 537, 42, 73, 74, 75, 76, 46, 50, 51, 55, 77, 78, 79, 80, 81, 82, 538, 539, 540, 45, 541, 59, 542, 87, 88, 89, 543, 544, 545, 49, 546, 330, 64, 373, 547, 548, 549, 54, 550, 68, 551, 100, 101, 102, 103, 94, 95, 600, 601, 602, 603, 83, 84, 85, 86, 806, 807, 808, 809, 810, 811, 838, 839, 840, 827, 828, 829, 830, 831, 832, 833, 834, 835, 836, 837, 843, 844, 845, 846, 847, 848, 849, 850, 851, 852, 853, 854, 855] (by decide +kernel) (by decide +kernel)) (goodIn_sub (fun _ h => List.mem_append_left _ (List.mem_append_left _ (List.mem_append_right _ h))) (by decide +kernel))
set_option maxRecDepth 20000 in
theorem gL_law_L_format : GoodIn wsL_law (va_wsS RL 136 yL_format wsL_format) := goodIn_app (goodIn_of _ (by decide +kernel)) ggL_law_L_format
set_option maxRecDepth 20000 in
theorem ggL_law_X8_format : GoodIn wsL_law wsX8_format := goodIn_r _ [607, 608, 609, 123, 157, 158, 5, 159, 160, 161, 162, 163, 164, 560, 561, 562, 563, 416, 125, 266, 267, 268, 812, 813, 814, 815, 816, 817, 818, 819, 820, 821, 822, 823, 824] (by decide +kernel) (by decide +kernel)
set_option maxRecDepth 20000 in
theorem gL_law_X8_format : GoodIn wsL_law (wsV RL 138 RX8 yX8_format wsX8_format) := goodIn_app (goodIn_of _ (by decide +kernel)) ggL_law_X8_format
set_option maxRecDepth 20000 in
theorem ggL_law_L_set : GoodIn wsL_law wsL_set := goodIn_ca (goodIn_r _ [612, 136, 613, 614, 615, 2, 616, 142, 143, 26, 21, 617, 618, 619, 620, 621, 526, 527, 528, 25, 529, 313, 312, 530, 531, 532, 533, 109, 534, 535, 536, 20, 537, 42, 73, 74, 75, 76, 46, 50, 51, 55, 77, 78, 79, 80, 81, 82, 538, 539, 540, 45, 541, 59, 542, 87, 88, 89, 543, 544, 545, 49, 546, 330, 64, 373, 547, 548, 549, 54, 550, 68, 551, 100, 101, 102, 103, 94, 95, 622, 623, 624, 625, 806, 807, 808, 809, 810, 811, 838, 839, 840, 827, 828, 829, 830, 831, 832, 833, 834, 835, 836, 837, 843, 844, 845, 846, 847, 848, 849, 850, 851, 852, 853, 854, 855] (by decide +kernel) (by decide +kernel)) (goodIn_sub (fun _ h => List.mem_append_left _ (List.mem_append_left _ (List.mem_append_right _ h))) (by decide +kernel))
set_option maxRecDepth 20000 in
theorem gL_law_L_set : GoodIn wsL_law (va_wsS RL 139 yL_set wsL_set) := goodIn_app (goodIn_of _ (by decide +kernel)) ggL_law_L_set
set_option maxRecDepth 20000 in
theorem ggL_law_X8_set : GoodIn wsL_law wsX8_set := goodIn_r _ [629, 123, 630, 631, 5, 632, 608, 235, 633, 157, 158, 159, 160, 161, 162, 163, 164, 560, 561, 562, 563, 416, 125, 266, 267, 268, 812, 813, 814, 815, 816, 817, 818, 819, 820, 821, 822, 823, 824] (by decide +kernel) (by decide +kernel)
set_option maxRecDepth 20000 in
theorem gL_law_X8_set : GoodIn wsL_law (wsV RL 141 RX8 yX8_set wsX8_set) := goodIn_app (goodIn_of _ (by decide +kernel)) ggL_law_X8_set
set_option maxRecDepth 20000 in
theorem ggL_law_L_undo : GoodIn wsL_law wsL_undo := goodIn_ca (goodIn_r _ [636, 137, 637, 638, 639, 2, 640, 144, 145, 26, 21, 641, 642, 643, 25, 644, 313, 530, 531, 532, 533, 312, 109, 534, 535, 536, 20, 537, 42, 73, 74, 75, 76, 46, 50, 51, 55, 77, 78, 79, 80, 81, 82, 538, 539, 540, 45, 541, 59, 542, 87, 88, 89, 543, 544, 545, 49, 546, 330, 64, 373, 547, 548, 549, 54, 550, 68, 551, 100, 101, 102, 103, 94, 95, 806, 807, 808, 809, 810, 811, 838, 839, 840, 827, 828, 829, 830, 831, 832, 833, 834, 835, 836, 837, 843, 844, 845, 846, 847, 848, 849, 850, 851, 852, 853, 854, 855] (by decide +kernel) (by decide +kernel)) (goodIn_sub (fun _ h => List.mem_append_left _ (List.mem_append_right _ h)) (by decide +kernel))
set_option maxRecDepth 20000 in
theorem gL_law_L_undo : GoodIn wsL_law (va_wsS RL 142 yL_undo wsL_undo) := goodIn_app (goodIn_of _ (by decide +kernel)) ggL_law_L_undo
set_option maxRecDepth 20000 in
theorem ggL_law_X8_undo : GoodIn wsL_law wsX8_undo := goodIn_r _ [648, 416, 125, 123, 160, 161, 162, 5, 163, 164, 266, 267, 268, 812, 813, 814, 815, 816, 817, 818, 819, 820, 821, 822, 823, 824] (by decide +kernel) (by decide +kernel)
set_option maxRecDepth 20000 in
theorem gL_law_X8_undo : GoodIn wsL_law (wsV RL 144 RX8 yX8_undo wsX8_undo) := goodIn_app (goodIn_of _ (by decide +kernel)) ggL_law_X8_undo
set_option maxRecDepth 20000 in
theorem ggL_law_L_storedIn : GoodIn wsL_law wsL_storedIn := goodIn_ca (goodIn_r _ [651, 432, 652, 653, 654, 2, 655, 437, 438, 21, 22, 410, 360, 361, 49, 362, 330, 656, 535, 536, 20, 537, 42, 73, 74, 75, 76, 46, 50, 51, 55, 77, 78, 79, 80, 81, 82, 538, 539, 540, 45, 541, 59, 542, 87, 88, 89, 543, 544, 545, 546, 64, 373, 547, 548, 549, 54, 550, 68, 551, 100, 101, 102, 103, 94, 95, 335, 336, 337, 338, 339, 340, 341, 342, 343, 344, 345, 346, 347, 348, 349, 350, 351, 352, 353, 354, 326, 327, 328, 329, 331, 332, 333, 334, 355, 356, 357, 358, 359, 363, 324, 325, 364, 365, 366, 367, 368, 369, 370, 371, 372, 374, 375, 376, 377, 378, 379, 380, 381, 382, 383, 384, 385, 386, 387, 388, 389, 390, 391, 392, 393, 394, 395, 396, 397, 398, 399, 400, 401, 402, 403, 404, 405, 406, 407, 408, 409, 96, 97, 98, 99, 806, 807, 808, 809, 810, 811, 827, 828, 829, 830, 831, 832, 833, 834, 835, 836, 837, 847, 848, 843, 844, 845, 846, 849, 850, 851, 852, 853, 854, 855] (by decide +kernel) (by decide +kernel)) (goodIn_sub (fun _ h => List.mem_append_right _ h) (by decide +kernel))
set_option maxRecDepth 20000 in
theorem gL_law_L_storedIn : GoodIn wsL_law (va_wsS RL 145 yL_storedIn wsL_storedIn) := goodIn_app (goodIn_of _ (by decide +kernel)) ggL_law_L_storedIn
set_option maxRecDepth 20000 in
theorem ggL_law_X8_storedIn : GoodIn wsL_law wsX8_storedIn := goodIn_r _ [660, 124, 123, 465, 466, 467, 5, 468, 157, 158, 159, 160, 161, 162, 163, 164, 661, 662, 663, 664, 266, 267, 268, 272, 273, 274, 275, 276, 277, 278, 279, 280, 253, 254, 255, 281, 282, 283, 263, 264, 265, 284, 285, 286, 287, 288, 289, 290, 291, 292, 247, 248, 249, 260, 261, 262, 293, 294, 295, 665, 666, 667, 668, 812, 813, 814, 815, 816, 817, 818, 819, 820, 821, 822, 823, 824] (by decide +kernel) (by decide +kernel)
set_option maxRecDepth 20000 in
theorem gL_law_X8_storedIn : GoodIn wsL_law (wsV RL 147 RX8 yX8_storedIn wsX8_storedIn) := goodIn_app (goodIn_of _ (by decide +kernel)) ggL_law_X8_storedIn
set_option maxRecDepth 20000 in
theorem ggL_law_X7_least : GoodIn wsL_law wsX7_least := goodIn_r _ [672, 21, 673, 383, 384, 20, 385, 50, 347, 348, 349, 49, 350, 330, 64, 439, 806, 807, 808, 809, 810, 811, 827, 828, 829, 830, 831, 832, 833, 834, 835, 836, 837, 847, 848] (by decide +kernel) (by decide +kernel)
set_option maxRecDepth 20000 in
theorem gL_law_X7_least : GoodIn wsL_law (wsV RL 148 RX7 yX7_least wsX7_least) := goodIn_app (goodIn_of _ (by decide +kernel)) ggL_law_X7_least
set_option maxRecDepth 20000 in
theorem ggL_law_X8_least : GoodIn wsL_law wsX8_least := goodIn_r _ [677, 164, 123, 287, 288, 5, 289, 290, 291, 292, 263, 264, 265, 247, 248, 249, 812, 813, 814, 815, 816, 817, 818, 819, 820, 821, 822, 823, 824] (by decide +kernel) (by decide +kernel)
set_option maxRecDepth 20000 in
theorem gL_law_X8_least : GoodIn wsL_law (wsV RL 151 RX8 yX8_least wsX8_least) := goodIn_app (goodIn_of _ (by decide +kernel)) ggL_law_X8_least
set_option maxRecDepth 20000 in
theorem ggL_law_L_room : GoodIn wsL_law wsL_room := goodIn_ca (goodIn_r _ [680, 136, 681, 682, 683, 2, 684, 142, 143, 21, 806, 807, 808, 809, 810, 811, 827, 828, 829, 830, 831, 832, 833, 834, 835, 836, 837, 843, 844, 845, 846] (by decide +kernel) (by decide +kernel)) (goodIn_sub (fun _ h => List.mem_append_left _ (List.mem_append_left _ (List.mem_append_right _ h))) (by decide +kernel))
set_option maxRecDepth 20000 in
theorem gL_law_L_room : GoodIn wsL_law (va_wsS RL 152 yL_room wsL_room) := goodIn_app (goodIn_of _ (by decide +kernel)) ggL_law_L_room
set_option maxRecDepth 20000 in
theorem ggL_law_X8_room : GoodIn wsL_law wsX8_room := goodIn_r _ [688, 689, 123, 157, 158, 5, 159, 160, 161, 162, 163, 164, 278, 279, 280, 250, 251, 252, 812, 813, 814, 815, 816, 817, 818, 819, 820, 821, 822, 823, 824] (by decide +kernel) (by decide +kernel)
