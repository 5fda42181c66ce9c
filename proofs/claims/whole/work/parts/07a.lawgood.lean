set_option maxRecDepth 20000 in
theorem ggL_law_X10_init : GoodIn wsL_law wsX10_init := goodIn_r _ [9, 10, 11, 12, 13, 14, 15, 16, 17, 18, 19, 20, 21, 22, 23, 24, 25, 26, 27, 28, 29, 30, 31, 32, 33, 34, 35, 36, 37, 38, 39, 40, 41, 42, 43, 44, 45, 46, 47, 48, 49, 50, 51, 52, 53, 54, 55, 56, 57, 58, 59, 60, 61, 62, 63, 64, 65, 66, 67, 68, 69, 70, 71, 72, 73, 74, 75, 76, 77, 78, 79, 80, 81, 82, 83, 84, 85, 86, 87, 88, 89, 90, 91, 92, 93, 94, 95, 96, 97, 98, 99, 100, 101, 102, 103, 104, 105, 106, 107, 108, 109, 110, 111, 112, 113, 114, 115, 116, 117, 118, 119, 779, 780, 781, 738, 739, 740, 741, 742, 743, 782, 783, 784, 785, 786, 787, 788, 789, 790, 791, 792, 793, 794, 795, 796, 797, 798, 799, 800, 801, 802, 803, 804, 805, 806, 807, 808, 809, 810, 811, 812, 813, 814, 815, 816, 817, 818, 819, 820, 821, 822, 823, 824, 825, 826] (by decide +kernel) (by decide +kernel)
set_option maxRecDepth 20000 in
theorem gL_law_X10_init : GoodIn wsL_law (wsX10_init) := ggL_law_X10_init
set_option maxRecDepth 20000 in
theorem ggL_law_X11_init : GoodIn wsL_law wsX11_init := goodIn_r _ [122, 123, 11, 12, 124, 125, 126, 43, 127, 128, 129, 130, 131, 132, 57, 133, 134, 135, 136, 137, 138, 139, 140, 141, 142, 143, 144, 145, 146, 744, 745, 746, 747, 748, 749, 750, 751, 752, 753, 754, 755, 756, 757, 758, 759, 760, 761, 762, 763, 764, 765, 766, 767, 768, 769, 770, 771, 772, 773, 774, 775, 776, 777, 778] (by decide +kernel) (by decide +kernel)
set_option maxRecDepth 20000 in
theorem gL_law_X11_init : GoodIn wsL_law (wsX11_init) := ggL_law_X11_init
set_option maxRecDepth 20000 in
theorem ggL_law_X10_over : GoodIn wsL_law wsX10_over := goodIn_r _ [150, 16, 20, 151, 152, 153, 19, 154, 58, 155, 156, 157, 158, 159, 52, 56, 160, 161, 162, 51, 163, 164, 67, 68, 165, 166, 167, 55, 168, 169, 170, 738, 739, 740, 741, 742, 743, 779, 780, 781, 782, 783, 784, 785, 786, 787, 788, 789, 790, 804, 805, 806, 807, 808, 809, 810, 811, 812, 813, 814] (by decide +kernel) (by decide +kernel)
set_option maxRecDepth 20000 in
theorem gL_law_X10_over : GoodIn wsL_law (wsV RL 13 RX10 yX10_over wsX10_over) := goodIn_app (goodIn_of _ (by decide +kernel)) ggL_law_X10_over
set_option maxRecDepth 20000 in
theorem ggL_law_X11_over : GoodIn wsL_law wsX11_over := goodIn_r _ [174, 124, 175, 176, 177, 5, 178, 133, 136, 137, 179, 180, 181, 182, 183, 184, 744, 745, 746, 747, 748, 749, 750, 751, 752, 753, 754, 755, 756, 757, 758, 759, 760, 761, 762, 763, 764, 765, 766, 767, 768, 769, 770, 771, 772, 773, 774, 775, 776, 777, 778] (by decide +kernel) (by decide +kernel)
set_option maxRecDepth 20000 in
theorem gL_law_X11_over : GoodIn wsL_law (wsV RL 17 RX11 yX11_over wsX11_over) := goodIn_app (goodIn_of _ (by decide +kernel)) ggL_law_X11_over
set_option maxRecDepth 20000 in
theorem ggL_law_X10_steps : GoodIn wsL_law wsX10_steps := goodIn_r _ [188, 43, 16, 20, 189, 190, 191, 15, 192, 193, 2, 194, 195, 196, 197, 198, 42, 44, 151, 152, 153, 19, 154, 58, 155, 156, 157, 158, 159, 52, 56, 160, 161, 162, 51, 163, 164, 67, 68, 165, 166, 167, 55, 168, 169, 170, 738, 739, 740, 741, 742, 743, 779, 780, 781, 782, 783, 784, 785, 786, 787, 788, 789, 790, 804, 805, 806, 807, 808, 809, 810, 811, 812, 813, 814] (by decide +kernel) (by decide +kernel)
set_option maxRecDepth 20000 in
theorem gL_law_X10_steps : GoodIn wsL_law (wsV RL 18 RX10 yX10_steps wsX10_steps) := goodIn_app (goodIn_of _ (by decide +kernel)) ggL_law_X10_steps
set_option maxRecDepth 20000 in
theorem ggL_law_X11_steps : GoodIn wsL_law wsX11_steps := goodIn_r _ [202, 128, 127, 125, 175, 176, 177, 5, 178, 133, 136, 137, 179, 180, 181, 182, 183, 184, 744, 745, 746, 747, 748, 749, 750, 751, 752, 753, 754, 755, 756, 757, 758, 759, 760, 761, 762, 763, 764, 765, 766, 767, 768, 769, 770, 771, 772, 773, 774, 775, 776, 777, 778] (by decide +kernel) (by decide +kernel)
set_option maxRecDepth 20000 in
theorem gL_law_X11_steps : GoodIn wsL_law (wsV RL 22 RX11 yX11_steps wsX11_steps) := goodIn_app (goodIn_of _ (by decide +kernel)) ggL_law_X11_steps
set_option maxRecDepth 20000 in
theorem ggL_law_X10_loop : GoodIn wsL_law wsX10_loop := goodIn_r _ [206, 20, 28, 207, 208, 2, 209, 210, 211, 212, 19, 213, 62, 52, 214, 215, 216, 61, 217, 86, 87, 83, 218, 219, 220, 82, 221, 92, 222, 93, 94, 95, 96, 223, 224, 225, 51, 226, 227, 228, 229, 161, 162, 163, 164, 67, 68, 230, 152, 153, 154, 58, 155, 156, 157, 158, 159, 56, 160, 165, 166, 167, 55, 168, 169, 170, 231, 232, 233, 27, 234, 107, 108, 738, 739, 740, 741, 742, 743, 782, 783, 784, 785, 786, 787, 788, 789, 790, 815, 816, 817, 818, 819, 820, 821, 822, 823, 824, 825, 826, 804, 805, 806, 807, 808, 809, 810, 811, 812, 813, 814, 795, 796, 797, 798] (by decide +kernel) (by decide +kernel)
set_option maxRecDepth 20000 in
theorem gL_law_X10_loop : GoodIn wsL_law (wsV RL 23 RX10 yX10_loop wsX10_loop) := goodIn_app (goodIn_of _ (by decide +kernel)) ggL_law_X10_loop
set_option maxRecDepth 20000 in
theorem ggL_law_X11_loop : GoodIn wsL_law wsX11_loop := goodIn_r _ [238, 126, 134, 135, 239, 240, 241, 129, 130, 131, 132, 242, 175, 176, 177, 5, 178, 133, 136, 137, 179, 180, 181, 182, 183, 184, 744, 745, 746, 747, 748, 749, 750, 751, 752, 753, 754, 755, 756, 757, 758, 759, 760, 761, 762, 763, 764, 765, 766, 767, 768, 769, 770, 771, 772, 773, 774, 775, 776, 777, 778] (by decide +kernel) (by decide +kernel)
set_option maxRecDepth 20000 in
theorem gL_law_X11_loop : GoodIn wsL_law (wsV RL 27 RX11 yX11_loop wsX11_loop) := goodIn_app (goodIn_of _ (by decide +kernel)) ggL_law_X11_loop
set_option maxRecDepth 20000 in
theorem ggL_law_X10_table : GoodIn wsL_law wsX10_table := goodIn_r _ [246, 20, 247, 193, 2, 194, 248, 249, 250, 82, 251, 92, 93, 94, 95, 96, 222, 151, 152, 153, 19, 154, 58, 155, 156, 157, 158, 159, 52, 56, 160, 161, 162, 51, 163, 164, 67, 68, 165, 166, 167, 55, 168, 169, 170, 738, 739, 740, 741, 742, 743, 782, 783, 784, 785, 786, 787, 788, 789, 790, 815, 816, 817, 818, 819, 820, 821, 822, 823, 824, 825, 826, 804, 805, 806, 807, 808, 809, 810, 811, 812, 813, 814] (by decide +kernel) (by decide +kernel)
set_option maxRecDepth 20000 in
theorem gL_law_X10_table : GoodIn wsL_law (wsV RL 28 RX10 yX10_table wsX10_table) := goodIn_app (goodIn_of _ (by decide +kernel)) ggL_law_X10_table
set_option maxRecDepth 20000 in
theorem ggL_law_X11_table : GoodIn wsL_law wsX11_table := goodIn_r _ [255, 239, 126, 129, 130, 131, 132, 242, 175, 176, 177, 5, 178, 133, 136, 137, 179, 180, 181, 182, 183, 184, 744, 745, 746, 747, 748, 749, 750, 751, 752, 753, 754, 755, 756, 757, 758, 759, 760, 761, 762, 763, 764, 765, 766, 767, 768, 769, 770, 771, 772, 773, 774, 775, 776, 777, 778] (by decide +kernel) (by decide +kernel)
set_option maxRecDepth 20000 in
theorem gL_law_X11_table : GoodIn wsL_law (wsV RL 31 RX11 yX11_table wsX11_table) := goodIn_app (goodIn_of _ (by decide +kernel)) ggL_law_X11_table
set_option maxRecDepth 20000 in
theorem ggL_law_X10_start : GoodIn wsL_law wsX10_start := goodIn_r _ [259, 20, 260, 261, 262, 61, 263, 87, 264, 265, 2, 266, 267, 268, 269, 270, 271, 19, 272, 58, 156, 738, 739, 740, 741, 742, 743, 782, 783, 784, 785, 786, 787, 788, 789, 790, 815, 816, 817, 818, 819, 820] (by decide +kernel) (by decide +kernel)
set_option maxRecDepth 20000 in
theorem gL_law_X10_start : GoodIn wsL_law (wsV RL 34 RX10 yX10_start wsX10_start) := goodIn_app (goodIn_of _ (by decide +kernel)) ggL_law_X10_start
set_option maxRecDepth 20000 in
theorem ggL_law_X11_start : GoodIn wsL_law wsX11_start := goodIn_r _ [276, 179, 133, 184, 277, 278, 279, 5, 280, 126, 281, 282, 283, 284, 285, 744, 745, 746, 747, 748, 749, 750, 751, 752, 753, 754, 755, 756, 757, 758, 759, 760, 761, 762, 763, 764, 765, 766, 767, 768, 769, 770, 771, 772, 773, 774, 775, 776, 777, 778] (by decide +kernel) (by decide +kernel)
set_option maxRecDepth 20000 in
theorem gL_law_X11_start : GoodIn wsL_law (wsV RL 38 RX11 yX11_start wsX11_start) := goodIn_app (goodIn_of _ (by decide +kernel)) ggL_law_X11_start
set_option maxRecDepth 20000 in
theorem ggL_law_X10_tick : GoodIn wsL_law wsX10_tick := goodIn_r _ [289, 20, 290, 291, 292, 2, 293, 294, 247, 193, 194, 295, 296, 297, 19, 298, 62, 58, 299, 155, 56, 52, 300, 301, 302, 61, 303, 86, 304, 305, 306, 307, 84, 308, 309, 310, 311, 312, 88, 85, 313, 314, 315, 15, 316, 42, 44, 41, 317, 318, 319, 320, 321, 322, 323, 324, 83, 87, 325, 326, 327, 82, 328, 222, 92, 96, 329, 330, 331, 332, 94, 95, 93, 333, 334, 335, 336, 337, 338, 339, 340, 265, 266, 267, 268, 341, 342, 343, 344, 157, 158, 159, 345, 346, 347, 55, 348, 72, 169, 73, 74, 170, 349, 350, 351, 352, 353, 354, 355, 51, 356, 227, 357, 358, 359, 360, 67, 228, 361, 362, 363, 364, 164, 365, 366, 367, 368, 68, 369, 370, 371, 372, 738, 739, 740, 741, 742, 743, 782, 783, 784, 785, 786, 787, 788, 789, 790, 815, 816, 817, 818, 819, 820, 779, 780, 781, 821, 822, 823, 824, 825, 826, 809, 810, 811, 812, 813, 814, 804, 805, 806, 807, 808] (by decide +kernel) (by decide +kernel)
set_option maxRecDepth 20000 in
theorem gL_law_X10_tick : GoodIn wsL_law (wsV RL 39 RX10 yX10_tick wsX10_tick) := goodIn_app (goodIn_of _ (by decide +kernel)) ggL_law_X10_tick
set_option maxRecDepth 20000 in
theorem ggL_law_X11_tick : GoodIn wsL_law wsX11_tick := goodIn_r _ [376, 138, 179, 377, 378, 379, 5, 380, 381, 382, 383, 384, 385, 386, 144, 239, 126, 181, 182, 183, 133, 143, 139, 140, 387, 388, 389, 390, 142, 391, 392, 393, 394, 395, 124, 242, 132, 130, 131, 129, 396, 397, 398, 399, 127, 125, 281, 282, 283, 284, 285, 400, 401, 402, 403, 241, 136, 240, 180, 137, 744, 745, 746, 747, 748, 749, 750, 751, 752, 753, 754, 755, 756, 757, 758, 759, 760, 761, 762, 763, 764, 765, 766, 767, 768, 769, 770, 771, 772, 773, 774, 775, 776, 777, 778] (by decide +kernel) (by decide +kernel)
set_option maxRecDepth 20000 in
theorem gL_law_X11_tick : GoodIn wsL_law (wsV RL 43 RX11 yX11_tick wsX11_tick) := goodIn_app (goodIn_of _ (by decide +kernel)) ggL_law_X11_tick
set_option maxRecDepth 20000 in
theorem ggL_law_X10_run : GoodIn wsL_law wsX10_run := goodIn_r _ [407, 20, 290, 291, 292, 2, 293, 294, 247, 193, 194, 295, 296, 297, 19, 298, 62, 58, 299, 155, 56, 52, 300, 301, 302, 61, 303, 86, 304, 305, 306, 307, 84, 308, 309, 310, 311, 312, 88, 85, 313, 314, 315, 15, 316, 42, 44, 41, 317, 318, 319, 320, 321, 322, 323, 324, 83, 87, 325, 326, 327, 82, 328, 222, 92, 96, 329, 330, 331, 332, 94, 95, 93, 333, 334, 335, 336, 337, 338, 339, 340, 265, 266, 267, 268, 341, 342, 343, 344, 157, 158, 159, 345, 346, 347, 55, 348, 72, 169, 73, 74, 170, 349, 350, 351, 352, 353, 354, 355, 51, 356, 227, 357, 358, 359, 360, 67, 228, 361, 362, 363, 364, 164, 365, 366, 367, 368, 68, 369, 370, 371, 372, 738, 739, 740, 741, 742, 743, 782, 783, 784, 785, 786, 787, 788, 789, 790, 815, 816, 817, 818, 819, 820, 779, 780, 781, 821, 822, 823, 824, 825, 826, 809, 810, 811, 812, 813, 814, 804, 805, 806, 807, 808] (by decide +kernel) (by decide +kernel)
set_option maxRecDepth 20000 in
theorem gL_law_X10_run : GoodIn wsL_law (wsV RL 44 RX10 yX10_run wsX10_run) := goodIn_app (goodIn_of _ (by decide +kernel)) ggL_law_X10_run
set_option maxRecDepth 20000 in
theorem ggL_law_X11_run : GoodIn wsL_law wsX11_run := goodIn_r _ [411, 378, 379, 5, 380, 381, 382, 383, 384, 385, 386, 144, 239, 126, 181, 182, 183, 133, 143, 138, 179, 139, 140, 387, 388, 389, 390, 142, 391, 392, 393, 394, 395, 124, 242, 132, 130, 131, 129, 396, 397, 398, 399, 127, 125, 281, 282, 283, 284, 285, 400, 401, 402, 403, 241, 136, 240, 180, 137, 744, 745, 746, 747, 748, 749, 750, 751, 752, 753, 754, 755, 756, 757, 758, 759, 760, 761, 762, 763, 764, 765, 766, 767, 768, 769, 770, 771, 772, 773, 774, 775, 776, 777, 778] (by decide +kernel) (by decide +kernel)
set_option maxRecDepth 20000 in
theorem gL_law_X11_run : GoodIn wsL_law (wsV RL 48 RX11 yX11_run wsX11_run) := goodIn_app (goodIn_of _ (by decide +kernel)) ggL_law_X11_run
set_option maxRecDepth 20000 in
theorem ggL_law_X10_sum : GoodIn wsL_law wsX10_sum := goodIn_r _ [415, 20, 260, 261, 262, 61, 263, 87, 738, 739, 740, 741, 742, 743, 782, 783, 784, 785, 786, 787, 788, 789, 790, 815, 816, 817, 818, 819, 820] (by decide +kernel) (by decide +kernel)
set_option maxRecDepth 20000 in
theorem gL_law_X10_sum : GoodIn wsL_law (wsV RL 49 RX10 yX10_sum wsX10_sum) := goodIn_app (goodIn_of _ (by decide +kernel)) ggL_law_X10_sum
set_option maxRecDepth 20000 in
theorem ggL_law_X11_sum : GoodIn wsL_law wsX11_sum := goodIn_r _ [419, 133, 277, 278, 279, 5, 280, 126, 744, 745, 746, 747, 748, 749, 750, 751, 752, 753, 754, 755, 756, 757, 758, 759, 760, 761, 762, 763, 764, 765, 766, 767, 768, 769, 770, 771, 772, 773, 774, 775, 776, 777, 778] (by decide +kernel) (by decide +kernel)
set_option maxRecDepth 20000 in
theorem gL_law_X11_sum : GoodIn wsL_law (wsV RL 53 RX11 yX11_sum wsX11_sum) := goodIn_app (goodIn_of _ (by decide +kernel)) ggL_law_X11_sum
set_option maxRecDepth 20000 in
theorem ggL_law_X10_was : GoodIn wsL_law wsX10_was := goodIn_r _ [423, 20, 290, 424, 425, 426, 55, 427, 170, 428, 429, 430, 431, 73, 169, 432, 433, 434, 435, 72, 738, 739, 740, 741, 742, 743, 782, 783, 784, 785, 786, 787, 788, 789, 790, 809, 810, 811, 812, 813, 814] (by decide +kernel) (by decide +kernel)
set_option maxRecDepth 20000 in
theorem gL_law_X10_was : GoodIn wsL_law (wsV RL 54 RX10 yX10_was wsX10_was) := goodIn_app (goodIn_of _ (by decide +kernel)) ggL_law_X10_was
