set_option maxRecDepth 20000 in
theorem ggL_law_X11_was : GoodIn wsL_law wsX11_was := goodIn_r _ [439, 377, 138, 139, 440, 441, 442, 5, 443, 179, 444, 445, 446, 447, 744, 745, 746, 747, 748, 749, 750, 751, 752, 753, 754, 755, 756, 757, 758, 759, 760, 761, 762, 763, 764, 765, 766, 767, 768, 769, 770, 771, 772, 773, 774, 775, 776, 777, 778] (by decide +kernel) (by decide +kernel)
set_option maxRecDepth 20000 in
theorem gL_law_X11_was : GoodIn wsL_law (wsV RL 57 RX11 yX11_was wsX11_was) := goodIn_app (goodIn_of _ (by decide +kernel)) ggL_law_X11_was
set_option maxRecDepth 20000 in
theorem ggL_law_X10_behind : GoodIn wsL_law wsX10_behind := goodIn_r _ [451, 20, 424, 425, 426, 55, 427, 170, 452, 453, 454, 455, 74, 169, 738, 739, 740, 741, 742, 743, 782, 783, 784, 785, 786, 787, 788, 789, 790, 809, 810, 811, 812, 813, 814] (by decide +kernel) (by decide +kernel)
set_option maxRecDepth 20000 in
theorem gL_law_X10_behind : GoodIn wsL_law (wsV RL 58 RX10 yX10_behind wsX10_behind) := goodIn_app (goodIn_of _ (by decide +kernel)) ggL_law_X10_behind
set_option maxRecDepth 20000 in
theorem ggL_law_X11_behind : GoodIn wsL_law wsX11_behind := goodIn_r _ [459, 140, 440, 441, 442, 5, 443, 179, 444, 445, 446, 447, 744, 745, 746, 747, 748, 749, 750, 751, 752, 753, 754, 755, 756, 757, 758, 759, 760, 761, 762, 763, 764, 765, 766, 767, 768, 769, 770, 771, 772, 773, 774, 775, 776, 777, 778] (by decide +kernel) (by decide +kernel)
set_option maxRecDepth 20000 in
theorem gL_law_X11_behind : GoodIn wsL_law (wsV RL 61 RX11 yX11_behind wsX11_behind) := goodIn_app (goodIn_of _ (by decide +kernel)) ggL_law_X11_behind
set_option maxRecDepth 20000 in
theorem ggL_law_X10_missed : GoodIn wsL_law wsX10_missed := goodIn_r _ [463, 20, 16, 464, 465, 466, 55, 467, 170, 468, 469, 470, 471, 472, 429, 430, 431, 73, 169, 473, 433, 434, 435, 72, 738, 739, 740, 741, 742, 743, 782, 783, 784, 785, 786, 787, 788, 789, 790, 779, 780, 781, 809, 810, 811, 812, 813, 814] (by decide +kernel) (by decide +kernel)
set_option maxRecDepth 20000 in
theorem gL_law_X10_missed : GoodIn wsL_law (wsV RL 62 RX10 yX10_missed wsX10_missed) := goodIn_app (goodIn_of _ (by decide +kernel)) ggL_law_X10_missed
set_option maxRecDepth 20000 in
theorem ggL_law_X11_missed : GoodIn wsL_law wsX11_missed := goodIn_r _ [477, 138, 124, 139, 440, 441, 442, 5, 443, 179, 444, 445, 446, 447, 744, 745, 746, 747, 748, 749, 750, 751, 752, 753, 754, 755, 756, 757, 758, 759, 760, 761, 762, 763, 764, 765, 766, 767, 768, 769, 770, 771, 772, 773, 774, 775, 776, 777, 778] (by decide +kernel) (by decide +kernel)
set_option maxRecDepth 20000 in
theorem gL_law_X11_missed : GoodIn wsL_law (wsV RL 65 RX11 yX11_missed wsX11_missed) := goodIn_app (goodIn_of _ (by decide +kernel)) ggL_law_X11_missed
set_option maxRecDepth 20000 in
theorem ggL_law_X10_ring : GoodIn wsL_law wsX10_ring := goodIn_r _ [481, 24, 291, 292, 2, 293, 294, 247, 193, 194, 482, 483, 484, 23, 485, 486, 487, 488, 489, 490, 103, 101, 102, 491, 492, 493, 494, 301, 302, 61, 303, 86, 304, 305, 306, 307, 84, 308, 309, 310, 311, 312, 88, 85, 313, 314, 315, 15, 316, 42, 44, 41, 317, 318, 319, 320, 321, 322, 323, 324, 83, 87, 325, 326, 327, 82, 328, 222, 92, 96, 329, 330, 331, 332, 94, 95, 93, 333, 334, 335, 336, 337, 338, 339, 340, 265, 266, 267, 268, 495, 496, 497, 498, 499, 500, 501, 502, 738, 739, 740, 741, 742, 743, 791, 792, 793, 794, 782, 783, 784, 785, 786, 787, 788, 789, 790, 815, 816, 817, 818, 819, 820, 779, 780, 781, 821, 822, 823, 824, 825, 826] (by decide +kernel) (by decide +kernel)
set_option maxRecDepth 20000 in
theorem gL_law_X10_ring : GoodIn wsL_law (wsV RL 66 RX10 yX10_ring wsX10_ring) := goodIn_app (goodIn_of _ (by decide +kernel)) ggL_law_X10_ring
set_option maxRecDepth 20000 in
theorem ggL_law_X11_ring : GoodIn wsL_law wsX11_ring := goodIn_r _ [506, 126, 145, 142, 507, 378, 379, 5, 380, 381, 382, 387, 388, 389, 390, 133, 391, 392, 393, 394, 239, 395, 144, 143, 124, 242, 132, 130, 131, 129, 396, 397, 398, 399, 127, 125, 281, 282, 283, 284, 285, 508, 509, 510, 511, 744, 745, 746, 747, 748, 749, 750, 751, 752, 753, 754, 755, 756, 757, 758, 759, 760, 761, 762, 763, 764, 765, 766, 767, 768, 769, 770, 771, 772, 773, 774, 775, 776, 777, 778] (by decide +kernel) (by decide +kernel)
set_option maxRecDepth 20000 in
theorem gL_law_X11_ring : GoodIn wsL_law (wsV RL 69 RX11 yX11_ring wsX11_ring) := goodIn_app (goodIn_of _ (by decide +kernel)) ggL_law_X11_ring
set_option maxRecDepth 20000 in
theorem ggL_law_X10_tail : GoodIn wsL_law wsX10_tail := goodIn_r _ [515, 24, 738, 739, 740, 741, 742, 743, 791, 792, 793, 794] (by decide +kernel) (by decide +kernel)
set_option maxRecDepth 20000 in
theorem gL_law_X10_tail : GoodIn wsL_law (wsV RL 70 RX10 yX10_tail wsX10_tail) := goodIn_app (goodIn_of _ (by decide +kernel)) ggL_law_X10_tail
set_option maxRecDepth 20000 in
theorem ggL_law_X11_tail : GoodIn wsL_law wsX11_tail := goodIn_r _ [519, 507, 744, 745, 746, 747, 748, 749, 750, 751, 752, 753, 754, 755, 756, 757, 758, 759, 760, 761, 762, 763, 764, 765, 766, 767, 768, 769, 770, 771, 772, 773, 774, 775, 776, 777, 778] (by decide +kernel) (by decide +kernel)
set_option maxRecDepth 20000 in
theorem gL_law_X11_tail : GoodIn wsL_law (wsV RL 74 RX11 yX11_tail wsX11_tail) := goodIn_app (goodIn_of _ (by decide +kernel)) ggL_law_X11_tail
set_option maxRecDepth 20000 in
theorem ggL_law_X10_leaves : GoodIn wsL_law wsX10_leaves := goodIn_r _ [523, 24, 291, 292, 2, 293, 294, 247, 193, 194, 524, 525, 526, 23, 527, 103, 101, 491, 492, 493, 494, 301, 302, 61, 303, 86, 304, 305, 306, 307, 84, 308, 309, 310, 311, 312, 88, 85, 313, 314, 315, 15, 316, 42, 44, 41, 317, 318, 319, 320, 321, 322, 323, 324, 83, 87, 325, 326, 327, 82, 328, 222, 92, 96, 329, 330, 331, 332, 94, 95, 93, 333, 334, 335, 336, 337, 338, 339, 340, 265, 266, 267, 268, 528, 529, 530, 531, 738, 739, 740, 741, 742, 743, 791, 792, 793, 794, 782, 783, 784, 785, 786, 787, 788, 789, 790, 815, 816, 817, 818, 819, 820, 779, 780, 781, 821, 822, 823, 824, 825, 826] (by decide +kernel) (by decide +kernel)
set_option maxRecDepth 20000 in
theorem gL_law_X10_leaves : GoodIn wsL_law (wsV RL 75 RX10 yX10_leaves wsX10_leaves) := goodIn_app (goodIn_of _ (by decide +kernel)) ggL_law_X10_leaves
set_option maxRecDepth 20000 in
theorem ggL_law_X11_leaves : GoodIn wsL_law wsX11_leaves := goodIn_r _ [535, 126, 143, 378, 379, 5, 380, 381, 382, 387, 388, 389, 390, 142, 133, 391, 392, 393, 394, 239, 395, 144, 124, 242, 132, 130, 131, 129, 396, 397, 398, 399, 127, 125, 281, 282, 283, 284, 285, 508, 509, 510, 511, 744, 745, 746, 747, 748, 749, 750, 751, 752, 753, 754, 755, 756, 757, 758, 759, 760, 761, 762, 763, 764, 765, 766, 767, 768, 769, 770, 771, 772, 773, 774, 775, 776, 777, 778] (by decide +kernel) (by decide +kernel)
set_option maxRecDepth 20000 in
theorem gL_law_X11_leaves : GoodIn wsL_law (wsV RL 79 RX11 yX11_leaves wsX11_leaves) := goodIn_app (goodIn_of _ (by decide +kernel)) ggL_law_X11_leaves
set_option maxRecDepth 20000 in
theorem ggL_law_X10_box : GoodIn wsL_law wsX10_box := goodIn_r _ [539, 20, 28, 260, 261, 262, 61, 263, 87, 264, 265, 2, 266, 267, 268, 540, 541, 542, 27, 543, 107, 108, 738, 739, 740, 741, 742, 743, 782, 783, 784, 785, 786, 787, 788, 789, 790, 815, 816, 817, 818, 819, 820, 795, 796, 797, 798] (by decide +kernel) (by decide +kernel)
set_option maxRecDepth 20000 in
theorem gL_law_X10_box : GoodIn wsL_law (wsV RL 80 RX10 yX10_box wsX10_box) := goodIn_app (goodIn_of _ (by decide +kernel)) ggL_law_X10_box
set_option maxRecDepth 20000 in
theorem ggL_law_X11_box : GoodIn wsL_law wsX11_box := goodIn_r _ [547, 134, 135, 277, 278, 279, 5, 280, 126, 281, 282, 283, 284, 285, 744, 745, 746, 747, 748, 749, 750, 751, 752, 753, 754, 755, 756, 757, 758, 759, 760, 761, 762, 763, 764, 765, 766, 767, 768, 769, 770, 771, 772, 773, 774, 775, 776, 777, 778] (by decide +kernel) (by decide +kernel)
set_option maxRecDepth 20000 in
theorem gL_law_X11_box : GoodIn wsL_law (wsV RL 84 RX11 yX11_box wsX11_box) := goodIn_app (goodIn_of _ (by decide +kernel)) ggL_law_X11_box
set_option maxRecDepth 20000 in
theorem ggL_law_X10_kept : GoodIn wsL_law wsX10_kept := goodIn_r _ [551, 28, 20, 291, 292, 2, 293, 294, 247, 193, 194, 552, 553, 554, 27, 555, 556, 109, 107, 557, 558, 559, 560, 108, 561, 562, 563, 564, 565, 110, 566, 301, 302, 61, 303, 86, 304, 305, 306, 307, 84, 308, 309, 310, 311, 312, 88, 85, 313, 314, 315, 15, 316, 42, 44, 41, 317, 318, 319, 320, 321, 322, 323, 324, 83, 87, 325, 326, 327, 82, 328, 222, 92, 96, 329, 330, 331, 332, 94, 95, 93, 333, 334, 335, 336, 337, 338, 339, 340, 265, 266, 267, 268, 567, 568, 569, 570, 571, 572, 573, 574, 738, 739, 740, 741, 742, 743, 782, 783, 784, 785, 786, 787, 788, 789, 790, 815, 816, 817, 818, 819, 820, 795, 796, 797, 798, 779, 780, 781, 821, 822, 823, 824, 825, 826] (by decide +kernel) (by decide +kernel)
set_option maxRecDepth 20000 in
theorem gL_law_X10_kept : GoodIn wsL_law (wsV RL 85 RX10 yX10_kept wsX10_kept) := goodIn_app (goodIn_of _ (by decide +kernel)) ggL_law_X10_kept
set_option maxRecDepth 20000 in
theorem ggL_law_X11_kept_ : GoodIn wsL_law wsX11_kept_ := goodIn_r _ [578, 126, 135, 134, 579, 142, 143, 378, 379, 5, 380, 381, 382, 391, 392, 393, 394, 239, 395, 144, 124, 242, 132, 130, 131, 129, 396, 397, 398, 399, 127, 125, 281, 282, 283, 284, 285, 744, 745, 746, 747, 748, 749, 750, 751, 752, 753, 754, 755, 756, 757, 758, 759, 760, 761, 762, 763, 764, 765, 766, 767, 768, 769, 770, 771, 772, 773, 774, 775, 776, 777, 778] (by decide +kernel) (by decide +kernel)
set_option maxRecDepth 20000 in
theorem gL_law_X11_kept_ : GoodIn wsL_law (wsV RL 88 RX11 yX11_kept_ wsX11_kept_) := goodIn_app (goodIn_of _ (by decide +kernel)) ggL_law_X11_kept_
set_option maxRecDepth 20000 in
theorem ggL_law_X10_word : GoodIn wsL_law wsX10_word := goodIn_r _ [583, 16, 294, 584, 585, 586, 587, 738, 739, 740, 741, 742, 743, 779, 780, 781] (by decide +kernel) (by decide +kernel)
set_option maxRecDepth 20000 in
theorem gL_law_X10_word : GoodIn wsL_law (wsV RL 89 RX10 yX10_word wsX10_word) := goodIn_app (goodIn_of _ (by decide +kernel)) ggL_law_X10_word
set_option maxRecDepth 20000 in
theorem ggL_law_X11_word : GoodIn wsL_law wsX11_word := goodIn_r _ [591, 124, 382, 744, 745, 746, 747, 748, 749, 750, 751, 752, 753, 754, 755, 756, 757, 758, 759, 760, 761, 762, 763, 764, 765, 766, 767, 768, 769, 770, 771, 772, 773, 774, 775, 776, 777, 778] (by decide +kernel) (by decide +kernel)
set_option maxRecDepth 20000 in
theorem gL_law_X11_word : GoodIn wsL_law (wsV RL 92 RX11 yX11_word wsX11_word) := goodIn_app (goodIn_of _ (by decide +kernel)) ggL_law_X11_word
set_option maxRecDepth 20000 in
theorem ggL_law_X10_even : GoodIn wsL_law wsX10_even := goodIn_r _ [595, 20, 464, 465, 466, 55, 467, 170, 596, 597, 598, 599, 75, 472, 429, 430, 431, 73, 169, 600, 601, 602, 603, 349, 350, 351, 352, 604, 359, 360, 738, 739, 740, 741, 742, 743, 782, 783, 784, 785, 786, 787, 788, 789, 790, 809, 810, 811, 812, 813, 814] (by decide +kernel) (by decide +kernel)
set_option maxRecDepth 20000 in
theorem gL_law_X10_even : GoodIn wsL_law (wsV RL 93 RX10 yX10_even wsX10_even) := goodIn_app (goodIn_of _ (by decide +kernel)) ggL_law_X10_even
set_option maxRecDepth 20000 in
theorem ggL_law_X11_even : GoodIn wsL_law wsX11_even := goodIn_r _ [608, 284, 285, 138, 440, 441, 442, 5, 443, 179, 444, 445, 446, 447, 744, 745, 746, 747, 748, 749, 750, 751, 752, 753, 754, 755, 756, 757, 758, 759, 760, 761, 762, 763, 764, 765, 766, 767, 768, 769, 770, 771, 772, 773, 774, 775, 776, 777, 778] (by decide +kernel) (by decide +kernel)
set_option maxRecDepth 20000 in
theorem gL_law_X11_even : GoodIn wsL_law (wsV RL 96 RX11 yX11_even wsX11_even) := goodIn_app (goodIn_of _ (by decide +kernel)) ggL_law_X11_even
