set_option maxRecDepth 20000 in
theorem ggL_law_X10_weight : GoodIn wsL_law wsX10_weight := goodIn_r _ [612, 32, 247, 193, 2, 194, 613, 614, 615, 31, 616, 617, 114, 738, 739, 740, 741, 742, 743, 799, 800] (by decide +kernel) (by decide +kernel)
set_option maxRecDepth 20000 in
theorem gL_law_X10_weight : GoodIn wsL_law (wsV RL 97 RX10 yX10_weight wsX10_weight) := goodIn_app (goodIn_of _ (by decide +kernel)) ggL_law_X10_weight
set_option maxRecDepth 20000 in
theorem ggL_law_X11_weight : GoodIn wsL_law wsX11_weight := goodIn_r _ [621, 622, 141, 744, 745, 746, 747, 748, 749, 750, 751, 752, 753, 754, 755, 756, 757, 758, 759, 760, 761, 762, 763, 764, 765, 766, 767, 768, 769, 770, 771, 772, 773, 774, 775, 776, 777, 778] (by decide +kernel) (by decide +kernel)
set_option maxRecDepth 20000 in
theorem gL_law_X11_weight : GoodIn wsL_law (wsV RL 100 RX11 yX11_weight wsX11_weight) := goodIn_app (goodIn_of _ (by decide +kernel)) ggL_law_X11_weight
set_option maxRecDepth 20000 in
theorem ggL_law_X10_clear : GoodIn wsL_law wsX10_clear := goodIn_r _ [626, 32, 627, 628, 629, 31, 630, 617, 738, 739, 740, 741, 742, 743, 799, 800] (by decide +kernel) (by decide +kernel)
set_option maxRecDepth 20000 in
theorem gL_law_X10_clear : GoodIn wsL_law (wsV RL 101 RX10 yX10_clear wsX10_clear) := goodIn_app (goodIn_of _ (by decide +kernel)) ggL_law_X10_clear
set_option maxRecDepth 20000 in
theorem ggL_law_X11_clear : GoodIn wsL_law wsX11_clear := goodIn_r _ [634, 622, 744, 745, 746, 747, 748, 749, 750, 751, 752, 753, 754, 755, 756, 757, 758, 759, 760, 761, 762, 763, 764, 765, 766, 767, 768, 769, 770, 771, 772, 773, 774, 775, 776, 777, 778] (by decide +kernel) (by decide +kernel)
set_option maxRecDepth 20000 in
theorem gL_law_X11_clear : GoodIn wsL_law (wsV RL 104 RX11 yX11_clear wsX11_clear) := goodIn_app (goodIn_of _ (by decide +kernel)) ggL_law_X11_clear
set_option maxRecDepth 20000 in
theorem ggL_law_X10_read : GoodIn wsL_law wsX10_read := goodIn_r _ [638, 32, 20, 639, 640, 641, 31, 642, 617, 114, 643, 425, 426, 55, 427, 170, 644, 429, 430, 431, 73, 169, 738, 739, 740, 741, 742, 743, 782, 783, 784, 785, 786, 787, 788, 789, 790, 799, 800, 809, 810, 811, 812, 813, 814] (by decide +kernel) (by decide +kernel)
set_option maxRecDepth 20000 in
theorem gL_law_X10_read : GoodIn wsL_law (wsV RL 105 RX10 yX10_read wsX10_read) := goodIn_app (goodIn_of _ (by decide +kernel)) ggL_law_X10_read
set_option maxRecDepth 20000 in
theorem ggL_law_X11_read : GoodIn wsL_law wsX11_read := goodIn_r _ [648, 622, 141, 138, 440, 441, 442, 5, 443, 179, 444, 445, 446, 447, 744, 745, 746, 747, 748, 749, 750, 751, 752, 753, 754, 755, 756, 757, 758, 759, 760, 761, 762, 763, 764, 765, 766, 767, 768, 769, 770, 771, 772, 773, 774, 775, 776, 777, 778] (by decide +kernel) (by decide +kernel)
set_option maxRecDepth 20000 in
theorem gL_law_X11_read : GoodIn wsL_law (wsV RL 109 RX11 yX11_read wsX11_read) := goodIn_app (goodIn_of _ (by decide +kernel)) ggL_law_X11_read
set_option maxRecDepth 20000 in
theorem ggL_law_X10_back : GoodIn wsL_law wsX10_back := goodIn_r _ [652, 20, 290, 36, 653, 654, 655, 19, 656, 62, 156, 155, 56, 657, 465, 466, 55, 467, 170, 658, 659, 660, 35, 661, 662, 663, 664, 665, 119, 666, 667, 351, 668, 669, 670, 671, 672, 429, 430, 431, 73, 169, 673, 314, 315, 15, 316, 42, 44, 41, 674, 585, 586, 587, 675, 318, 319, 320, 738, 739, 740, 741, 742, 743, 782, 783, 784, 785, 786, 787, 788, 789, 790, 801, 802, 803, 815, 816, 817, 818, 819, 820, 809, 810, 811, 812, 813, 814, 779, 780, 781] (by decide +kernel) (by decide +kernel)
set_option maxRecDepth 20000 in
theorem gL_law_X10_back : GoodIn wsL_law (wsV RL 110 RX10 yX10_back wsX10_back) := goodIn_app (goodIn_of _ (by decide +kernel)) ggL_law_X10_back
set_option maxRecDepth 20000 in
theorem ggL_law_X11_back : GoodIn wsL_law wsX11_back := goodIn_r _ [679, 179, 239, 184, 377, 680, 681, 138, 127, 124, 125, 682, 683, 5, 684, 744, 745, 746, 747, 748, 749, 750, 751, 752, 753, 754, 755, 756, 757, 758, 759, 760, 761, 762, 763, 764, 765, 766, 767, 768, 769, 770, 771, 772, 773, 774, 775, 776, 777, 778] (by decide +kernel) (by decide +kernel)
set_option maxRecDepth 20000 in
theorem gL_law_X11_back : GoodIn wsL_law (wsV RL 113 RX11 yX11_back wsX11_back) := goodIn_app (goodIn_of _ (by decide +kernel)) ggL_law_X11_back
set_option maxRecDepth 20000 in
theorem ggL_law_X10_range : GoodIn wsL_law wsX10_range := goodIn_r _ [688, 36, 291, 292, 2, 293, 294, 247, 193, 194, 689, 690, 691, 35, 692, 693, 694, 695, 696, 697, 119, 669, 670, 351, 671, 673, 314, 315, 15, 316, 42, 44, 41, 675, 318, 319, 320, 674, 585, 586, 587, 738, 739, 740, 741, 742, 743, 801, 802, 803, 779, 780, 781] (by decide +kernel) (by decide +kernel)
set_option maxRecDepth 20000 in
theorem gL_law_X10_range : GoodIn wsL_law (wsV RL 114 RX10 yX10_range wsX10_range) := goodIn_app (goodIn_of _ (by decide +kernel)) ggL_law_X10_range
set_option maxRecDepth 20000 in
theorem ggL_law_X11_range : GoodIn wsL_law wsX11_range := goodIn_r _ [701, 124, 146, 378, 379, 5, 380, 381, 382, 396, 397, 398, 399, 127, 125, 744, 745, 746, 747, 748, 749, 750, 751, 752, 753, 754, 755, 756, 757, 758, 759, 760, 761, 762, 763, 764, 765, 766, 767, 768, 769, 770, 771, 772, 773, 774, 775, 776, 777, 778] (by decide +kernel) (by decide +kernel)
set_option maxRecDepth 20000 in
theorem gL_law_X11_range : GoodIn wsL_law (wsV RL 118 RX11 yX11_range wsX11_range) := goodIn_app (goodIn_of _ (by decide +kernel)) ggL_law_X11_range
set_option maxRecDepth 20000 in
theorem ggL_law_X10_part : GoodIn wsL_law wsX10_part := goodIn_r _ [705, 20, 738, 739, 740, 741, 742, 743, 782, 783, 784, 785, 786, 787, 788, 789, 790, 804, 805, 806, 807, 808] (by decide +kernel) (by decide +kernel)
set_option maxRecDepth 20000 in
theorem gL_law_X10_part : GoodIn wsL_law (wsV RL 119 RX10 yX10_part wsX10_part) := goodIn_app (goodIn_of _ (by decide +kernel)) ggL_law_X10_part
set_option maxRecDepth 20000 in
theorem ggL_law_X11_part : GoodIn wsL_law wsX11_part := goodIn_r _ [709, 241, 136, 137, 744, 745, 746, 747, 748, 749, 750, 751, 752, 753, 754, 755, 756, 757, 758, 759, 760, 761, 762, 763, 764, 765, 766, 767, 768, 769, 770, 771, 772, 773, 774, 775, 776, 777, 778] (by decide +kernel) (by decide +kernel)
set_option maxRecDepth 20000 in
theorem gL_law_X11_part : GoodIn wsL_law (wsV RL 122 RX11 yX11_part wsX11_part) := goodIn_app (goodIn_of _ (by decide +kernel)) ggL_law_X11_part
set_option maxRecDepth 20000 in
theorem ggL_law_X10_spread : GoodIn wsL_law wsX10_spread := goodIn_r _ [713, 20, 714, 715, 716, 51, 717, 68, 227, 357, 350, 351, 352, 358, 359, 360, 738, 739, 740, 741, 742, 743, 782, 783, 784, 785, 786, 787, 788, 789, 790, 815, 816, 817, 818, 819, 820, 804, 805, 806, 807, 808] (by decide +kernel) (by decide +kernel)
set_option maxRecDepth 20000 in
theorem gL_law_X10_spread : GoodIn wsL_law (wsV RL 123 RX10 yX10_spread wsX10_spread) := goodIn_app (goodIn_of _ (by decide +kernel)) ggL_law_X10_spread
set_option maxRecDepth 20000 in
theorem ggL_law_X11_spread : GoodIn wsL_law wsX11_spread := goodIn_r _ [721, 239, 137, 241, 744, 745, 746, 747, 748, 749, 750, 751, 752, 753, 754, 755, 756, 757, 758, 759, 760, 761, 762, 763, 764, 765, 766, 767, 768, 769, 770, 771, 772, 773, 774, 775, 776, 777, 778] (by decide +kernel) (by decide +kernel)
set_option maxRecDepth 20000 in
theorem gL_law_X11_spread : GoodIn wsL_law (wsV RL 126 RX11 yX11_spread wsX11_spread) := goodIn_app (goodIn_of _ (by decide +kernel)) ggL_law_X11_spread
set_option maxRecDepth 20000 in
theorem ggL_law_X10_about : GoodIn wsL_law wsX10_about := goodIn_r _ [725, 16, 20, 32, 738, 739, 740, 741, 742, 743, 779, 780, 781, 782, 783, 784, 785, 786, 787, 788, 789, 790, 815, 816, 817, 818, 819, 820, 804, 805, 806, 807, 808, 809, 810, 811, 812, 813, 814, 799, 800] (by decide +kernel) (by decide +kernel)
set_option maxRecDepth 20000 in
theorem gL_law_X10_about : GoodIn wsL_law (wsV RL 127 RX10 yX10_about wsX10_about) := goodIn_app (goodIn_of _ (by decide +kernel)) ggL_law_X10_about
set_option maxRecDepth 20000 in
theorem ggL_law_X11_about : GoodIn wsL_law wsX11_about := goodIn_r _ [729, 124, 125, 239, 126, 241, 179, 622, 180, 440, 441, 442, 5, 443, 744, 745, 746, 747, 748, 749, 750, 751, 752, 753, 754, 755, 756, 757, 758, 759, 760, 761, 762, 763, 764, 765, 766, 767, 768, 769, 770, 771, 772, 773, 774, 775, 776, 777, 778] (by decide +kernel) (by decide +kernel)
set_option maxRecDepth 20000 in
theorem gL_law_X11_about : GoodIn wsL_law (wsV RL 130 RX11 yX11_about wsX11_about) := goodIn_app (goodIn_of _ (by decide +kernel)) ggL_law_X11_about
set_option maxRecDepth 20000 in
theorem ggL_law_X10_step : GoodIn wsL_law wsX10_step := goodIn_r _ [733, 16, 290, 738, 739, 740, 741, 742, 743, 779, 780, 781] (by decide +kernel) (by decide +kernel)
set_option maxRecDepth 20000 in
theorem gL_law_X10_step : GoodIn wsL_law (wsV RL 131 RX10 yX10_step wsX10_step) := goodIn_app (goodIn_of _ (by decide +kernel)) ggL_law_X10_step
set_option maxRecDepth 20000 in
theorem ggL_law_X11_step : GoodIn wsL_law wsX11_step := goodIn_r _ [737, 125, 377, 127, 744, 745, 746, 747, 748, 749, 750, 751, 752, 753, 754, 755, 756, 757, 758, 759, 760, 761, 762, 763, 764, 765, 766, 767, 768, 769, 770, 771, 772, 773, 774, 775, 776, 777, 778] (by decide +kernel) (by decide +kernel)
set_option maxRecDepth 20000 in
theorem gL_law_X11_step : GoodIn wsL_law (wsV RL 134 RX11 yX11_step wsX11_step) := goodIn_app (goodIn_of _ (by decide +kernel)) ggL_law_X11_step
