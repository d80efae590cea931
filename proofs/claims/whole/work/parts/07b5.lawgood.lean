set_option maxRecDepth 20000 in
theorem ggL_law_X9_book : GoodIn wsL_law wsX9_book := goodIn_r _ [635, 27, 605, 596, 618, 636, 637, 574, 575, 2, 576, 178, 179, 180, 360, 361, 362, 577, 578, 579, 26, 580, 107, 741, 742, 743, 744, 745, 746, 747, 748, 749, 750, 751, 752, 753, 754, 755, 811, 812, 813, 814, 815, 816] (by decide +kernel) (by decide +kernel)
set_option maxRecDepth 20000 in
theorem gL_law_X9_book : GoodIn wsL_law (wsV RL 115 RX9 yX9_book wsX9_book) := goodIn_app (goodIn_of _ (by decide +kernel)) ggL_law_X9_book
set_option maxRecDepth 20000 in
theorem ggL_law_X10_book : GoodIn wsL_law wsX10_book := goodIn_r _ [641, 150, 151, 152, 153, 154, 585, 586, 5, 587, 232, 233, 234, 588, 589, 590, 591, 147, 756, 757, 758, 759, 760, 761, 762, 763, 764, 765, 766, 767, 768, 769, 770, 771, 772, 773, 774, 775, 776, 777, 778, 779, 780, 781, 782, 783, 784, 785, 786, 787, 788, 789, 790, 791, 792, 793, 794, 795, 796, 797, 798, 799, 800] (by decide +kernel) (by decide +kernel)
set_option maxRecDepth 20000 in
theorem gL_law_X10_book : GoodIn wsL_law (wsV RL 118 RX10 yX10_book wsX10_book) := goodIn_app (goodIn_of _ (by decide +kernel)) ggL_law_X10_book
set_option maxRecDepth 20000 in
theorem ggL_law_X9_cut : GoodIn wsL_law wsX9_cut := goodIn_r _ [645, 23, 504, 31, 646, 178, 179, 2, 180, 647, 648, 649, 650, 36, 27, 651, 652, 39, 653, 654, 655, 341, 342, 343, 470, 409, 410, 656, 657, 658, 30, 659, 113, 114, 115, 660, 661, 662, 663, 664, 618, 665, 666, 667, 668, 669, 670, 26, 671, 105, 106, 672, 673, 674, 675, 573, 33, 605, 596, 42, 676, 677, 34, 40, 38, 678, 679, 680, 22, 681, 96, 94, 95, 682, 683, 684, 685, 686, 687, 688, 689, 690, 691, 692, 693, 694, 695, 696, 697, 35, 37, 41, 741, 742, 743, 744, 745, 746, 747, 748, 749, 750, 751, 752, 753, 754, 755, 808, 809, 810, 817, 818, 819, 829, 830, 831, 832, 833, 834, 835, 811, 812, 813, 814, 815, 816] (by decide +kernel) (by decide +kernel)
set_option maxRecDepth 20000 in
theorem gL_law_X9_cut : GoodIn wsL_law (wsV RL 119 RX9 yX9_cut wsX9_cut) := goodIn_app (goodIn_of _ (by decide +kernel)) ggL_law_X9_cut
set_option maxRecDepth 20000 in
theorem ggL_law_X10_cut : GoodIn wsL_law wsX10_cut := goodIn_r _ [701, 144, 702, 232, 233, 5, 234, 703, 704, 705, 706, 164, 153, 159, 154, 157, 155, 162, 161, 158, 160, 163, 707, 708, 709, 710, 152, 711, 712, 713, 714, 145, 517, 147, 146, 150, 151, 715, 631, 148, 568, 567, 149, 156, 756, 757, 758, 759, 760, 761, 762, 763, 764, 765, 766, 767, 768, 769, 770, 771, 772, 773, 774, 775, 776, 777, 778, 779, 780, 781, 782, 783, 784, 785, 786, 787, 788, 789, 790, 791, 792, 793, 794, 795, 796, 797, 798, 799, 800] (by decide +kernel) (by decide +kernel)
set_option maxRecDepth 20000 in
theorem gL_law_X10_cut : GoodIn wsL_law (wsV RL 122 RX10 yX10_cut wsX10_cut) := goodIn_app (goodIn_of _ (by decide +kernel)) ggL_law_X10_cut
set_option maxRecDepth 20000 in
theorem ggL_law_X9_drain : GoodIn wsL_law wsX9_drain := goodIn_r _ [719, 31, 646, 647, 648, 649, 2, 650, 36, 27, 651, 652, 39, 653, 654, 655, 341, 342, 343, 470, 409, 410, 656, 657, 658, 30, 659, 113, 114, 115, 660, 661, 662, 663, 664, 618, 665, 666, 667, 668, 669, 670, 26, 671, 105, 106, 741, 742, 743, 744, 745, 746, 747, 748, 749, 750, 751, 752, 753, 754, 755, 817, 818, 819, 829, 830, 831, 832, 833, 834, 835, 811, 812, 813, 814, 815, 816] (by decide +kernel) (by decide +kernel)
set_option maxRecDepth 20000 in
theorem gL_law_X9_drain : GoodIn wsL_law (wsV RL 123 RX9 yX9_drain wsX9_drain) := goodIn_app (goodIn_of _ (by decide +kernel)) ggL_law_X9_drain
set_option maxRecDepth 20000 in
theorem ggL_law_X10_drain : GoodIn wsL_law wsX10_drain := goodIn_r _ [723, 702, 703, 704, 705, 5, 706, 164, 153, 159, 154, 157, 155, 162, 161, 158, 160, 163, 707, 708, 709, 710, 152, 756, 757, 758, 759, 760, 761, 762, 763, 764, 765, 766, 767, 768, 769, 770, 771, 772, 773, 774, 775, 776, 777, 778, 779, 780, 781, 782, 783, 784, 785, 786, 787, 788, 789, 790, 791, 792, 793, 794, 795, 796, 797, 798, 799, 800] (by decide +kernel) (by decide +kernel)
set_option maxRecDepth 20000 in
theorem gL_law_X10_drain : GoodIn wsL_law (wsV RL 126 RX10 yX10_drain wsX10_drain) := goodIn_app (goodIn_of _ (by decide +kernel)) ggL_law_X10_drain
set_option maxRecDepth 20000 in
theorem ggL_law_X9_bottle : GoodIn wsL_law wsX9_bottle := goodIn_r _ [727, 31, 646, 652, 676, 651, 677, 654, 728, 691, 692, 30, 693, 113, 114, 660, 661, 662, 2, 663, 664, 27, 618, 653, 665, 666, 342, 667, 741, 742, 743, 744, 745, 746, 747, 748, 749, 750, 751, 752, 753, 754, 755, 817, 818, 819, 829, 830, 831, 832, 833, 834, 835, 811, 812, 813, 814, 815, 816] (by decide +kernel) (by decide +kernel)
set_option maxRecDepth 20000 in
theorem gL_law_X9_bottle : GoodIn wsL_law (wsV RL 127 RX9 yX9_bottle wsX9_bottle) := goodIn_app (goodIn_of _ (by decide +kernel)) ggL_law_X9_bottle
set_option maxRecDepth 20000 in
theorem ggL_law_X10_bottle : GoodIn wsL_law wsX10_bottle := goodIn_r _ [732, 702, 157, 158, 159, 160, 161, 232, 233, 5, 234, 707, 708, 709, 710, 163, 162, 152, 756, 757, 758, 759, 760, 761, 762, 763, 764, 765, 766, 767, 768, 769, 770, 771, 772, 773, 774, 775, 776, 777, 778, 779, 780, 781, 782, 783, 784, 785, 786, 787, 788, 789, 790, 791, 792, 793, 794, 795, 796, 797, 798, 799, 800] (by decide +kernel) (by decide +kernel)
set_option maxRecDepth 20000 in
theorem gL_law_X10_bottle : GoodIn wsL_law (wsV RL 130 RX10 yX10_bottle wsX10_bottle) := goodIn_app (goodIn_of _ (by decide +kernel)) ggL_law_X10_bottle
set_option maxRecDepth 20000 in
theorem ggL_law_X9_many : GoodIn wsL_law wsX9_many := goodIn_r _ [736, 36, 42, 31, 646, 23, 504, 39, 38, 15, 287, 289, 37, 178, 179, 2, 180, 678, 679, 680, 22, 681, 96, 94, 95, 741, 742, 743, 744, 745, 746, 747, 748, 749, 750, 751, 752, 753, 754, 755, 817, 818, 819, 808, 809, 810, 801, 802, 803, 804, 805] (by decide +kernel) (by decide +kernel)
set_option maxRecDepth 20000 in
theorem gL_law_X9_many : GoodIn wsL_law (wsV RL 131 RX9 yX9_many wsX9_many) := goodIn_app (goodIn_of _ (by decide +kernel)) ggL_law_X9_many
set_option maxRecDepth 20000 in
theorem ggL_law_X10_many : GoodIn wsL_law wsX10_many := goodIn_r _ [740, 164, 715, 702, 144, 155, 145, 517, 568, 245, 138, 567, 232, 233, 5, 234, 756, 757, 758, 759, 760, 761, 762, 763, 764, 765, 766, 767, 768, 769, 770, 771, 772, 773, 774, 775, 776, 777, 778, 779, 780, 781, 782, 783, 784, 785, 786, 787, 788, 789, 790, 791, 792, 793, 794, 795, 796, 797, 798, 799, 800] (by decide +kernel) (by decide +kernel)
set_option maxRecDepth 20000 in
theorem gL_law_X10_many : GoodIn wsL_law (wsV RL 134 RX10 yX10_many wsX10_many) := goodIn_app (goodIn_of _ (by decide +kernel)) ggL_law_X10_many
