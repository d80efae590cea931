set_option maxRecDepth 20000 in
theorem ggL_law_X9_mould : GoodIn wsL_law wsX9_mould := goodIn_r _ [572, 27, 573, 175, 176, 2, 177, 178, 179, 180, 574, 575, 576, 577, 578, 579, 26, 580, 107, 741, 742, 743, 744, 745, 746, 747, 748, 749, 750, 751, 752, 753, 754, 755, 811, 812, 813, 814, 815, 816] (by decide +kernel) (by decide +kernel)
set_option maxRecDepth 20000 in
theorem gL_law_X9_mould : GoodIn wsL_law (wsV RL 94 RX9 yX9_mould wsX9_mould) := goodIn_app (goodIn_of _ (by decide +kernel)) ggL_law_X9_mould
set_option maxRecDepth 20000 in
theorem ggL_law_X10_mould : GoodIn wsL_law wsX10_mould := goodIn_r _ [584, 147, 229, 230, 5, 231, 232, 233, 234, 585, 586, 587, 588, 589, 590, 591, 756, 757, 758, 759, 760, 761, 762, 763, 764, 765, 766, 767, 768, 769, 770, 771, 772, 773, 774, 775, 776, 777, 778, 779, 780, 781, 782, 783, 784, 785, 786, 787, 788, 789, 790, 791, 792, 793, 794, 795, 796, 797, 798, 799, 800] (by decide +kernel) (by decide +kernel)
set_option maxRecDepth 20000 in
theorem gL_law_X10_mould : GoodIn wsL_law (wsV RL 97 RX10 yX10_mould wsX10_mould) := goodIn_app (goodIn_of _ (by decide +kernel)) ggL_law_X10_mould
set_option maxRecDepth 20000 in
theorem ggL_law_X9_swab : GoodIn wsL_law wsX9_swab := goodIn_r _ [595, 27, 596, 574, 575, 2, 576, 178, 179, 180, 741, 742, 743, 744, 745, 746, 747, 748, 749, 750, 751, 752, 753, 754, 755, 811, 812, 813, 814, 815, 816] (by decide +kernel) (by decide +kernel)
set_option maxRecDepth 20000 in
theorem gL_law_X9_swab : GoodIn wsL_law (wsV RL 98 RX9 yX9_swab wsX9_swab) := goodIn_app (goodIn_of _ (by decide +kernel)) ggL_law_X9_swab
set_option maxRecDepth 20000 in
theorem ggL_law_X10_swab : GoodIn wsL_law wsX10_swab := goodIn_r _ [600, 151, 585, 586, 5, 587, 232, 233, 234, 756, 757, 758, 759, 760, 761, 762, 763, 764, 765, 766, 767, 768, 769, 770, 771, 772, 773, 774, 775, 776, 777, 778, 779, 780, 781, 782, 783, 784, 785, 786, 787, 788, 789, 790, 791, 792, 793, 794, 795, 796, 797, 798, 799, 800] (by decide +kernel) (by decide +kernel)
set_option maxRecDepth 20000 in
theorem gL_law_X10_swab : GoodIn wsL_law (wsV RL 101 RX10 yX10_swab wsX10_swab) := goodIn_app (goodIn_of _ (by decide +kernel)) ggL_law_X10_swab
set_option maxRecDepth 20000 in
theorem ggL_law_X9_repair : GoodIn wsL_law wsX9_repair := goodIn_r _ [604, 27, 605, 574, 575, 2, 576, 178, 179, 180, 606, 607, 608, 26, 609, 101, 102, 104, 741, 742, 743, 744, 745, 746, 747, 748, 749, 750, 751, 752, 753, 754, 755, 811, 812, 813, 814, 815, 816] (by decide +kernel) (by decide +kernel)
set_option maxRecDepth 20000 in
theorem gL_law_X9_repair : GoodIn wsL_law (wsV RL 102 RX9 yX9_repair wsX9_repair) := goodIn_app (goodIn_of _ (by decide +kernel)) ggL_law_X9_repair
set_option maxRecDepth 20000 in
theorem ggL_law_X10_repair : GoodIn wsL_law wsX10_repair := goodIn_r _ [613, 150, 151, 152, 585, 586, 5, 587, 232, 233, 234, 756, 757, 758, 759, 760, 761, 762, 763, 764, 765, 766, 767, 768, 769, 770, 771, 772, 773, 774, 775, 776, 777, 778, 779, 780, 781, 782, 783, 784, 785, 786, 787, 788, 789, 790, 791, 792, 793, 794, 795, 796, 797, 798, 799, 800] (by decide +kernel) (by decide +kernel)
set_option maxRecDepth 20000 in
theorem gL_law_X10_repair : GoodIn wsL_law (wsV RL 105 RX10 yX10_repair wsX10_repair) := goodIn_app (goodIn_of _ (by decide +kernel)) ggL_law_X10_repair
set_option maxRecDepth 20000 in
theorem ggL_law_X9_pull : GoodIn wsL_law wsX9_pull := goodIn_r _ [617, 27, 618, 574, 575, 2, 576, 178, 179, 180, 360, 361, 362, 741, 742, 743, 744, 745, 746, 747, 748, 749, 750, 751, 752, 753, 754, 755, 811, 812, 813, 814, 815, 816] (by decide +kernel) (by decide +kernel)
set_option maxRecDepth 20000 in
theorem gL_law_X9_pull : GoodIn wsL_law (wsV RL 106 RX9 yX9_pull wsX9_pull) := goodIn_app (goodIn_of _ (by decide +kernel)) ggL_law_X9_pull
set_option maxRecDepth 20000 in
theorem ggL_law_X10_pull : GoodIn wsL_law wsX10_pull := goodIn_r _ [622, 152, 585, 586, 5, 587, 232, 233, 234, 756, 757, 758, 759, 760, 761, 762, 763, 764, 765, 766, 767, 768, 769, 770, 771, 772, 773, 774, 775, 776, 777, 778, 779, 780, 781, 782, 783, 784, 785, 786, 787, 788, 789, 790, 791, 792, 793, 794, 795, 796, 797, 798, 799, 800] (by decide +kernel) (by decide +kernel)
set_option maxRecDepth 20000 in
theorem gL_law_X10_pull : GoodIn wsL_law (wsV RL 110 RX10 yX10_pull wsX10_pull) := goodIn_app (goodIn_of _ (by decide +kernel)) ggL_law_X10_pull
set_option maxRecDepth 20000 in
theorem ggL_law_X9_rule : GoodIn wsL_law wsX9_rule := goodIn_r _ [626, 40, 41, 178, 179, 2, 180, 741, 742, 743, 744, 745, 746, 747, 748, 749, 750, 751, 752, 753, 754, 755] (by decide +kernel) (by decide +kernel)
set_option maxRecDepth 20000 in
theorem gL_law_X9_rule : GoodIn wsL_law (wsV RL 111 RX9 yX9_rule wsX9_rule) := goodIn_app (goodIn_of _ (by decide +kernel)) ggL_law_X9_rule
set_option maxRecDepth 20000 in
theorem ggL_law_X10_rule : GoodIn wsL_law wsX10_rule := goodIn_r _ [630, 631, 156, 232, 233, 5, 234, 756, 757, 758, 759, 760, 761, 762, 763, 764, 765, 766, 767, 768, 769, 770, 771, 772, 773, 774, 775, 776, 777, 778, 779, 780, 781, 782, 783, 784, 785, 786, 787, 788, 789, 790, 791, 792, 793, 794, 795, 796, 797, 798, 799, 800] (by decide +kernel) (by decide +kernel)
set_option maxRecDepth 20000 in
theorem gL_law_X10_rule : GoodIn wsL_law (wsV RL 114 RX10 yX10_rule wsX10_rule) := goodIn_app (goodIn_of _ (by decide +kernel)) ggL_law_X10_rule
