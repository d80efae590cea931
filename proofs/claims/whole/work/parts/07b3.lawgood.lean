set_option maxRecDepth 20000 in
theorem ggL_law_X9_stop : GoodIn wsL_law wsX9_stop := goodIn_r _ [503, 23, 504, 175, 176, 2, 177, 178, 179, 180, 505, 506, 507, 22, 508, 96, 94, 509, 510, 511, 512, 95, 741, 742, 743, 744, 745, 746, 747, 748, 749, 750, 751, 752, 753, 754, 755, 808, 809, 810] (by decide +kernel) (by decide +kernel)
set_option maxRecDepth 20000 in
theorem gL_law_X9_stop : GoodIn wsL_law (wsV RL 74 RX9 yX9_stop wsX9_stop) := goodIn_app (goodIn_of _ (by decide +kernel)) ggL_law_X9_stop
set_option maxRecDepth 20000 in
theorem ggL_law_X10_stop : GoodIn wsL_law wsX10_stop := goodIn_r _ [516, 144, 145, 517, 229, 230, 5, 231, 232, 233, 234, 518, 519, 520, 521, 756, 757, 758, 759, 760, 761, 762, 763, 764, 765, 766, 767, 768, 769, 770, 771, 772, 773, 774, 775, 776, 777, 778, 779, 780, 781, 782, 783, 784, 785, 786, 787, 788, 789, 790, 791, 792, 793, 794, 795, 796, 797, 798, 799, 800] (by decide +kernel) (by decide +kernel)
set_option maxRecDepth 20000 in
theorem gL_law_X10_stop : GoodIn wsL_law (wsV RL 77 RX10 yX10_stop wsX10_stop) := goodIn_app (goodIn_of _ (by decide +kernel)) ggL_law_X10_stop
set_option maxRecDepth 20000 in
theorem ggL_law_X9_start : GoodIn wsL_law wsX9_start := goodIn_r _ [525, 23, 504, 175, 176, 2, 177, 178, 179, 180, 505, 506, 507, 22, 508, 96, 94, 526, 527, 528, 529, 741, 742, 743, 744, 745, 746, 747, 748, 749, 750, 751, 752, 753, 754, 755, 808, 809, 810] (by decide +kernel) (by decide +kernel)
set_option maxRecDepth 20000 in
theorem gL_law_X9_start : GoodIn wsL_law (wsV RL 78 RX9 yX9_start wsX9_start) := goodIn_app (goodIn_of _ (by decide +kernel)) ggL_law_X9_start
set_option maxRecDepth 20000 in
theorem ggL_law_X10_start : GoodIn wsL_law wsX10_start := goodIn_r _ [533, 145, 144, 229, 230, 5, 231, 232, 233, 234, 518, 519, 520, 521, 756, 757, 758, 759, 760, 761, 762, 763, 764, 765, 766, 767, 768, 769, 770, 771, 772, 773, 774, 775, 776, 777, 778, 779, 780, 781, 782, 783, 784, 785, 786, 787, 788, 789, 790, 791, 792, 793, 794, 795, 796, 797, 798, 799, 800] (by decide +kernel) (by decide +kernel)
set_option maxRecDepth 20000 in
theorem gL_law_X10_start : GoodIn wsL_law (wsV RL 81 RX10 yX10_start wsX10_start) := goodIn_app (goodIn_of _ (by decide +kernel)) ggL_law_X10_start
set_option maxRecDepth 20000 in
theorem ggL_law_X9_job : GoodIn wsL_law wsX9_job := goodIn_r _ [537, 33, 175, 176, 2, 177, 178, 179, 180, 538, 539, 540, 741, 742, 743, 744, 745, 746, 747, 748, 749, 750, 751, 752, 753, 754, 755] (by decide +kernel) (by decide +kernel)
set_option maxRecDepth 20000 in
theorem gL_law_X9_job : GoodIn wsL_law (wsV RL 82 RX9 yX9_job wsX9_job) := goodIn_app (goodIn_of _ (by decide +kernel)) ggL_law_X9_job
set_option maxRecDepth 20000 in
theorem ggL_law_X10_job : GoodIn wsL_law wsX10_job := goodIn_r _ [544, 146, 229, 230, 5, 231, 232, 233, 234, 545, 546, 547, 756, 757, 758, 759, 760, 761, 762, 763, 764, 765, 766, 767, 768, 769, 770, 771, 772, 773, 774, 775, 776, 777, 778, 779, 780, 781, 782, 783, 784, 785, 786, 787, 788, 789, 790, 791, 792, 793, 794, 795, 796, 797, 798, 799, 800] (by decide +kernel) (by decide +kernel)
set_option maxRecDepth 20000 in
theorem gL_law_X10_job : GoodIn wsL_law (wsV RL 85 RX10 yX10_job wsX10_job) := goodIn_app (goodIn_of _ (by decide +kernel)) ggL_law_X10_job
set_option maxRecDepth 20000 in
theorem ggL_law_X9_aim : GoodIn wsL_law wsX9_aim := goodIn_r _ [551, 34, 35, 538, 539, 2, 540, 178, 179, 180, 552, 553, 554, 741, 742, 743, 744, 745, 746, 747, 748, 749, 750, 751, 752, 753, 754, 755] (by decide +kernel) (by decide +kernel)
set_option maxRecDepth 20000 in
theorem gL_law_X9_aim : GoodIn wsL_law (wsV RL 86 RX9 yX9_aim wsX9_aim) := goodIn_app (goodIn_of _ (by decide +kernel)) ggL_law_X9_aim
set_option maxRecDepth 20000 in
theorem ggL_law_X10_aim : GoodIn wsL_law wsX10_aim := goodIn_r _ [558, 148, 149, 545, 546, 5, 547, 232, 233, 234, 756, 757, 758, 759, 760, 761, 762, 763, 764, 765, 766, 767, 768, 769, 770, 771, 772, 773, 774, 775, 776, 777, 778, 779, 780, 781, 782, 783, 784, 785, 786, 787, 788, 789, 790, 791, 792, 793, 794, 795, 796, 797, 798, 799, 800] (by decide +kernel) (by decide +kernel)
set_option maxRecDepth 20000 in
theorem gL_law_X10_aim : GoodIn wsL_law (wsV RL 89 RX10 yX10_aim wsX10_aim) := goodIn_app (goodIn_of _ (by decide +kernel)) ggL_law_X10_aim
set_option maxRecDepth 20000 in
theorem ggL_law_X9_glass : GoodIn wsL_law wsX9_glass := goodIn_r _ [562, 37, 38, 552, 553, 2, 554, 178, 179, 180, 741, 742, 743, 744, 745, 746, 747, 748, 749, 750, 751, 752, 753, 754, 755] (by decide +kernel) (by decide +kernel)
set_option maxRecDepth 20000 in
theorem gL_law_X9_glass : GoodIn wsL_law (wsV RL 90 RX9 yX9_glass wsX9_glass) := goodIn_app (goodIn_of _ (by decide +kernel)) ggL_law_X9_glass
set_option maxRecDepth 20000 in
theorem ggL_law_X10_glass : GoodIn wsL_law wsX10_glass := goodIn_r _ [566, 567, 568, 232, 233, 5, 234, 756, 757, 758, 759, 760, 761, 762, 763, 764, 765, 766, 767, 768, 769, 770, 771, 772, 773, 774, 775, 776, 777, 778, 779, 780, 781, 782, 783, 784, 785, 786, 787, 788, 789, 790, 791, 792, 793, 794, 795, 796, 797, 798, 799, 800] (by decide +kernel) (by decide +kernel)
set_option maxRecDepth 20000 in
theorem gL_law_X10_glass : GoodIn wsL_law (wsV RL 93 RX10 yX10_glass wsX10_glass) := goodIn_app (goodIn_of _ (by decide +kernel)) ggL_law_X10_glass
