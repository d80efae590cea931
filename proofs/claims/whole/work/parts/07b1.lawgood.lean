set_option maxRecDepth 20000 in
theorem ggL_law_X9_repeal : GoodIn wsL_law wsX9_repeal := goodIn_r _ [310, 15, 287, 741, 742, 743, 744, 745, 746, 747, 748, 749, 750, 751, 752, 753, 754, 755, 801, 802, 803, 804, 805] (by decide +kernel) (by decide +kernel)
set_option maxRecDepth 20000 in
theorem gL_law_X9_repeal : GoodIn wsL_law (wsV RL 31 RX9 yX9_repeal wsX9_repeal) := goodIn_app (goodIn_of _ (by decide +kernel)) ggL_law_X9_repeal
set_option maxRecDepth 20000 in
theorem ggL_law_X10_repeal : GoodIn wsL_law wsX10_repeal := goodIn_r _ [314, 245, 756, 757, 758, 759, 760, 761, 762, 763, 764, 765, 766, 767, 768, 769, 770, 771, 772, 773, 774, 775, 776, 777, 778, 779, 780, 781, 782, 783, 784, 785, 786, 787, 788, 789, 790, 791, 792, 793, 794, 795, 796, 797, 798, 799, 800] (by decide +kernel) (by decide +kernel)
set_option maxRecDepth 20000 in
theorem gL_law_X10_repeal : GoodIn wsL_law (wsV RL 35 RX10 yX10_repeal wsX10_repeal) := goodIn_app (goodIn_of _ (by decide +kernel)) ggL_law_X10_repeal
set_option maxRecDepth 20000 in
theorem ggL_law_X9_pace : GoodIn wsL_law wsX9_pace := goodIn_r _ [318, 15, 289, 178, 179, 2, 180, 319, 320, 321, 14, 322, 54, 323, 299, 300, 301, 50, 48, 199, 200, 201, 57, 202, 67, 203, 68, 204, 69, 70, 205, 206, 207, 208, 209, 52, 210, 62, 211, 212, 213, 214, 63, 215, 216, 217, 218, 219, 741, 742, 743, 744, 745, 746, 747, 748, 749, 750, 751, 752, 753, 754, 755, 801, 802, 803, 804, 805, 822, 823, 824, 825, 820, 821] (by decide +kernel) (by decide +kernel)
set_option maxRecDepth 20000 in
theorem gL_law_X9_pace : GoodIn wsL_law (wsV RL 36 RX9 yX9_pace wsX9_pace) := goodIn_app (goodIn_of _ (by decide +kernel)) ggL_law_X9_pace
set_option maxRecDepth 20000 in
theorem ggL_law_X10_pace : GoodIn wsL_law wsX10_pace := goodIn_r _ [327, 138, 232, 233, 5, 234, 328, 329, 330, 331, 245, 246, 247, 248, 249, 135, 136, 137, 134, 132, 133, 250, 251, 252, 253, 254, 255, 256, 257, 756, 757, 758, 759, 760, 761, 762, 763, 764, 765, 766, 767, 768, 769, 770, 771, 772, 773, 774, 775, 776, 777, 778, 779, 780, 781, 782, 783, 784, 785, 786, 787, 788, 789, 790, 791, 792, 793, 794, 795, 796, 797, 798, 799, 800] (by decide +kernel) (by decide +kernel)
set_option maxRecDepth 20000 in
theorem gL_law_X10_pace : GoodIn wsL_law (wsV RL 40 RX10 yX10_pace wsX10_pace) := goodIn_app (goodIn_of _ (by decide +kernel)) ggL_law_X10_pace
set_option maxRecDepth 20000 in
theorem ggL_law_X9_fastest : GoodIn wsL_law wsX9_fastest := goodIn_r _ [335, 15, 336, 337, 338, 14, 339, 54, 50, 48, 340, 341, 342, 343, 344, 345, 346, 57, 347, 67, 70, 68, 215, 212, 213, 52, 214, 62, 63, 205, 2, 206, 741, 742, 743, 744, 745, 746, 747, 748, 749, 750, 751, 752, 753, 754, 755, 801, 802, 803, 804, 805, 822, 823, 824, 825, 820, 821] (by decide +kernel) (by decide +kernel)
set_option maxRecDepth 20000 in
theorem gL_law_X9_fastest : GoodIn wsL_law (wsV RL 41 RX9 yX9_fastest wsX9_fastest) := goodIn_app (goodIn_of _ (by decide +kernel)) ggL_law_X9_fastest
set_option maxRecDepth 20000 in
theorem ggL_law_X10_fastest : GoodIn wsL_law wsX10_fastest := goodIn_r _ [351, 328, 329, 330, 5, 331, 245, 246, 247, 248, 249, 135, 136, 137, 134, 132, 133, 250, 251, 252, 253, 254, 255, 256, 257, 756, 757, 758, 759, 760, 761, 762, 763, 764, 765, 766, 767, 768, 769, 770, 771, 772, 773, 774, 775, 776, 777, 778, 779, 780, 781, 782, 783, 784, 785, 786, 787, 788, 789, 790, 791, 792, 793, 794, 795, 796, 797, 798, 799, 800] (by decide +kernel) (by decide +kernel)
set_option maxRecDepth 20000 in
theorem gL_law_X10_fastest : GoodIn wsL_law (wsV RL 44 RX10 yX10_fastest wsX10_fastest) := goodIn_app (goodIn_of _ (by decide +kernel)) ggL_law_X10_fastest
set_option maxRecDepth 20000 in
theorem ggL_law_X9_act : GoodIn wsL_law wsX9_act := goodIn_r _ [355, 15, 171, 356, 357, 175, 176, 2, 177, 178, 179, 180, 181, 182, 183, 358, 212, 213, 52, 214, 62, 63, 205, 206, 184, 185, 186, 359, 208, 209, 210, 211, 360, 361, 362, 741, 742, 743, 744, 745, 746, 747, 748, 749, 750, 751, 752, 753, 754, 755, 801, 802, 803, 804, 805, 820, 821] (by decide +kernel) (by decide +kernel)
set_option maxRecDepth 20000 in
theorem gL_law_X9_act : GoodIn wsL_law (wsV RL 45 RX9 yX9_act wsX9_act) := goodIn_app (goodIn_of _ (by decide +kernel)) ggL_law_X9_act
set_option maxRecDepth 20000 in
theorem ggL_law_X10_act : GoodIn wsL_law wsX10_act := goodIn_r _ [366, 132, 133, 229, 230, 5, 231, 232, 233, 234, 235, 236, 237, 238, 239, 240, 250, 251, 252, 253, 254, 255, 256, 257, 756, 757, 758, 759, 760, 761, 762, 763, 764, 765, 766, 767, 768, 769, 770, 771, 772, 773, 774, 775, 776, 777, 778, 779, 780, 781, 782, 783, 784, 785, 786, 787, 788, 789, 790, 791, 792, 793, 794, 795, 796, 797, 798, 799, 800] (by decide +kernel) (by decide +kernel)
set_option maxRecDepth 20000 in
theorem gL_law_X10_act : GoodIn wsL_law (wsV RL 48 RX10 yX10_act wsX10_act) := goodIn_app (goodIn_of _ (by decide +kernel)) ggL_law_X10_act
set_option maxRecDepth 20000 in
theorem ggL_law_X9_would : GoodIn wsL_law wsX9_would := goodIn_r _ [370, 15, 172, 173, 2, 174, 175, 176, 177, 178, 179, 180, 181, 182, 183, 184, 185, 186, 187, 188, 189, 14, 190, 53, 48, 54, 50, 55, 191, 192, 193, 52, 194, 62, 63, 195, 196, 197, 198, 199, 200, 201, 57, 202, 67, 203, 68, 204, 69, 70, 205, 206, 207, 208, 209, 210, 211, 212, 213, 214, 215, 216, 217, 218, 219, 741, 742, 743, 744, 745, 746, 747, 748, 749, 750, 751, 752, 753, 754, 755, 801, 802, 803, 804, 805, 820, 821, 822, 823, 824, 825] (by decide +kernel) (by decide +kernel)
set_option maxRecDepth 20000 in
theorem gL_law_X9_would : GoodIn wsL_law (wsV RL 49 RX9 yX9_would wsX9_would) := goodIn_app (goodIn_of _ (by decide +kernel)) ggL_law_X9_would
set_option maxRecDepth 20000 in
theorem ggL_law_X10_would : GoodIn wsL_law wsX10_would := goodIn_r _ [374, 132, 133, 225, 226, 227, 5, 228, 229, 230, 231, 232, 233, 234, 235, 236, 237, 238, 239, 240, 241, 242, 243, 244, 245, 138, 246, 247, 248, 249, 135, 136, 137, 134, 250, 251, 252, 253, 254, 255, 256, 257, 756, 757, 758, 759, 760, 761, 762, 763, 764, 765, 766, 767, 768, 769, 770, 771, 772, 773, 774, 775, 776, 777, 778, 779, 780, 781, 782, 783, 784, 785, 786, 787, 788, 789, 790, 791, 792, 793, 794, 795, 796, 797, 798, 799, 800] (by decide +kernel) (by decide +kernel)
set_option maxRecDepth 20000 in
theorem gL_law_X10_would : GoodIn wsL_law (wsV RL 52 RX10 yX10_would wsX10_would) := goodIn_app (goodIn_of _ (by decide +kernel)) ggL_law_X10_would
