set_option maxRecDepth 20000 in
theorem ggL_law_X9_arm : GoodIn wsL_law wsX9_arm := goodIn_r _ [378, 19, 379, 380, 381, 382, 2, 383, 178, 179, 180, 384, 385, 386, 18, 387, 76, 79, 388, 389, 390, 391, 392, 393, 394, 395, 396, 397, 398, 399, 400, 401, 402, 78, 403, 83, 404, 405, 406, 407, 85, 408, 409, 342, 410, 411, 412, 413, 414, 205, 206, 415, 416, 417, 418, 84, 419, 741, 742, 743, 744, 745, 746, 747, 748, 749, 750, 751, 752, 753, 754, 755, 806, 807, 826, 827, 828] (by decide +kernel) (by decide +kernel)
set_option maxRecDepth 20000 in
theorem gL_law_X9_arm : GoodIn wsL_law (wsV RL 53 RX9 yX9_arm wsX9_arm) := goodIn_app (goodIn_of _ (by decide +kernel)) ggL_law_X9_arm
set_option maxRecDepth 20000 in
theorem ggL_law_X10_arm : GoodIn wsL_law wsX10_arm := goodIn_r _ [423, 424, 139, 165, 140, 166, 141, 142, 143, 425, 426, 5, 427, 232, 233, 234, 428, 429, 430, 431, 432, 433, 434, 435, 436, 437, 438, 756, 757, 758, 759, 760, 761, 762, 763, 764, 765, 766, 767, 768, 769, 770, 771, 772, 773, 774, 775, 776, 777, 778, 779, 780, 781, 782, 783, 784, 785, 786, 787, 788, 789, 790, 791, 792, 793, 794, 795, 796, 797, 798, 799, 800] (by decide +kernel) (by decide +kernel)
set_option maxRecDepth 20000 in
theorem gL_law_X10_arm : GoodIn wsL_law (wsV RL 56 RX10 yX10_arm wsX10_arm) := goodIn_app (goodIn_of _ (by decide +kernel)) ggL_law_X10_arm
set_option maxRecDepth 20000 in
theorem ggL_law_X9_knot : GoodIn wsL_law wsX9_knot := goodIn_r _ [442, 19, 379, 380, 184, 185, 2, 186, 178, 179, 180, 443, 444, 445, 78, 446, 85, 83, 447, 87, 88, 89, 84, 741, 742, 743, 744, 745, 746, 747, 748, 749, 750, 751, 752, 753, 754, 755, 806, 807, 826, 827, 828] (by decide +kernel) (by decide +kernel)
set_option maxRecDepth 20000 in
theorem gL_law_X9_knot : GoodIn wsL_law (wsV RL 57 RX9 yX9_knot wsX9_knot) := goodIn_app (goodIn_of _ (by decide +kernel)) ggL_law_X9_knot
set_option maxRecDepth 20000 in
theorem ggL_law_X10_knot : GoodIn wsL_law wsX10_knot := goodIn_r _ [451, 424, 142, 143, 238, 239, 5, 240, 232, 233, 234, 756, 757, 758, 759, 760, 761, 762, 763, 764, 765, 766, 767, 768, 769, 770, 771, 772, 773, 774, 775, 776, 777, 778, 779, 780, 781, 782, 783, 784, 785, 786, 787, 788, 789, 790, 791, 792, 793, 794, 795, 796, 797, 798, 799, 800] (by decide +kernel) (by decide +kernel)
set_option maxRecDepth 20000 in
theorem gL_law_X10_knot : GoodIn wsL_law (wsV RL 60 RX10 yX10_knot wsX10_knot) := goodIn_app (goodIn_of _ (by decide +kernel)) ggL_law_X10_knot
set_option maxRecDepth 20000 in
theorem ggL_law_X9_forget : GoodIn wsL_law wsX9_forget := goodIn_r _ [455, 19, 379, 380, 741, 742, 743, 744, 745, 746, 747, 748, 749, 750, 751, 752, 753, 754, 755, 806, 807, 826, 827, 828] (by decide +kernel) (by decide +kernel)
set_option maxRecDepth 20000 in
theorem gL_law_X9_forget : GoodIn wsL_law (wsV RL 61 RX9 yX9_forget wsX9_forget) := goodIn_app (goodIn_of _ (by decide +kernel)) ggL_law_X9_forget
set_option maxRecDepth 20000 in
theorem ggL_law_X10_forget : GoodIn wsL_law wsX10_forget := goodIn_r _ [459, 424, 756, 757, 758, 759, 760, 761, 762, 763, 764, 765, 766, 767, 768, 769, 770, 771, 772, 773, 774, 775, 776, 777, 778, 779, 780, 781, 782, 783, 784, 785, 786, 787, 788, 789, 790, 791, 792, 793, 794, 795, 796, 797, 798, 799, 800] (by decide +kernel) (by decide +kernel)
set_option maxRecDepth 20000 in
theorem gL_law_X10_forget : GoodIn wsL_law (wsV RL 64 RX10 yX10_forget wsX10_forget) := goodIn_app (goodIn_of _ (by decide +kernel)) ggL_law_X10_forget
set_option maxRecDepth 20000 in
theorem ggL_law_X9_place : GoodIn wsL_law wsX9_place := goodIn_r _ [463, 19, 464, 381, 382, 2, 383, 178, 179, 180, 184, 185, 186, 465, 416, 417, 78, 418, 84, 83, 404, 405, 406, 407, 85, 408, 409, 342, 410, 411, 412, 413, 414, 419, 401, 402, 403, 205, 206, 466, 467, 468, 469, 470, 741, 742, 743, 744, 745, 746, 747, 748, 749, 750, 751, 752, 753, 754, 755, 806, 807, 826, 827, 828] (by decide +kernel) (by decide +kernel)
set_option maxRecDepth 20000 in
theorem gL_law_X9_place : GoodIn wsL_law (wsV RL 65 RX9 yX9_place wsX9_place) := goodIn_app (goodIn_of _ (by decide +kernel)) ggL_law_X9_place
set_option maxRecDepth 20000 in
theorem ggL_law_X10_place : GoodIn wsL_law wsX10_place := goodIn_r _ [474, 432, 434, 425, 426, 5, 427, 232, 233, 234, 238, 239, 240, 435, 436, 437, 438, 139, 140, 141, 475, 476, 477, 756, 757, 758, 759, 760, 761, 762, 763, 764, 765, 766, 767, 768, 769, 770, 771, 772, 773, 774, 775, 776, 777, 778, 779, 780, 781, 782, 783, 784, 785, 786, 787, 788, 789, 790, 791, 792, 793, 794, 795, 796, 797, 798, 799, 800] (by decide +kernel) (by decide +kernel)
set_option maxRecDepth 20000 in
theorem gL_law_X10_place : GoodIn wsL_law (wsV RL 69 RX10 yX10_place wsX10_place) := goodIn_app (goodIn_of _ (by decide +kernel)) ggL_law_X10_place
set_option maxRecDepth 20000 in
theorem ggL_law_X9_nearest : GoodIn wsL_law wsX9_nearest := goodIn_r _ [481, 19, 464, 381, 382, 2, 383, 178, 179, 180, 482, 483, 484, 18, 485, 395, 396, 486, 487, 488, 489, 341, 342, 343, 490, 491, 492, 415, 416, 417, 78, 418, 84, 83, 404, 405, 406, 407, 85, 408, 409, 410, 411, 412, 413, 414, 419, 401, 402, 403, 205, 206, 400, 493, 494, 495, 741, 742, 743, 744, 745, 746, 747, 748, 749, 750, 751, 752, 753, 754, 755, 806, 807, 826, 827, 828] (by decide +kernel) (by decide +kernel)
set_option maxRecDepth 20000 in
theorem gL_law_X9_nearest : GoodIn wsL_law (wsV RL 70 RX9 yX9_nearest wsX9_nearest) := goodIn_app (goodIn_of _ (by decide +kernel)) ggL_law_X9_nearest
set_option maxRecDepth 20000 in
theorem ggL_law_X10_nearest : GoodIn wsL_law wsX10_nearest := goodIn_r _ [499, 432, 434, 425, 426, 5, 427, 232, 233, 234, 435, 436, 437, 438, 139, 140, 141, 756, 757, 758, 759, 760, 761, 762, 763, 764, 765, 766, 767, 768, 769, 770, 771, 772, 773, 774, 775, 776, 777, 778, 779, 780, 781, 782, 783, 784, 785, 786, 787, 788, 789, 790, 791, 792, 793, 794, 795, 796, 797, 798, 799, 800] (by decide +kernel) (by decide +kernel)
set_option maxRecDepth 20000 in
theorem gL_law_X10_nearest : GoodIn wsL_law (wsV RL 73 RX10 yX10_nearest wsX10_nearest) := goodIn_app (goodIn_of _ (by decide +kernel)) ggL_law_X10_nearest
