theorem dX9_drain_26 : decode cX9_drain 26 = .ok (.ireturn, 1) := by decide +kernel
set_option maxRecDepth 20000 in
theorem ggX9_bottle_X0_fromEldest : GoodIn wsX9_bottle wsX0_fromEldest := goodIn_r _ [12, 13, 14, 43, 44, 45] (by decide +kernel) (by decide +kernel)
set_option maxRecDepth 20000 in
theorem gX9_bottle_X0_fromEldest : GoodIn wsX9_bottle (wsV RX9 257 RX0 yX0_fromEldest wsX0_fromEldest) := goodIn_app (goodIn_of _ (by decide +kernel)) ggX9_bottle_X0_fromEldest
set_option maxRecDepth 20000 in
theorem ggX9_bottle_X9_verdict : GoodIn wsX9_bottle wsX9_verdict := goodIn_r _ [19, 20, 21, 22, 5, 7, 23, 24, 25, 26, 27, 46, 47, 48, 49, 50, 51, 52, 28, 29, 30, 31, 32, 33, 34, 35, 36, 37, 38, 39, 40, 41, 42, 53, 54, 55, 56, 57, 58] (by decide +kernel) (by decide +kernel)
set_option maxRecDepth 20000 in
theorem gX9_bottle_X9_verdict : GoodIn wsX9_bottle (wsV RX9 278 RX9 yX9_verdict wsX9_verdict) := goodIn_app (goodIn_of _ (by decide +kernel)) ggX9_bottle_X9_verdict
theorem dX9_bottle_0 : decode cX9_bottle 0 = .ok (.iload_n 1, 1) := by decide +kernel
theorem dX9_bottle_1 : decode cX9_bottle 1 = .ok (.ifCond .lt 14, 3) := by decide +kernel
theorem dX9_bottle_4 : decode cX9_bottle 4 = .ok (.iload_n 1, 1) := by decide +kernel
theorem dX9_bottle_5 : decode cX9_bottle 5 = .ok (.aload_n 0, 1) := by decide +kernel
theorem dX9_bottle_6 : decode cX9_bottle 6 = .ok (.getfield 40, 3) := by decide +kernel
theorem dX9_bottle_9 : decode cX9_bottle 9 = .ok (.getfield 250, 3) := by decide +kernel
theorem dX9_bottle_12 : decode cX9_bottle 12 = .ok (.if_icmp .lt 5, 3) := by decide +kernel
theorem dX9_bottle_15 : decode cX9_bottle 15 = .ok (.iconst (-1), 1) := by decide +kernel
theorem dX9_bottle_16 : decode cX9_bottle 16 = .ok (.ireturn, 1) := by decide +kernel
theorem dX9_bottle_17 : decode cX9_bottle 17 = .ok (.aload_n 0, 1) := by decide +kernel
theorem dX9_bottle_18 : decode cX9_bottle 18 = .ok (.getfield 40, 3) := by decide +kernel
theorem dX9_bottle_21 : decode cX9_bottle 21 = .ok (.iload_n 1, 1) := by decide +kernel
theorem dX9_bottle_22 : decode cX9_bottle 22 = .ok (.invokevirtual 257, 3) := by decide +kernel
theorem dX9_bottle_25 : decode cX9_bottle 25 = .ok (.astore_n 3, 1) := by decide +kernel
theorem dX9_bottle_26 : decode cX9_bottle 26 = .ok (.iload_n 2, 1) := by decide +kernel
theorem dX9_bottle_27 : decode cX9_bottle 27 = .ok (.tableswitch 68 0 5 #[37, 42, 47, 52, 57, 62], 37) := by decide +kernel
theorem dX9_bottle_64 : decode cX9_bottle 64 = .ok (.aload_n 3, 1) := by decide +kernel
theorem dX9_bottle_65 : decode cX9_bottle 65 = .ok (.getfield 261, 3) := by decide +kernel
theorem dX9_bottle_68 : decode cX9_bottle 68 = .ok (.ireturn, 1) := by decide +kernel
theorem dX9_bottle_69 : decode cX9_bottle 69 = .ok (.aload_n 3, 1) := by decide +kernel
theorem dX9_bottle_70 : decode cX9_bottle 70 = .ok (.getfield 266, 3) := by decide +kernel
theorem dX9_bottle_73 : decode cX9_bottle 73 = .ok (.ireturn, 1) := by decide +kernel
theorem dX9_bottle_74 : decode cX9_bottle 74 = .ok (.aload_n 3, 1) := by decide +kernel
theorem dX9_bottle_75 : decode cX9_bottle 75 = .ok (.getfield 269, 3) := by decide +kernel
theorem dX9_bottle_78 : decode cX9_bottle 78 = .ok (.ireturn, 1) := by decide +kernel
theorem dX9_bottle_79 : decode cX9_bottle 79 = .ok (.aload_n 3, 1) := by decide +kernel
theorem dX9_bottle_80 : decode cX9_bottle 80 = .ok (.getfield 272, 3) := by decide +kernel
theorem dX9_bottle_83 : decode cX9_bottle 83 = .ok (.ireturn, 1) := by decide +kernel
theorem dX9_bottle_84 : decode cX9_bottle 84 = .ok (.aload_n 3, 1) := by decide +kernel
theorem dX9_bottle_85 : decode cX9_bottle 85 = .ok (.getfield 275, 3) := by decide +kernel
theorem dX9_bottle_88 : decode cX9_bottle 88 = .ok (.ireturn, 1) := by decide +kernel
theorem dX9_bottle_89 : decode cX9_bottle 89 = .ok (.aload_n 0, 1) := by decide +kernel
theorem dX9_bottle_90 : decode cX9_bottle 90 = .ok (.aload_n 3, 1) := by decide +kernel
theorem dX9_bottle_91 : decode cX9_bottle 91 = .ok (.invokevirtual 278, 3) := by decide +kernel
theorem dX9_bottle_94 : decode cX9_bottle 94 = .ok (.ireturn, 1) := by decide +kernel
theorem dX9_bottle_95 : decode cX9_bottle 95 = .ok (.iconst (-1), 1) := by decide +kernel
theorem dX9_bottle_96 : decode cX9_bottle 96 = .ok (.ireturn, 1) := by decide +kernel
set_option maxRecDepth 20000 in
theorem ggX9_many_X9_isBetween : GoodIn wsX9_many wsX9_isBetween := goodIn_r _ [16] (by decide +kernel) (by decide +kernel)
set_option maxRecDepth 20000 in
theorem gX9_many_X9_isBetween : GoodIn wsX9_many (va_wsS RX9 98 yX9_isBetween wsX9_isBetween) := goodIn_app (goodIn_of _ (by decide +kernel)) ggX9_many_X9_isBetween
set_option maxRecDepth 20000 in
theorem ggX9_many_X6_next : GoodIn wsX9_many wsX6_next := goodIn_r _ [21, 22, 23, 24, 43, 44, 45] (by decide +kernel) (by decide +kernel)
set_option maxRecDepth 20000 in
theorem gX9_many_X6_next : GoodIn wsX9_many (wsV RX9 282 RX6 yX6_next wsX6_next) := goodIn_app (goodIn_of _ (by decide +kernel)) ggX9_many_X6_next
theorem dX9_many_0 : decode cX9_many 0 = .ok (.iload_n 1, 1) := by decide +kernel
theorem dX9_many_1 : decode cX9_many 1 = .ok (.iconst 2, 1) := by decide +kernel
theorem dX9_many_2 : decode cX9_many 2 = .ok (.bipush 8, 2) := by decide +kernel
theorem dX9_many_4 : decode cX9_many 4 = .ok (.invokestatic 98, 3) := by decide +kernel
theorem dX9_many_7 : decode cX9_many 7 = .ok (.ifCond .eq 12, 3) := by decide +kernel
theorem dX9_many_10 : decode cX9_many 10 = .ok (.aload_n 0, 1) := by decide +kernel
theorem dX9_many_11 : decode cX9_many 11 = .ok (.getfield 54, 3) := by decide +kernel
theorem dX9_many_14 : decode cX9_many 14 = .ok (.iload_n 1, 1) := by decide +kernel
theorem dX9_many_15 : decode cX9_many 15 = .ok (.iconst 2, 1) := by decide +kernel
theorem dX9_many_16 : decode cX9_many 16 = .ok (.isub, 1) := by decide +kernel
theorem dX9_many_17 : decode cX9_many 17 = .ok (.iaload, 1) := by decide +kernel
theorem dX9_many_18 : decode cX9_many 18 = .ok (.ireturn, 1) := by decide +kernel
theorem dX9_many_19 : decode cX9_many 19 = .ok (.iload_n 1, 1) := by decide +kernel
theorem dX9_many_20 : decode cX9_many 20 = .ok (.tableswitch 140 0 15 #[80, 85, 140, 140, 140, 140, 140, 140, 140, 93, 101, 106, 114, 119, 127, 135], 80) := by decide +kernel
theorem dX9_many_100 : decode cX9_many 100 = .ok (.aload_n 0, 1) := by decide +kernel
theorem dX9_many_101 : decode cX9_many 101 = .ok (.getfield 73, 3) := by decide +kernel
theorem dX9_many_104 : decode cX9_many 104 = .ok (.ireturn, 1) := by decide +kernel
theorem dX9_many_105 : decode cX9_many 105 = .ok (.aload_n 0, 1) := by decide +kernel
theorem dX9_many_106 : decode cX9_many 106 = .ok (.getfield 40, 3) := by decide +kernel
theorem dX9_many_109 : decode cX9_many 109 = .ok (.getfield 250, 3) := by decide +kernel
theorem dX9_many_112 : decode cX9_many 112 = .ok (.ireturn, 1) := by decide +kernel
theorem dX9_many_113 : decode cX9_many 113 = .ok (.aload_n 0, 1) := by decide +kernel
theorem dX9_many_114 : decode cX9_many 114 = .ok (.getfield 26, 3) := by decide +kernel
theorem dX9_many_117 : decode cX9_many 117 = .ok (.getfield 212, 3) := by decide +kernel
theorem dX9_many_120 : decode cX9_many 120 = .ok (.ireturn, 1) := by decide +kernel
theorem dX9_many_121 : decode cX9_many 121 = .ok (.aload_n 0, 1) := by decide +kernel
theorem dX9_many_122 : decode cX9_many 122 = .ok (.getfield 64, 3) := by decide +kernel
theorem dX9_many_125 : decode cX9_many 125 = .ok (.ireturn, 1) := by decide +kernel
theorem dX9_many_126 : decode cX9_many 126 = .ok (.aload_n 0, 1) := by decide +kernel
theorem dX9_many_127 : decode cX9_many 127 = .ok (.getfield 26, 3) := by decide +kernel
theorem dX9_many_130 : decode cX9_many 130 = .ok (.invokevirtual 282, 3) := by decide +kernel
theorem dX9_many_133 : decode cX9_many 133 = .ok (.ireturn, 1) := by decide +kernel
theorem dX9_many_134 : decode cX9_many 134 = .ok (.aload_n 0, 1) := by decide +kernel
theorem dX9_many_135 : decode cX9_many 135 = .ok (.getfield 61, 3) := by decide +kernel
theorem dX9_many_138 : decode cX9_many 138 = .ok (.ireturn, 1) := by decide +kernel
theorem dX9_many_139 : decode cX9_many 139 = .ok (.aload_n 0, 1) := by decide +kernel
theorem dX9_many_140 : decode cX9_many 140 = .ok (.getfield 10, 3) := by decide +kernel
theorem dX9_many_143 : decode cX9_many 143 = .ok (.getfield 113, 3) := by decide +kernel
theorem dX9_many_146 : decode cX9_many 146 = .ok (.ireturn, 1) := by decide +kernel
theorem dX9_many_147 : decode cX9_many 147 = .ok (.aload_n 0, 1) := by decide +kernel
theorem dX9_many_148 : decode cX9_many 148 = .ok (.getfield 10, 3) := by decide +kernel
theorem dX9_many_151 : decode cX9_many 151 = .ok (.getfield 125, 3) := by decide +kernel
theorem dX9_many_154 : decode cX9_many 154 = .ok (.ireturn, 1) := by decide +kernel
theorem dX9_many_155 : decode cX9_many 155 = .ok (.aload_n 0, 1) := by decide +kernel
theorem dX9_many_156 : decode cX9_many 156 = .ok (.getfield 57, 3) := by decide +kernel
theorem dX9_many_159 : decode cX9_many 159 = .ok (.ireturn, 1) := by decide +kernel
theorem dX9_many_160 : decode cX9_many 160 = .ok (.iconst (-1), 1) := by decide +kernel
theorem dX9_many_161 : decode cX9_many 161 = .ok (.ireturn, 1) := by decide +kernel
set_option maxRecDepth 20000 in
theorem ggX9_makeBottle_X6_next : GoodIn wsX9_makeBottle wsX6_next := goodIn_r _ [24, 25, 26, 27, 80, 81, 82] (by decide +kernel) (by decide +kernel)
set_option maxRecDepth 20000 in
theorem gX9_makeBottle_X6_next : GoodIn wsX9_makeBottle (wsV RX9 282 RX6 yX6_next wsX6_next) := goodIn_app (goodIn_of _ (by decide +kernel)) ggX9_makeBottle_X6_next
set_option maxRecDepth 20000 in
theorem ggX9_makeBottle_X6_pass : GoodIn wsX9_makeBottle wsX6_pass := goodIn_r _ [31, 27, 25, 80, 81, 82] (by decide +kernel) (by decide +kernel)
set_option maxRecDepth 20000 in
theorem gX9_makeBottle_X6_pass : GoodIn wsX9_makeBottle (wsV RX9 285 RX6 yX6_pass wsX6_pass) := goodIn_app (goodIn_of _ (by decide +kernel)) ggX9_makeBottle_X6_pass
set_option maxRecDepth 20000 in
theorem ggX9_makeBottle_X0_putLast : GoodIn wsX9_makeBottle wsX0_putLast := goodIn_r _ [36, 37, 38, 39, 40, 35, 41, 42, 43, 83, 84, 85] (by decide +kernel) (by decide +kernel)
set_option maxRecDepth 20000 in
theorem gX9_makeBottle_X0_putLast : GoodIn wsX9_makeBottle (wsV RX9 288 RX0 yX0_putLast wsX0_putLast) := goodIn_app (goodIn_of _ (by decide +kernel)) ggX9_makeBottle_X0_putLast
set_option maxRecDepth 20000 in
theorem ggX9_makeBottle_X9_faultOfCut : GoodIn wsX9_makeBottle wsX9_faultOfCut := goodIn_r _ [48, 19, 49, 50, 2, 6, 5, 51, 52, 53, 54, 55, 56, 57, 58, 59, 60, 61, 62, 63, 64, 65, 66, 67, 68, 69, 70, 71, 72] (by decide +kernel) (by decide +kernel)
set_option maxRecDepth 20000 in
theorem gX9_makeBottle_X9_faultOfCut : GoodIn wsX9_makeBottle (wsV RX9 295 RX9 yX9_faultOfCut wsX9_faultOfCut) := goodIn_app (goodIn_of _ (by decide +kernel)) ggX9_makeBottle_X9_faultOfCut
theorem dX9_makeBottle_0 : decode cX9_makeBottle 0 = .ok (.aload_n 0, 1) := by decide +kernel
theorem dX9_makeBottle_1 : decode cX9_makeBottle 1 = .ok (.getfield 26, 3) := by decide +kernel
theorem dX9_makeBottle_4 : decode cX9_makeBottle 4 = .ok (.invokevirtual 282, 3) := by decide +kernel
theorem dX9_makeBottle_7 : decode cX9_makeBottle 7 = .ok (.istore_n 1, 1) := by decide +kernel
theorem dX9_makeBottle_8 : decode cX9_makeBottle 8 = .ok (.aload_n 0, 1) := by decide +kernel
theorem dX9_makeBottle_9 : decode cX9_makeBottle 9 = .ok (.getfield 26, 3) := by decide +kernel
theorem dX9_makeBottle_12 : decode cX9_makeBottle 12 = .ok (.invokevirtual 285, 3) := by decide +kernel
theorem dX9_makeBottle_15 : decode cX9_makeBottle 15 = .ok (.aload_n 0, 1) := by decide +kernel
theorem dX9_makeBottle_16 : decode cX9_makeBottle 16 = .ok (.getfield 33, 3) := by decide +kernel
theorem dX9_makeBottle_19 : decode cX9_makeBottle 19 = .ok (.getfield 228, 3) := by decide +kernel
theorem dX9_makeBottle_22 : decode cX9_makeBottle 22 = .ok (.iload_n 1, 1) := by decide +kernel
theorem dX9_makeBottle_23 : decode cX9_makeBottle 23 = .ok (.iaload, 1) := by decide +kernel
theorem dX9_makeBottle_24 : decode cX9_makeBottle 24 = .ok (.istore_n 2, 1) := by decide +kernel
theorem dX9_makeBottle_25 : decode cX9_makeBottle 25 = .ok (.aload_n 0, 1) := by decide +kernel
theorem dX9_makeBottle_26 : decode cX9_makeBottle 26 = .ok (.getfield 44, 3) := by decide +kernel
theorem dX9_makeBottle_29 : decode cX9_makeBottle 29 = .ok (.iload_n 1, 1) := by decide +kernel
theorem dX9_makeBottle_30 : decode cX9_makeBottle 30 = .ok (.iaload, 1) := by decide +kernel
theorem dX9_makeBottle_31 : decode cX9_makeBottle 31 = .ok (.istore_n 3, 1) := by decide +kernel
theorem dX9_makeBottle_32 : decode cX9_makeBottle 32 = .ok (.aload_n 0, 1) := by decide +kernel
theorem dX9_makeBottle_33 : decode cX9_makeBottle 33 = .ok (.getfield 33, 3) := by decide +kernel
theorem dX9_makeBottle_36 : decode cX9_makeBottle 36 = .ok (.getfield 234, 3) := by decide +kernel
theorem dX9_makeBottle_39 : decode cX9_makeBottle 39 = .ok (.iload_n 2, 1) := by decide +kernel
theorem dX9_makeBottle_40 : decode cX9_makeBottle 40 = .ok (.dup2, 1) := by decide +kernel
theorem dX9_makeBottle_41 : decode cX9_makeBottle 41 = .ok (.iaload, 1) := by decide +kernel
theorem dX9_makeBottle_42 : decode cX9_makeBottle 42 = .ok (.iconst 1, 1) := by decide +kernel
theorem dX9_makeBottle_43 : decode cX9_makeBottle 43 = .ok (.iadd, 1) := by decide +kernel
theorem dX9_makeBottle_44 : decode cX9_makeBottle 44 = .ok (.iastore, 1) := by decide +kernel
theorem dX9_makeBottle_45 : decode cX9_makeBottle 45 = .ok (.aload_n 0, 1) := by decide +kernel
theorem dX9_makeBottle_46 : decode cX9_makeBottle 46 = .ok (.getfield 33, 3) := by decide +kernel
theorem dX9_makeBottle_49 : decode cX9_makeBottle 49 = .ok (.getfield 231, 3) := by decide +kernel
theorem dX9_makeBottle_52 : decode cX9_makeBottle 52 = .ok (.iload_n 2, 1) := by decide +kernel
theorem dX9_makeBottle_53 : decode cX9_makeBottle 53 = .ok (.dup2, 1) := by decide +kernel
theorem dX9_makeBottle_54 : decode cX9_makeBottle 54 = .ok (.iaload, 1) := by decide +kernel
theorem dX9_makeBottle_55 : decode cX9_makeBottle 55 = .ok (.iconst 1, 1) := by decide +kernel
theorem dX9_makeBottle_56 : decode cX9_makeBottle 56 = .ok (.iadd, 1) := by decide +kernel
theorem dX9_makeBottle_57 : decode cX9_makeBottle 57 = .ok (.iastore, 1) := by decide +kernel
theorem dX9_makeBottle_58 : decode cX9_makeBottle 58 = .ok (.aload_n 0, 1) := by decide +kernel
theorem dX9_makeBottle_59 : decode cX9_makeBottle 59 = .ok (.getfield 40, 3) := by decide +kernel
theorem dX9_makeBottle_62 : decode cX9_makeBottle 62 = .ok (.invokevirtual 288, 3) := by decide +kernel
theorem dX9_makeBottle_65 : decode cX9_makeBottle 65 = .ok (.astore 4, 2) := by decide +kernel
theorem dX9_makeBottle_67 : decode cX9_makeBottle 67 = .ok (.aload 4, 2) := by decide +kernel
theorem dX9_makeBottle_69 : decode cX9_makeBottle 69 = .ok (.aload_n 0, 1) := by decide +kernel
theorem dX9_makeBottle_70 : decode cX9_makeBottle 70 = .ok (.getfield 73, 3) := by decide +kernel
theorem dX9_makeBottle_73 : decode cX9_makeBottle 73 = .ok (.putfield 261, 3) := by decide +kernel
theorem dX9_makeBottle_76 : decode cX9_makeBottle 76 = .ok (.aload 4, 2) := by decide +kernel
theorem dX9_makeBottle_78 : decode cX9_makeBottle 78 = .ok (.iload_n 1, 1) := by decide +kernel
theorem dX9_makeBottle_79 : decode cX9_makeBottle 79 = .ok (.putfield 266, 3) := by decide +kernel
theorem dX9_makeBottle_82 : decode cX9_makeBottle 82 = .ok (.aload 4, 2) := by decide +kernel
theorem dX9_makeBottle_84 : decode cX9_makeBottle 84 = .ok (.iload_n 2, 1) := by decide +kernel
theorem dX9_makeBottle_85 : decode cX9_makeBottle 85 = .ok (.putfield 269, 3) := by decide +kernel
theorem dX9_makeBottle_88 : decode cX9_makeBottle 88 = .ok (.aload 4, 2) := by decide +kernel
theorem dX9_makeBottle_90 : decode cX9_makeBottle 90 = .ok (.iload_n 3, 1) := by decide +kernel
theorem dX9_makeBottle_91 : decode cX9_makeBottle 91 = .ok (.putfield 272, 3) := by decide +kernel
theorem dX9_makeBottle_94 : decode cX9_makeBottle 94 = .ok (.aload 4, 2) := by decide +kernel
theorem dX9_makeBottle_96 : decode cX9_makeBottle 96 = .ok (.aload_n 0, 1) := by decide +kernel
theorem dX9_makeBottle_97 : decode cX9_makeBottle 97 = .ok (.getfield 48, 3) := by decide +kernel
theorem dX9_makeBottle_100 : decode cX9_makeBottle 100 = .ok (.iload_n 3, 1) := by decide +kernel
theorem dX9_makeBottle_101 : decode cX9_makeBottle 101 = .ok (.iaload, 1) := by decide +kernel
theorem dX9_makeBottle_102 : decode cX9_makeBottle 102 = .ok (.putfield 292, 3) := by decide +kernel
theorem dX9_makeBottle_105 : decode cX9_makeBottle 105 = .ok (.aload 4, 2) := by decide +kernel
theorem dX9_makeBottle_107 : decode cX9_makeBottle 107 = .ok (.aload_n 0, 1) := by decide +kernel
theorem dX9_makeBottle_108 : decode cX9_makeBottle 108 = .ok (.getfield 64, 3) := by decide +kernel
theorem dX9_makeBottle_111 : decode cX9_makeBottle 111 = .ok (.aload_n 0, 1) := by decide +kernel
theorem dX9_makeBottle_112 : decode cX9_makeBottle 112 = .ok (.getfield 67, 3) := by decide +kernel
theorem dX9_makeBottle_115 : decode cX9_makeBottle 115 = .ok (.iadd, 1) := by decide +kernel
theorem dX9_makeBottle_116 : decode cX9_makeBottle 116 = .ok (.aload 4, 2) := by decide +kernel
theorem dX9_makeBottle_118 : decode cX9_makeBottle 118 = .ok (.getfield 292, 3) := by decide +kernel
theorem dX9_makeBottle_121 : decode cX9_makeBottle 121 = .ok (.iadd, 1) := by decide +kernel
theorem dX9_makeBottle_122 : decode cX9_makeBottle 122 = .ok (.sipush 500, 3) := by decide +kernel
theorem dX9_makeBottle_125 : decode cX9_makeBottle 125 = .ok (.isub, 1) := by decide +kernel
theorem dX9_makeBottle_126 : decode cX9_makeBottle 126 = .ok (.putfield 275, 3) := by decide +kernel
theorem dX9_makeBottle_129 : decode cX9_makeBottle 129 = .ok (.aload 4, 2) := by decide +kernel
theorem dX9_makeBottle_131 : decode cX9_makeBottle 131 = .ok (.aload_n 0, 1) := by decide +kernel
theorem dX9_makeBottle_132 : decode cX9_makeBottle 132 = .ok (.iload_n 3, 1) := by decide +kernel
theorem dX9_makeBottle_133 : decode cX9_makeBottle 133 = .ok (.iload_n 2, 1) := by decide +kernel
theorem dX9_makeBottle_134 : decode cX9_makeBottle 134 = .ok (.invokevirtual 295, 3) := by decide +kernel
theorem dX9_makeBottle_137 : decode cX9_makeBottle 137 = .ok (.putfield 298, 3) := by decide +kernel
theorem dX9_makeBottle_140 : decode cX9_makeBottle 140 = .ok (.aload_n 0, 1) := by decide +kernel
theorem dX9_makeBottle_141 : decode cX9_makeBottle 141 = .ok (.dup, 1) := by decide +kernel
theorem dX9_makeBottle_142 : decode cX9_makeBottle 142 = .ok (.getfield 73, 3) := by decide +kernel
theorem dX9_makeBottle_145 : decode cX9_makeBottle 145 = .ok (.iconst 1, 1) := by decide +kernel
theorem dX9_makeBottle_146 : decode cX9_makeBottle 146 = .ok (.iadd, 1) := by decide +kernel
theorem dX9_makeBottle_147 : decode cX9_makeBottle 147 = .ok (.putfield 73, 3) := by decide +kernel
theorem dX9_makeBottle_150 : decode cX9_makeBottle 150 = .ok (.aload_n 0, 1) := by decide +kernel
theorem dX9_makeBottle_151 : decode cX9_makeBottle 151 = .ok (.getfield 61, 3) := by decide +kernel
theorem dX9_makeBottle_154 : decode cX9_makeBottle 154 = .ok (.ifCond .le 13, 3) := by decide +kernel
theorem dX9_makeBottle_157 : decode cX9_makeBottle 157 = .ok (.aload_n 0, 1) := by decide +kernel
theorem dX9_makeBottle_158 : decode cX9_makeBottle 158 = .ok (.dup, 1) := by decide +kernel
theorem dX9_makeBottle_159 : decode cX9_makeBottle 159 = .ok (.getfield 61, 3) := by decide +kernel
theorem dX9_makeBottle_162 : decode cX9_makeBottle 162 = .ok (.iconst 1, 1) := by decide +kernel
theorem dX9_makeBottle_163 : decode cX9_makeBottle 163 = .ok (.isub, 1) := by decide +kernel
theorem dX9_makeBottle_164 : decode cX9_makeBottle 164 = .ok (.putfield 61, 3) := by decide +kernel
theorem dX9_makeBottle_167 : decode cX9_makeBottle 167 = .ok (.return_, 1) := by decide +kernel
theorem dX9_faultOfCut_0 : decode cX9_faultOfCut 0 = .ok (.aload_n 0, 1) := by decide +kernel
theorem dX9_faultOfCut_1 : decode cX9_faultOfCut 1 = .ok (.getfield 61, 3) := by decide +kernel
theorem dX9_faultOfCut_4 : decode cX9_faultOfCut 4 = .ok (.ifCond .le 5, 3) := by decide +kernel
theorem dX9_faultOfCut_7 : decode cX9_faultOfCut 7 = .ok (.iconst 1, 1) := by decide +kernel
theorem dX9_faultOfCut_8 : decode cX9_faultOfCut 8 = .ok (.ireturn, 1) := by decide +kernel
theorem dX9_faultOfCut_9 : decode cX9_faultOfCut 9 = .ok (.aload_n 0, 1) := by decide +kernel
theorem dX9_faultOfCut_10 : decode cX9_faultOfCut 10 = .ok (.getfield 51, 3) := by decide +kernel
theorem dX9_faultOfCut_13 : decode cX9_faultOfCut 13 = .ok (.iload_n 1, 1) := by decide +kernel
theorem dX9_faultOfCut_14 : decode cX9_faultOfCut 14 = .ok (.iaload, 1) := by decide +kernel
theorem dX9_faultOfCut_15 : decode cX9_faultOfCut 15 = .ok (.aload_n 0, 1) := by decide +kernel
theorem dX9_faultOfCut_16 : decode cX9_faultOfCut 16 = .ok (.getfield 57, 3) := by decide +kernel
theorem dX9_faultOfCut_19 : decode cX9_faultOfCut 19 = .ok (.if_icmp .eq 5, 3) := by decide +kernel
theorem dX9_faultOfCut_22 : decode cX9_faultOfCut 22 = .ok (.iconst 2, 1) := by decide +kernel
theorem dX9_faultOfCut_23 : decode cX9_faultOfCut 23 = .ok (.ireturn, 1) := by decide +kernel
theorem dX9_faultOfCut_24 : decode cX9_faultOfCut 24 = .ok (.aload_n 0, 1) := by decide +kernel
theorem dX9_faultOfCut_25 : decode cX9_faultOfCut 25 = .ok (.getfield 33, 3) := by decide +kernel
theorem dX9_faultOfCut_28 : decode cX9_faultOfCut 28 = .ok (.getfield 231, 3) := by decide +kernel
theorem dX9_faultOfCut_31 : decode cX9_faultOfCut 31 = .ok (.iload_n 2, 1) := by decide +kernel
theorem dX9_faultOfCut_32 : decode cX9_faultOfCut 32 = .ok (.iaload, 1) := by decide +kernel
theorem dX9_faultOfCut_33 : decode cX9_faultOfCut 33 = .ok (.bipush 8, 2) := by decide +kernel
theorem dX9_faultOfCut_35 : decode cX9_faultOfCut 35 = .ok (.if_icmp .le 5, 3) := by decide +kernel
theorem dX9_faultOfCut_38 : decode cX9_faultOfCut 38 = .ok (.iconst 3, 1) := by decide +kernel
theorem dX9_faultOfCut_39 : decode cX9_faultOfCut 39 = .ok (.ireturn, 1) := by decide +kernel
theorem dX9_faultOfCut_40 : decode cX9_faultOfCut 40 = .ok (.aload_n 0, 1) := by decide +kernel
theorem dX9_faultOfCut_41 : decode cX9_faultOfCut 41 = .ok (.getfield 33, 3) := by decide +kernel
theorem dX9_faultOfCut_44 : decode cX9_faultOfCut 44 = .ok (.getfield 234, 3) := by decide +kernel
theorem dX9_faultOfCut_47 : decode cX9_faultOfCut 47 = .ok (.iload_n 2, 1) := by decide +kernel
theorem dX9_faultOfCut_48 : decode cX9_faultOfCut 48 = .ok (.iaload, 1) := by decide +kernel
theorem dX9_faultOfCut_49 : decode cX9_faultOfCut 49 = .ok (.aload_n 0, 1) := by decide +kernel
theorem dX9_faultOfCut_50 : decode cX9_faultOfCut 50 = .ok (.getfield 70, 3) := by decide +kernel
theorem dX9_faultOfCut_53 : decode cX9_faultOfCut 53 = .ok (.if_icmp .le 7, 3) := by decide +kernel
theorem dX9_faultOfCut_56 : decode cX9_faultOfCut 56 = .ok (.iconst 4, 1) := by decide +kernel
theorem dX9_faultOfCut_57 : decode cX9_faultOfCut 57 = .ok (.goto 4, 3) := by decide +kernel
theorem dX9_faultOfCut_60 : decode cX9_faultOfCut 60 = .ok (.iconst 0, 1) := by decide +kernel
theorem dX9_faultOfCut_61 : decode cX9_faultOfCut 61 = .ok (.ireturn, 1) := by decide +kernel
theorem dX9_verdict_0 : decode cX9_verdict 0 = .ok (.aload_n 1, 1) := by decide +kernel
theorem dX9_verdict_1 : decode cX9_verdict 1 = .ok (.getfield 298, 3) := by decide +kernel
theorem dX9_verdict_4 : decode cX9_verdict 4 = .ok (.ifCond .eq 8, 3) := by decide +kernel
theorem dX9_verdict_7 : decode cX9_verdict 7 = .ok (.aload_n 1, 1) := by decide +kernel
theorem dX9_verdict_8 : decode cX9_verdict 8 = .ok (.getfield 298, 3) := by decide +kernel
theorem dX9_verdict_11 : decode cX9_verdict 11 = .ok (.ireturn, 1) := by decide +kernel
theorem dX9_verdict_12 : decode cX9_verdict 12 = .ok (.aload_n 0, 1) := by decide +kernel
theorem dX9_verdict_13 : decode cX9_verdict 13 = .ok (.getfield 33, 3) := by decide +kernel
theorem dX9_verdict_16 : decode cX9_verdict 16 = .ok (.getfield 240, 3) := by decide +kernel
theorem dX9_verdict_19 : decode cX9_verdict 19 = .ok (.aload_n 1, 1) := by decide +kernel
theorem dX9_verdict_20 : decode cX9_verdict 20 = .ok (.getfield 269, 3) := by decide +kernel
theorem dX9_verdict_23 : decode cX9_verdict 23 = .ok (.baload, 1) := by decide +kernel
theorem dX9_verdict_24 : decode cX9_verdict 24 = .ok (.ifCond .eq 5, 3) := by decide +kernel
theorem dX9_verdict_27 : decode cX9_verdict 27 = .ok (.iconst 5, 1) := by decide +kernel
theorem dX9_verdict_28 : decode cX9_verdict 28 = .ok (.ireturn, 1) := by decide +kernel
theorem dX9_verdict_29 : decode cX9_verdict 29 = .ok (.aload_n 1, 1) := by decide +kernel
theorem dX9_verdict_30 : decode cX9_verdict 30 = .ok (.getfield 275, 3) := by decide +kernel
theorem dX9_verdict_33 : decode cX9_verdict 33 = .ok (.aload_n 1, 1) := by decide +kernel
theorem dX9_verdict_34 : decode cX9_verdict 34 = .ok (.getfield 292, 3) := by decide +kernel
theorem dX9_verdict_37 : decode cX9_verdict 37 = .ok (.isub, 1) := by decide +kernel
theorem dX9_verdict_38 : decode cX9_verdict 38 = .ok (.invokestatic 301, 3) := by decide +kernel
theorem dX9_verdict_41 : decode cX9_verdict 41 = .ok (.bipush 20, 2) := by decide +kernel
theorem dX9_verdict_43 : decode cX9_verdict 43 = .ok (.if_icmp .le 8, 3) := by decide +kernel
theorem dX9_verdict_46 : decode cX9_verdict 46 = .ok (.bipush 6, 2) := by decide +kernel
theorem dX9_verdict_48 : decode cX9_verdict 48 = .ok (.goto 4, 3) := by decide +kernel
theorem dX9_verdict_51 : decode cX9_verdict 51 = .ok (.iconst 0, 1) := by decide +kernel
theorem dX9_verdict_52 : decode cX9_verdict 52 = .ok (.ireturn, 1) := by decide +kernel
set_option maxRecDepth 20000 in
theorem ggX9_takeOffEldest_X0_takeEldest : GoodIn wsX9_takeOffEldest wsX0_takeEldest := goodIn_r _ [20, 21, 22, 23, 63, 64, 65] (by decide +kernel) (by decide +kernel)
set_option maxRecDepth 20000 in
theorem gX9_takeOffEldest_X0_takeEldest : GoodIn wsX9_takeOffEldest (wsV RX9 306 RX0 yX0_takeEldest wsX0_takeEldest) := goodIn_app (goodIn_of _ (by decide +kernel)) ggX9_takeOffEldest_X0_takeEldest
set_option maxRecDepth 20000 in
theorem ggX9_takeOffEldest_X9_verdict : GoodIn wsX9_takeOffEldest wsX9_verdict := goodIn_r _ [28, 29, 3, 30, 4, 8, 7, 31, 32, 11, 33, 56, 57, 58, 59, 60, 61, 62, 41, 42, 43, 44, 45, 46, 47, 48, 49, 50, 51, 52, 53, 54, 55, 66, 67, 68, 69, 70, 71] (by decide +kernel) (by decide +kernel)
set_option maxRecDepth 20000 in
theorem gX9_takeOffEldest_X9_verdict : GoodIn wsX9_takeOffEldest (wsV RX9 278 RX9 yX9_verdict wsX9_verdict) := goodIn_app (goodIn_of _ (by decide +kernel)) ggX9_takeOffEldest_X9_verdict
set_option maxRecDepth 20000 in
theorem ggX9_takeOffEldest_X5_enter : GoodIn wsX9_takeOffEldest wsX5_enter := goodIn_r _ [38, 39, 40, 66, 67, 68, 69, 70, 71] (by decide +kernel) (by decide +kernel)
set_option maxRecDepth 20000 in
theorem gX9_takeOffEldest_X5_enter : GoodIn wsX9_takeOffEldest (wsV RX9 309 RX5 yX5_enter wsX5_enter) := goodIn_app (goodIn_of _ (by decide +kernel)) ggX9_takeOffEldest_X5_enter
theorem dX9_takeOffEldest_0 : decode cX9_takeOffEldest 0 = .ok (.aload_n 0, 1) := by decide +kernel
theorem dX9_takeOffEldest_1 : decode cX9_takeOffEldest 1 = .ok (.getfield 40, 3) := by decide +kernel
theorem dX9_takeOffEldest_4 : decode cX9_takeOffEldest 4 = .ok (.invokevirtual 306, 3) := by decide +kernel
theorem dX9_takeOffEldest_7 : decode cX9_takeOffEldest 7 = .ok (.astore_n 1, 1) := by decide +kernel
theorem dX9_takeOffEldest_8 : decode cX9_takeOffEldest 8 = .ok (.aload_n 0, 1) := by decide +kernel
theorem dX9_takeOffEldest_9 : decode cX9_takeOffEldest 9 = .ok (.aload_n 1, 1) := by decide +kernel
theorem dX9_takeOffEldest_10 : decode cX9_takeOffEldest 10 = .ok (.invokevirtual 278, 3) := by decide +kernel
theorem dX9_takeOffEldest_13 : decode cX9_takeOffEldest 13 = .ok (.istore_n 2, 1) := by decide +kernel
theorem dX9_takeOffEldest_14 : decode cX9_takeOffEldest 14 = .ok (.aload_n 0, 1) := by decide +kernel
theorem dX9_takeOffEldest_15 : decode cX9_takeOffEldest 15 = .ok (.getfield 54, 3) := by decide +kernel
theorem dX9_takeOffEldest_18 : decode cX9_takeOffEldest 18 = .ok (.iload_n 2, 1) := by decide +kernel
theorem dX9_takeOffEldest_19 : decode cX9_takeOffEldest 19 = .ok (.dup2, 1) := by decide +kernel
theorem dX9_takeOffEldest_20 : decode cX9_takeOffEldest 20 = .ok (.iaload, 1) := by decide +kernel
theorem dX9_takeOffEldest_21 : decode cX9_takeOffEldest 21 = .ok (.iconst 1, 1) := by decide +kernel
theorem dX9_takeOffEldest_22 : decode cX9_takeOffEldest 22 = .ok (.iadd, 1) := by decide +kernel
theorem dX9_takeOffEldest_23 : decode cX9_takeOffEldest 23 = .ok (.iastore, 1) := by decide +kernel
theorem dX9_takeOffEldest_24 : decode cX9_takeOffEldest 24 = .ok (.aload_n 0, 1) := by decide +kernel
theorem dX9_takeOffEldest_25 : decode cX9_takeOffEldest 25 = .ok (.getfield 33, 3) := by decide +kernel
theorem dX9_takeOffEldest_28 : decode cX9_takeOffEldest 28 = .ok (.aload_n 1, 1) := by decide +kernel
theorem dX9_takeOffEldest_29 : decode cX9_takeOffEldest 29 = .ok (.getfield 269, 3) := by decide +kernel
theorem dX9_takeOffEldest_32 : decode cX9_takeOffEldest 32 = .ok (.iload_n 2, 1) := by decide +kernel
theorem dX9_takeOffEldest_33 : decode cX9_takeOffEldest 33 = .ok (.ifCond .ne 7, 3) := by decide +kernel
theorem dX9_takeOffEldest_36 : decode cX9_takeOffEldest 36 = .ok (.iconst 1, 1) := by decide +kernel
theorem dX9_takeOffEldest_37 : decode cX9_takeOffEldest 37 = .ok (.goto 4, 3) := by decide +kernel
theorem dX9_takeOffEldest_40 : decode cX9_takeOffEldest 40 = .ok (.iconst 0, 1) := by decide +kernel
theorem dX9_takeOffEldest_41 : decode cX9_takeOffEldest 41 = .ok (.invokevirtual 309, 3) := by decide +kernel
theorem dX9_takeOffEldest_44 : decode cX9_takeOffEldest 44 = .ok (.aload_n 1, 1) := by decide +kernel
theorem dX9_takeOffEldest_45 : decode cX9_takeOffEldest 45 = .ok (.getfield 261, 3) := by decide +kernel
theorem dX9_takeOffEldest_48 : decode cX9_takeOffEldest 48 = .ok (.iconst 4, 1) := by decide +kernel
theorem dX9_takeOffEldest_49 : decode cX9_takeOffEldest 49 = .ok (.irem, 1) := by decide +kernel
theorem dX9_takeOffEldest_50 : decode cX9_takeOffEldest 50 = .ok (.ifCond .ne 36, 3) := by decide +kernel
theorem dX9_takeOffEldest_53 : decode cX9_takeOffEldest 53 = .ok (.aload_n 0, 1) := by decide +kernel
theorem dX9_takeOffEldest_54 : decode cX9_takeOffEldest 54 = .ok (.getfield 64, 3) := by decide +kernel
theorem dX9_takeOffEldest_57 : decode cX9_takeOffEldest 57 = .ok (.aload_n 1, 1) := by decide +kernel
theorem dX9_takeOffEldest_58 : decode cX9_takeOffEldest 58 = .ok (.getfield 292, 3) := by decide +kernel
theorem dX9_takeOffEldest_61 : decode cX9_takeOffEldest 61 = .ok (.aload_n 1, 1) := by decide +kernel
theorem dX9_takeOffEldest_62 : decode cX9_takeOffEldest 62 = .ok (.getfield 275, 3) := by decide +kernel
theorem dX9_takeOffEldest_65 : decode cX9_takeOffEldest 65 = .ok (.isub, 1) := by decide +kernel
theorem dX9_takeOffEldest_66 : decode cX9_takeOffEldest 66 = .ok (.iconst 2, 1) := by decide +kernel
theorem dX9_takeOffEldest_67 : decode cX9_takeOffEldest 67 = .ok (.idiv, 1) := by decide +kernel
theorem dX9_takeOffEldest_68 : decode cX9_takeOffEldest 68 = .ok (.iadd, 1) := by decide +kernel
theorem dX9_takeOffEldest_69 : decode cX9_takeOffEldest 69 = .ok (.istore_n 3, 1) := by decide +kernel
theorem dX9_takeOffEldest_70 : decode cX9_takeOffEldest 70 = .ok (.aload_n 0, 1) := by decide +kernel
theorem dX9_takeOffEldest_71 : decode cX9_takeOffEldest 71 = .ok (.bipush 100, 2) := by decide +kernel
theorem dX9_takeOffEldest_73 : decode cX9_takeOffEldest 73 = .ok (.sipush 900, 3) := by decide +kernel
theorem dX9_takeOffEldest_76 : decode cX9_takeOffEldest 76 = .ok (.iload_n 3, 1) := by decide +kernel
theorem dX9_takeOffEldest_77 : decode cX9_takeOffEldest 77 = .ok (.invokestatic 313, 3) := by decide +kernel
theorem dX9_takeOffEldest_80 : decode cX9_takeOffEldest 80 = .ok (.invokestatic 316, 3) := by decide +kernel
theorem dX9_takeOffEldest_83 : decode cX9_takeOffEldest 83 = .ok (.putfield 64, 3) := by decide +kernel
theorem dX9_takeOffEldest_86 : decode cX9_takeOffEldest 86 = .ok (.return_, 1) := by decide +kernel
set_option maxRecDepth 20000 in
theorem ggX9_isSetting_X9_isSection : GoodIn wsX9_isSetting wsX9_isSection := goodIn_r _ [4, 5, 6, 3, 7] (by decide +kernel) (by decide +kernel)
set_option maxRecDepth 20000 in
theorem gX9_isSetting_X9_isSection : GoodIn wsX9_isSetting (va_wsS RX9 94 yX9_isSection wsX9_isSection) := goodIn_app (goodIn_of _ (by decide +kernel)) ggX9_isSetting_X9_isSection
set_option maxRecDepth 20000 in
theorem ggX9_isSetting_X9_isAct : GoodIn wsX9_isSetting wsX9_isAct := goodIn_r _ [10, 5, 6, 3, 7] (by decide +kernel) (by decide +kernel)
set_option maxRecDepth 20000 in
theorem gX9_isSetting_X9_isAct : GoodIn wsX9_isSetting (va_wsS RX9 140 yX9_isAct wsX9_isAct) := goodIn_app (goodIn_of _ (by decide +kernel)) ggX9_isSetting_X9_isAct
set_option maxRecDepth 20000 in
theorem ggX9_isSetting_X9_isDegree : GoodIn wsX9_isSetting wsX9_isDegree := goodIn_r _ [13, 5, 6, 3, 7] (by decide +kernel) (by decide +kernel)
set_option maxRecDepth 20000 in
theorem gX9_isSetting_X9_isDegree : GoodIn wsX9_isSetting (va_wsS RX9 152 yX9_isDegree wsX9_isDegree) := goodIn_app (goodIn_of _ (by decide +kernel)) ggX9_isSetting_X9_isDegree
theorem dX9_isSetting_0 : decode cX9_isSetting 0 = .ok (.iload_n 0, 1) := by decide +kernel
theorem dX9_isSetting_1 : decode cX9_isSetting 1 = .ok (.invokestatic 94, 3) := by decide +kernel
theorem dX9_isSetting_4 : decode cX9_isSetting 4 = .ok (.ifCond .eq 33, 3) := by decide +kernel
theorem dX9_isSetting_7 : decode cX9_isSetting 7 = .ok (.iload_n 1, 1) := by decide +kernel
theorem dX9_isSetting_8 : decode cX9_isSetting 8 = .ok (.invokestatic 140, 3) := by decide +kernel
theorem dX9_isSetting_11 : decode cX9_isSetting 11 = .ok (.ifCond .eq 26, 3) := by decide +kernel
theorem dX9_isSetting_14 : decode cX9_isSetting 14 = .ok (.iload_n 2, 1) := by decide +kernel
theorem dX9_isSetting_15 : decode cX9_isSetting 15 = .ok (.invokestatic 152, 3) := by decide +kernel
theorem dX9_isSetting_18 : decode cX9_isSetting 18 = .ok (.ifCond .eq 19, 3) := by decide +kernel
theorem dX9_isSetting_21 : decode cX9_isSetting 21 = .ok (.iload_n 3, 1) := by decide +kernel
theorem dX9_isSetting_22 : decode cX9_isSetting 22 = .ok (.invokestatic 152, 3) := by decide +kernel
theorem dX9_isSetting_25 : decode cX9_isSetting 25 = .ok (.ifCond .eq 12, 3) := by decide +kernel
theorem dX9_isSetting_28 : decode cX9_isSetting 28 = .ok (.iload_n 2, 1) := by decide +kernel
theorem dX9_isSetting_29 : decode cX9_isSetting 29 = .ok (.iload_n 3, 1) := by decide +kernel
theorem dX9_isSetting_30 : decode cX9_isSetting 30 = .ok (.if_icmp .eq 7, 3) := by decide +kernel
theorem dX9_isSetting_33 : decode cX9_isSetting 33 = .ok (.iconst 1, 1) := by decide +kernel
theorem dX9_isSetting_34 : decode cX9_isSetting 34 = .ok (.goto 4, 3) := by decide +kernel
theorem dX9_isSetting_37 : decode cX9_isSetting 37 = .ok (.iconst 0, 1) := by decide +kernel
theorem dX9_isSetting_38 : decode cX9_isSetting 38 = .ok (.ireturn, 1) := by decide +kernel
set_option maxRecDepth 20000 in
theorem ggX9_isLaw_X9_isBetween : GoodIn wsX9_isLaw wsX9_isBetween := goodIn_r _ [5] (by decide +kernel) (by decide +kernel)
set_option maxRecDepth 20000 in
theorem gX9_isLaw_X9_isBetween : GoodIn wsX9_isLaw (va_wsS RX9 98 yX9_isBetween wsX9_isBetween) := goodIn_app (goodIn_of _ (by decide +kernel)) ggX9_isLaw_X9_isBetween
set_option maxRecDepth 20000 in
theorem ggX9_isLaw_X9_isAct : GoodIn wsX9_isLaw wsX9_isAct := goodIn_r _ [8, 2, 3, 4, 5] (by decide +kernel) (by decide +kernel)
set_option maxRecDepth 20000 in
theorem gX9_isLaw_X9_isAct : GoodIn wsX9_isLaw (va_wsS RX9 140 yX9_isAct wsX9_isAct) := goodIn_app (goodIn_of _ (by decide +kernel)) ggX9_isLaw_X9_isAct
theorem dX9_isLaw_0 : decode cX9_isLaw 0 = .ok (.iload_n 0, 1) := by decide +kernel
theorem dX9_isLaw_1 : decode cX9_isLaw 1 = .ok (.iconst 0, 1) := by decide +kernel
theorem dX9_isLaw_2 : decode cX9_isLaw 2 = .ok (.iconst 3, 1) := by decide +kernel
theorem dX9_isLaw_3 : decode cX9_isLaw 3 = .ok (.invokestatic 98, 3) := by decide +kernel
theorem dX9_isLaw_6 : decode cX9_isLaw 6 = .ok (.ifCond .eq 17, 3) := by decide +kernel
theorem dX9_isLaw_9 : decode cX9_isLaw 9 = .ok (.iload_n 1, 1) := by decide +kernel
theorem dX9_isLaw_10 : decode cX9_isLaw 10 = .ok (.invokestatic 140, 3) := by decide +kernel
theorem dX9_isLaw_13 : decode cX9_isLaw 13 = .ok (.ifCond .eq 10, 3) := by decide +kernel
theorem dX9_isLaw_16 : decode cX9_isLaw 16 = .ok (.iload_n 2, 1) := by decide +kernel
theorem dX9_isLaw_17 : decode cX9_isLaw 17 = .ok (.invokestatic 140, 3) := by decide +kernel
theorem dX9_isLaw_20 : decode cX9_isLaw 20 = .ok (.ifCond .ne 5, 3) := by decide +kernel
theorem dX9_isLaw_23 : decode cX9_isLaw 23 = .ok (.iconst 0, 1) := by decide +kernel
theorem dX9_isLaw_24 : decode cX9_isLaw 24 = .ok (.ireturn, 1) := by decide +kernel
theorem dX9_isLaw_25 : decode cX9_isLaw 25 = .ok (.iload_n 1, 1) := by decide +kernel
theorem dX9_isLaw_26 : decode cX9_isLaw 26 = .ok (.iload_n 2, 1) := by decide +kernel
theorem dX9_isLaw_27 : decode cX9_isLaw 27 = .ok (.if_icmp .ne 10, 3) := by decide +kernel
theorem dX9_isLaw_30 : decode cX9_isLaw 30 = .ok (.iload_n 0, 1) := by decide +kernel
theorem dX9_isLaw_31 : decode cX9_isLaw 31 = .ok (.iconst 2, 1) := by decide +kernel
theorem dX9_isLaw_32 : decode cX9_isLaw 32 = .ok (.if_icmp .eq 5, 3) := by decide +kernel
theorem dX9_isLaw_35 : decode cX9_isLaw 35 = .ok (.iconst 0, 1) := by decide +kernel
theorem dX9_isLaw_36 : decode cX9_isLaw 36 = .ok (.ireturn, 1) := by decide +kernel
theorem dX9_isLaw_37 : decode cX9_isLaw 37 = .ok (.iload_n 3, 1) := by decide +kernel
theorem dX9_isLaw_38 : decode cX9_isLaw 38 = .ok (.iconst 0, 1) := by decide +kernel
theorem dX9_isLaw_39 : decode cX9_isLaw 39 = .ok (.iload_n 0, 1) := by decide +kernel
theorem dX9_isLaw_40 : decode cX9_isLaw 40 = .ok (.ifCond .ne 9, 3) := by decide +kernel
theorem dX9_isLaw_43 : decode cX9_isLaw 43 = .ok (.sipush 359, 3) := by decide +kernel
theorem dX9_isLaw_46 : decode cX9_isLaw 46 = .ok (.goto 6, 3) := by decide +kernel
theorem dX9_isLaw_49 : decode cX9_isLaw 49 = .ok (.ldc_w 319, 3) := by decide +kernel
theorem dX9_isLaw_52 : decode cX9_isLaw 52 = .ok (.invokestatic 98, 3) := by decide +kernel
theorem dX9_isLaw_55 : decode cX9_isLaw 55 = .ok (.ireturn, 1) := by decide +kernel
theorem dX9_isBetween_0 : decode cX9_isBetween 0 = .ok (.iload_n 0, 1) := by decide +kernel
theorem dX9_isBetween_1 : decode cX9_isBetween 1 = .ok (.iload_n 1, 1) := by decide +kernel
theorem dX9_isBetween_2 : decode cX9_isBetween 2 = .ok (.if_icmp .lt 12, 3) := by decide +kernel
theorem dX9_isBetween_5 : decode cX9_isBetween 5 = .ok (.iload_n 0, 1) := by decide +kernel
theorem dX9_isBetween_6 : decode cX9_isBetween 6 = .ok (.iload_n 2, 1) := by decide +kernel
theorem dX9_isBetween_7 : decode cX9_isBetween 7 = .ok (.if_icmp .gt 7, 3) := by decide +kernel
theorem dX9_isBetween_10 : decode cX9_isBetween 10 = .ok (.iconst 1, 1) := by decide +kernel
theorem dX9_isBetween_11 : decode cX9_isBetween 11 = .ok (.goto 4, 3) := by decide +kernel
theorem dX9_isBetween_14 : decode cX9_isBetween 14 = .ok (.iconst 0, 1) := by decide +kernel
theorem dX9_isBetween_15 : decode cX9_isBetween 15 = .ok (.ireturn, 1) := by decide +kernel
set_option maxRecDepth 20000 in
theorem ggX9_isDegree_X9_isBetween : GoodIn wsX9_isDegree wsX9_isBetween := goodIn_r _ [4] (by decide +kernel) (by decide +kernel)
set_option maxRecDepth 20000 in
theorem gX9_isDegree_X9_isBetween : GoodIn wsX9_isDegree (va_wsS RX9 98 yX9_isBetween wsX9_isBetween) := goodIn_app (goodIn_of _ (by decide +kernel)) ggX9_isDegree_X9_isBetween
theorem dX9_isDegree_0 : decode cX9_isDegree 0 = .ok (.iload_n 0, 1) := by decide +kernel
theorem dX9_isDegree_1 : decode cX9_isDegree 1 = .ok (.iconst 0, 1) := by decide +kernel
theorem dX9_isDegree_2 : decode cX9_isDegree 2 = .ok (.sipush 359, 3) := by decide +kernel
theorem dX9_isDegree_5 : decode cX9_isDegree 5 = .ok (.invokestatic 98, 3) := by decide +kernel
theorem dX9_isDegree_8 : decode cX9_isDegree 8 = .ok (.ireturn, 1) := by decide +kernel
set_option maxRecDepth 20000 in
theorem ggX9_isSection_X9_isBetween : GoodIn wsX9_isSection wsX9_isBetween := goodIn_r _ [4] (by decide +kernel) (by decide +kernel)
set_option maxRecDepth 20000 in
theorem gX9_isSection_X9_isBetween : GoodIn wsX9_isSection (va_wsS RX9 98 yX9_isBetween wsX9_isBetween) := goodIn_app (goodIn_of _ (by decide +kernel)) ggX9_isSection_X9_isBetween
theorem dX9_isSection_0 : decode cX9_isSection 0 = .ok (.iload_n 0, 1) := by decide +kernel
theorem dX9_isSection_1 : decode cX9_isSection 1 = .ok (.iconst 0, 1) := by decide +kernel
theorem dX9_isSection_2 : decode cX9_isSection 2 = .ok (.iconst 5, 1) := by decide +kernel
theorem dX9_isSection_3 : decode cX9_isSection 3 = .ok (.invokestatic 98, 3) := by decide +kernel
theorem dX9_isSection_6 : decode cX9_isSection 6 = .ok (.ireturn, 1) := by decide +kernel
set_option maxRecDepth 20000 in
theorem ggX9_isAct_X9_isBetween : GoodIn wsX9_isAct wsX9_isBetween := goodIn_r _ [4] (by decide +kernel) (by decide +kernel)
set_option maxRecDepth 20000 in
theorem gX9_isAct_X9_isBetween : GoodIn wsX9_isAct (va_wsS RX9 98 yX9_isBetween wsX9_isBetween) := goodIn_app (goodIn_of _ (by decide +kernel)) ggX9_isAct_X9_isBetween
theorem dX9_isAct_0 : decode cX9_isAct 0 = .ok (.iload_n 0, 1) := by decide +kernel
theorem dX9_isAct_1 : decode cX9_isAct 1 = .ok (.iconst 0, 1) := by decide +kernel
theorem dX9_isAct_2 : decode cX9_isAct 2 = .ok (.bipush 7, 2) := by decide +kernel
theorem dX9_isAct_4 : decode cX9_isAct 4 = .ok (.invokestatic 98, 3) := by decide +kernel
theorem dX9_isAct_7 : decode cX9_isAct 7 = .ok (.ireturn, 1) := by decide +kernel
set_option maxRecDepth 20000 in
theorem ggX9_isArm_X9_isBetween : GoodIn wsX9_isArm wsX9_isBetween := goodIn_r _ [4] (by decide +kernel) (by decide +kernel)
set_option maxRecDepth 20000 in
theorem gX9_isArm_X9_isBetween : GoodIn wsX9_isArm (va_wsS RX9 98 yX9_isBetween wsX9_isBetween) := goodIn_app (goodIn_of _ (by decide +kernel)) ggX9_isArm_X9_isBetween
theorem dX9_isArm_0 : decode cX9_isArm 0 = .ok (.iload_n 0, 1) := by decide +kernel
theorem dX9_isArm_1 : decode cX9_isArm 1 = .ok (.iconst 0, 1) := by decide +kernel
theorem dX9_isArm_2 : decode cX9_isArm 2 = .ok (.iconst 2, 1) := by decide +kernel
theorem dX9_isArm_3 : decode cX9_isArm 3 = .ok (.invokestatic 98, 3) := by decide +kernel
theorem dX9_isArm_6 : decode cX9_isArm 6 = .ok (.ireturn, 1) := by decide +kernel
set_option maxRecDepth 20000 in
theorem ggX9_isJob_X9_isBetween : GoodIn wsX9_isJob wsX9_isBetween := goodIn_r _ [4] (by decide +kernel) (by decide +kernel)
set_option maxRecDepth 20000 in
theorem gX9_isJob_X9_isBetween : GoodIn wsX9_isJob (va_wsS RX9 98 yX9_isBetween wsX9_isBetween) := goodIn_app (goodIn_of _ (by decide +kernel)) ggX9_isJob_X9_isBetween
theorem dX9_isJob_0 : decode cX9_isJob 0 = .ok (.iload_n 0, 1) := by decide +kernel
theorem dX9_isJob_1 : decode cX9_isJob 1 = .ok (.iconst 0, 1) := by decide +kernel
theorem dX9_isJob_2 : decode cX9_isJob 2 = .ok (.iconst 3, 1) := by decide +kernel
theorem dX9_isJob_3 : decode cX9_isJob 3 = .ok (.invokestatic 98, 3) := by decide +kernel
theorem dX9_isJob_6 : decode cX9_isJob 6 = .ok (.ireturn, 1) := by decide +kernel
set_option maxRecDepth 20000 in
theorem ggX9_isColour_X9_isBetween : GoodIn wsX9_isColour wsX9_isBetween := goodIn_r _ [4] (by decide +kernel) (by decide +kernel)
set_option maxRecDepth 20000 in
theorem gX9_isColour_X9_isBetween : GoodIn wsX9_isColour (va_wsS RX9 98 yX9_isBetween wsX9_isBetween) := goodIn_app (goodIn_of _ (by decide +kernel)) ggX9_isColour_X9_isBetween
theorem dX9_isColour_0 : decode cX9_isColour 0 = .ok (.iload_n 0, 1) := by decide +kernel
theorem dX9_isColour_1 : decode cX9_isColour 1 = .ok (.iconst 0, 1) := by decide +kernel
theorem dX9_isColour_2 : decode cX9_isColour 2 = .ok (.iconst 3, 1) := by decide +kernel
theorem dX9_isColour_3 : decode cX9_isColour 3 = .ok (.invokestatic 98, 3) := by decide +kernel
theorem dX9_isColour_6 : decode cX9_isColour 6 = .ok (.ireturn, 1) := by decide +kernel
set_option maxRecDepth 20000 in
theorem ggX9_isMould_X9_isBetween : GoodIn wsX9_isMould wsX9_isBetween := goodIn_r _ [4] (by decide +kernel) (by decide +kernel)
set_option maxRecDepth 20000 in
theorem gX9_isMould_X9_isBetween : GoodIn wsX9_isMould (va_wsS RX9 98 yX9_isBetween wsX9_isBetween) := goodIn_app (goodIn_of _ (by decide +kernel)) ggX9_isMould_X9_isBetween
theorem dX9_isMould_0 : decode cX9_isMould 0 = .ok (.iload_n 0, 1) := by decide +kernel
theorem dX9_isMould_1 : decode cX9_isMould 1 = .ok (.iconst 0, 1) := by decide +kernel
theorem dX9_isMould_2 : decode cX9_isMould 2 = .ok (.bipush 29, 2) := by decide +kernel
theorem dX9_isMould_4 : decode cX9_isMould 4 = .ok (.invokestatic 98, 3) := by decide +kernel
theorem dX9_isMould_7 : decode cX9_isMould 7 = .ok (.ireturn, 1) := by decide +kernel
theorem dX9_asNumber_0 : decode cX9_asNumber 0 = .ok (.iload_n 0, 1) := by decide +kernel
theorem dX9_asNumber_1 : decode cX9_asNumber 1 = .ok (.ifCond .eq 7, 3) := by decide +kernel
theorem dX9_asNumber_4 : decode cX9_asNumber 4 = .ok (.iconst 1, 1) := by decide +kernel
theorem dX9_asNumber_5 : decode cX9_asNumber 5 = .ok (.goto 4, 3) := by decide +kernel
theorem dX9_asNumber_8 : decode cX9_asNumber 8 = .ok (.iconst 0, 1) := by decide +kernel
theorem dX9_asNumber_9 : decode cX9_asNumber 9 = .ok (.ireturn, 1) := by decide +kernel
theorem dX9_wayUp_0 : decode cX9_wayUp 0 = .ok (.iload_n 1, 1) := by decide +kernel
theorem dX9_wayUp_1 : decode cX9_wayUp 1 = .ok (.iload_n 0, 1) := by decide +kernel
theorem dX9_wayUp_2 : decode cX9_wayUp 2 = .ok (.if_icmp .ge 13, 3) := by decide +kernel
theorem dX9_wayUp_5 : decode cX9_wayUp 5 = .ok (.iload_n 1, 1) := by decide +kernel
theorem dX9_wayUp_6 : decode cX9_wayUp 6 = .ok (.iload_n 0, 1) := by decide +kernel
theorem dX9_wayUp_7 : decode cX9_wayUp 7 = .ok (.isub, 1) := by decide +kernel
theorem dX9_wayUp_8 : decode cX9_wayUp 8 = .ok (.sipush 360, 3) := by decide +kernel
theorem dX9_wayUp_11 : decode cX9_wayUp 11 = .ok (.iadd, 1) := by decide +kernel
theorem dX9_wayUp_12 : decode cX9_wayUp 12 = .ok (.goto 6, 3) := by decide +kernel
theorem dX9_wayUp_15 : decode cX9_wayUp 15 = .ok (.iload_n 1, 1) := by decide +kernel
theorem dX9_wayUp_16 : decode cX9_wayUp 16 = .ok (.iload_n 0, 1) := by decide +kernel
theorem dX9_wayUp_17 : decode cX9_wayUp 17 = .ok (.isub, 1) := by decide +kernel
theorem dX9_wayUp_18 : decode cX9_wayUp 18 = .ok (.ireturn, 1) := by decide +kernel
theorem dX9_greatestDivisor_0 : decode cX9_greatestDivisor 0 = .ok (.iload_n 0, 1) := by decide +kernel
theorem dX9_greatestDivisor_1 : decode cX9_greatestDivisor 1 = .ok (.istore_n 2, 1) := by decide +kernel
theorem dX9_greatestDivisor_2 : decode cX9_greatestDivisor 2 = .ok (.iload_n 1, 1) := by decide +kernel
theorem dX9_greatestDivisor_3 : decode cX9_greatestDivisor 3 = .ok (.istore_n 3, 1) := by decide +kernel
theorem dX9_greatestDivisor_4 : decode cX9_greatestDivisor 4 = .ok (.iconst 0, 1) := by decide +kernel
theorem dX9_greatestDivisor_5 : decode cX9_greatestDivisor 5 = .ok (.istore 4, 2) := by decide +kernel
theorem dX9_greatestDivisor_7 : decode cX9_greatestDivisor 7 = .ok (.iload 4, 2) := by decide +kernel
theorem dX9_greatestDivisor_9 : decode cX9_greatestDivisor 9 = .ok (.bipush 64, 2) := by decide +kernel
theorem dX9_greatestDivisor_11 : decode cX9_greatestDivisor 11 = .ok (.if_icmp .ge 23, 3) := by decide +kernel
theorem dX9_greatestDivisor_14 : decode cX9_greatestDivisor 14 = .ok (.iload_n 3, 1) := by decide +kernel
theorem dX9_greatestDivisor_15 : decode cX9_greatestDivisor 15 = .ok (.ifCond .eq 19, 3) := by decide +kernel
theorem dX9_greatestDivisor_18 : decode cX9_greatestDivisor 18 = .ok (.iload_n 2, 1) := by decide +kernel
theorem dX9_greatestDivisor_19 : decode cX9_greatestDivisor 19 = .ok (.iload_n 3, 1) := by decide +kernel
theorem dX9_greatestDivisor_20 : decode cX9_greatestDivisor 20 = .ok (.irem, 1) := by decide +kernel
theorem dX9_greatestDivisor_21 : decode cX9_greatestDivisor 21 = .ok (.istore 5, 2) := by decide +kernel
theorem dX9_greatestDivisor_23 : decode cX9_greatestDivisor 23 = .ok (.iload_n 3, 1) := by decide +kernel
theorem dX9_greatestDivisor_24 : decode cX9_greatestDivisor 24 = .ok (.istore_n 2, 1) := by decide +kernel
theorem dX9_greatestDivisor_25 : decode cX9_greatestDivisor 25 = .ok (.iload 5, 2) := by decide +kernel
theorem dX9_greatestDivisor_27 : decode cX9_greatestDivisor 27 = .ok (.istore_n 3, 1) := by decide +kernel
theorem dX9_greatestDivisor_28 : decode cX9_greatestDivisor 28 = .ok (.iinc 4 1, 3) := by decide +kernel
theorem dX9_greatestDivisor_31 : decode cX9_greatestDivisor 31 = .ok (.goto (-24), 3) := by decide +kernel
theorem dX9_greatestDivisor_34 : decode cX9_greatestDivisor 34 = .ok (.iconst 1, 1) := by decide +kernel
theorem dX9_greatestDivisor_35 : decode cX9_greatestDivisor 35 = .ok (.iload_n 2, 1) := by decide +kernel
theorem dX9_greatestDivisor_36 : decode cX9_greatestDivisor 36 = .ok (.invokestatic 316, 3) := by decide +kernel
theorem dX9_greatestDivisor_39 : decode cX9_greatestDivisor 39 = .ok (.ireturn, 1) := by decide +kernel
theorem dX10_init_0 : decode cX10_init 0 = .ok (.aload_n 0, 1) := by decide +kernel
theorem dX10_init_1 : decode cX10_init 1 = .ok (.invokespecial 1, 3) := by decide +kernel
theorem dX10_init_4 : decode cX10_init 4 = .ok (.aload_n 0, 1) := by decide +kernel
theorem dX10_init_5 : decode cX10_init 5 = .ok (.bipush 48, 2) := by decide +kernel
theorem dX10_init_7 : decode cX10_init 7 = .ok (.newarray .int, 2) := by decide +kernel
theorem dX10_init_9 : decode cX10_init 9 = .ok (.putfield 7, 3) := by decide +kernel
theorem dX10_init_12 : decode cX10_init 12 = .ok (.aload_n 0, 1) := by decide +kernel
theorem dX10_init_13 : decode cX10_init 13 = .ok (.bipush 48, 2) := by decide +kernel
theorem dX10_init_15 : decode cX10_init 15 = .ok (.newarray .int, 2) := by decide +kernel
theorem dX10_init_17 : decode cX10_init 17 = .ok (.putfield 13, 3) := by decide +kernel
theorem dX10_init_20 : decode cX10_init 20 = .ok (.aload_n 0, 1) := by decide +kernel
theorem dX10_init_21 : decode cX10_init 21 = .ok (.bipush 17, 2) := by decide +kernel
theorem dX10_init_23 : decode cX10_init 23 = .ok (.newarray .int, 2) := by decide +kernel
theorem dX10_init_25 : decode cX10_init 25 = .ok (.putfield 16, 3) := by decide +kernel
theorem dX10_init_28 : decode cX10_init 28 = .ok (.aload_n 0, 1) := by decide +kernel
theorem dX10_init_29 : decode cX10_init 29 = .ok (.bipush 17, 2) := by decide +kernel
theorem dX10_init_31 : decode cX10_init 31 = .ok (.newarray .int, 2) := by decide +kernel
theorem dX10_init_33 : decode cX10_init 33 = .ok (.putfield 19, 3) := by decide +kernel
theorem dX10_init_36 : decode cX10_init 36 = .ok (.aload_n 0, 1) := by decide +kernel
theorem dX10_init_37 : decode cX10_init 37 = .ok (.bipush 17, 2) := by decide +kernel
theorem dX10_init_39 : decode cX10_init 39 = .ok (.newarray .int, 2) := by decide +kernel
theorem dX10_init_41 : decode cX10_init 41 = .ok (.putfield 22, 3) := by decide +kernel
theorem dX10_init_44 : decode cX10_init 44 = .ok (.aload_n 0, 1) := by decide +kernel
theorem dX10_init_45 : decode cX10_init 45 = .ok (.bipush 17, 2) := by decide +kernel
theorem dX10_init_47 : decode cX10_init 47 = .ok (.newarray .int, 2) := by decide +kernel
theorem dX10_init_49 : decode cX10_init 49 = .ok (.putfield 25, 3) := by decide +kernel
theorem dX10_init_52 : decode cX10_init 52 = .ok (.aload_n 0, 1) := by decide +kernel
theorem dX10_init_53 : decode cX10_init 53 = .ok (.bipush 10, 2) := by decide +kernel
theorem dX10_init_55 : decode cX10_init 55 = .ok (.putfield 28, 3) := by decide +kernel
theorem dX10_init_58 : decode cX10_init 58 = .ok (.aload_n 0, 1) := by decide +kernel
theorem dX10_init_59 : decode cX10_init 59 = .ok (.iconst 3, 1) := by decide +kernel
theorem dX10_init_60 : decode cX10_init 60 = .ok (.newarray .int, 2) := by decide +kernel
theorem dX10_init_62 : decode cX10_init 62 = .ok (.putfield 32, 3) := by decide +kernel
theorem dX10_init_65 : decode cX10_init 65 = .ok (.aload_n 0, 1) := by decide +kernel
theorem dX10_init_66 : decode cX10_init 66 = .ok (.bipush 18, 2) := by decide +kernel
theorem dX10_init_68 : decode cX10_init 68 = .ok (.newarray .int, 2) := by decide +kernel
theorem dX10_init_70 : decode cX10_init 70 = .ok (.putfield 35, 3) := by decide +kernel
theorem dX10_init_73 : decode cX10_init 73 = .ok (.aload_n 0, 1) := by decide +kernel
theorem dX10_init_74 : decode cX10_init 74 = .ok (.bipush 18, 2) := by decide +kernel
theorem dX10_init_76 : decode cX10_init 76 = .ok (.newarray .int, 2) := by decide +kernel
theorem dX10_init_78 : decode cX10_init 78 = .ok (.putfield 38, 3) := by decide +kernel
theorem dX10_init_81 : decode cX10_init 81 = .ok (.aload_n 0, 1) := by decide +kernel
theorem dX10_init_82 : decode cX10_init 82 = .ok (.bipush 6, 2) := by decide +kernel
theorem dX10_init_84 : decode cX10_init 84 = .ok (.newarray .int, 2) := by decide +kernel
theorem dX10_init_86 : decode cX10_init 86 = .ok (.putfield 41, 3) := by decide +kernel
theorem dX10_init_89 : decode cX10_init 89 = .ok (.aload_n 0, 1) := by decide +kernel
theorem dX10_init_90 : decode cX10_init 90 = .ok (.bipush 6, 2) := by decide +kernel
theorem dX10_init_92 : decode cX10_init 92 = .ok (.newarray .int, 2) := by decide +kernel
theorem dX10_init_94 : decode cX10_init 94 = .ok (.putfield 44, 3) := by decide +kernel
theorem dX10_init_97 : decode cX10_init 97 = .ok (.aload_n 0, 1) := by decide +kernel
theorem dX10_init_98 : decode cX10_init 98 = .ok (.bipush 6, 2) := by decide +kernel
theorem dX10_init_100 : decode cX10_init 100 = .ok (.putfield 47, 3) := by decide +kernel
theorem dX10_init_103 : decode cX10_init 103 = .ok (.aload_n 0, 1) := by decide +kernel
theorem dX10_init_104 : decode cX10_init 104 = .ok (.bipush 6, 2) := by decide +kernel
theorem dX10_init_106 : decode cX10_init 106 = .ok (.newarray .int, 2) := by decide +kernel
theorem dX10_init_108 : decode cX10_init 108 = .ok (.putfield 50, 3) := by decide +kernel
theorem dX10_init_111 : decode cX10_init 111 = .ok (.aload_n 0, 1) := by decide +kernel
theorem dX10_init_112 : decode cX10_init 112 = .ok (.bipush 6, 2) := by decide +kernel
theorem dX10_init_114 : decode cX10_init 114 = .ok (.newarray .int, 2) := by decide +kernel
theorem dX10_init_116 : decode cX10_init 116 = .ok (.putfield 53, 3) := by decide +kernel
theorem dX10_init_119 : decode cX10_init 119 = .ok (.aload_n 0, 1) := by decide +kernel
theorem dX10_init_120 : decode cX10_init 120 = .ok (.bipush 6, 2) := by decide +kernel
theorem dX10_init_122 : decode cX10_init 122 = .ok (.newarray .int, 2) := by decide +kernel
theorem dX10_init_124 : decode cX10_init 124 = .ok (.putfield 56, 3) := by decide +kernel
theorem dX10_init_127 : decode cX10_init 127 = .ok (.aload_n 0, 1) := by decide +kernel
theorem dX10_init_128 : decode cX10_init 128 = .ok (.iconst 4, 1) := by decide +kernel
theorem dX10_init_129 : decode cX10_init 129 = .ok (.newarray .int, 2) := by decide +kernel
theorem dX10_init_131 : decode cX10_init 131 = .ok (.putfield 59, 3) := by decide +kernel
theorem dX10_init_134 : decode cX10_init 134 = .ok (.aload_n 0, 1) := by decide +kernel
theorem dX10_init_135 : decode cX10_init 135 = .ok (.iconst 4, 1) := by decide +kernel
theorem dX10_init_136 : decode cX10_init 136 = .ok (.newarray .int, 2) := by decide +kernel
theorem dX10_init_138 : decode cX10_init 138 = .ok (.putfield 62, 3) := by decide +kernel
theorem dX10_init_141 : decode cX10_init 141 = .ok (.aload_n 0, 1) := by decide +kernel
theorem dX10_init_142 : decode cX10_init 142 = .ok (.bipush 30, 2) := by decide +kernel
theorem dX10_init_144 : decode cX10_init 144 = .ok (.newarray .int, 2) := by decide +kernel
theorem dX10_init_146 : decode cX10_init 146 = .ok (.putfield 65, 3) := by decide +kernel
theorem dX10_init_149 : decode cX10_init 149 = .ok (.aload_n 0, 1) := by decide +kernel
theorem dX10_init_150 : decode cX10_init 150 = .ok (.bipush 30, 2) := by decide +kernel
theorem dX10_init_152 : decode cX10_init 152 = .ok (.newarray .int, 2) := by decide +kernel
theorem dX10_init_154 : decode cX10_init 154 = .ok (.putfield 68, 3) := by decide +kernel
theorem dX10_init_157 : decode cX10_init 157 = .ok (.aload_n 0, 1) := by decide +kernel
theorem dX10_init_158 : decode cX10_init 158 = .ok (.bipush 30, 2) := by decide +kernel
theorem dX10_init_160 : decode cX10_init 160 = .ok (.newarray .boolean, 2) := by decide +kernel
theorem dX10_init_162 : decode cX10_init 162 = .ok (.putfield 71, 3) := by decide +kernel
theorem dX10_init_165 : decode cX10_init 165 = .ok (.aload_n 0, 1) := by decide +kernel
theorem dX10_init_166 : decode cX10_init 166 = .ok (.bipush 30, 2) := by decide +kernel
theorem dX10_init_168 : decode cX10_init 168 = .ok (.newarray .int, 2) := by decide +kernel
theorem dX10_init_170 : decode cX10_init 170 = .ok (.putfield 75, 3) := by decide +kernel
theorem dX10_init_173 : decode cX10_init 173 = .ok (.aload_n 0, 1) := by decide +kernel
theorem dX10_init_174 : decode cX10_init 174 = .ok (.bipush 30, 2) := by decide +kernel
theorem dX10_init_176 : decode cX10_init 176 = .ok (.newarray .int, 2) := by decide +kernel
theorem dX10_init_178 : decode cX10_init 178 = .ok (.putfield 78, 3) := by decide +kernel
theorem dX10_init_181 : decode cX10_init 181 = .ok (.aload_n 0, 1) := by decide +kernel
theorem dX10_init_182 : decode cX10_init 182 = .ok (.sipush 500, 3) := by decide +kernel
theorem dX10_init_185 : decode cX10_init 185 = .ok (.putfield 81, 3) := by decide +kernel
theorem dX10_init_188 : decode cX10_init 188 = .ok (.aload_n 0, 1) := by decide +kernel
theorem dX10_init_189 : decode cX10_init 189 = .ok (.sipush 200, 3) := by decide +kernel
theorem dX10_init_192 : decode cX10_init 192 = .ok (.putfield 84, 3) := by decide +kernel
theorem dX10_init_195 : decode cX10_init 195 = .ok (.aload_n 0, 1) := by decide +kernel
theorem dX10_init_196 : decode cX10_init 196 = .ok (.bipush 12, 2) := by decide +kernel
theorem dX10_init_198 : decode cX10_init 198 = .ok (.newarray .int, 2) := by decide +kernel
theorem dX10_init_200 : decode cX10_init 200 = .ok (.putfield 87, 3) := by decide +kernel
theorem dX10_init_203 : decode cX10_init 203 = .ok (.aload_n 0, 1) := by decide +kernel
theorem dX10_init_204 : decode cX10_init 204 = .ok (.bipush 12, 2) := by decide +kernel
theorem dX10_init_206 : decode cX10_init 206 = .ok (.newarray .int, 2) := by decide +kernel
theorem dX10_init_208 : decode cX10_init 208 = .ok (.putfield 90, 3) := by decide +kernel
theorem dX10_init_211 : decode cX10_init 211 = .ok (.aload_n 0, 1) := by decide +kernel
theorem dX10_init_212 : decode cX10_init 212 = .ok (.bipush 12, 2) := by decide +kernel
theorem dX10_init_214 : decode cX10_init 214 = .ok (.newarray .int, 2) := by decide +kernel
theorem dX10_init_216 : decode cX10_init 216 = .ok (.putfield 93, 3) := by decide +kernel
theorem dX10_init_219 : decode cX10_init 219 = .ok (.aload_n 0, 1) := by decide +kernel
theorem dX10_init_220 : decode cX10_init 220 = .ok (.bipush 12, 2) := by decide +kernel
theorem dX10_init_222 : decode cX10_init 222 = .ok (.newarray .int, 2) := by decide +kernel
theorem dX10_init_224 : decode cX10_init 224 = .ok (.putfield 96, 3) := by decide +kernel
theorem dX10_init_227 : decode cX10_init 227 = .ok (.aload_n 0, 1) := by decide +kernel
theorem dX10_init_228 : decode cX10_init 228 = .ok (.bipush 12, 2) := by decide +kernel
theorem dX10_init_230 : decode cX10_init 230 = .ok (.newarray .int, 2) := by decide +kernel
theorem dX10_init_232 : decode cX10_init 232 = .ok (.putfield 99, 3) := by decide +kernel
theorem dX10_init_235 : decode cX10_init 235 = .ok (.aload_n 0, 1) := by decide +kernel
theorem dX10_init_236 : decode cX10_init 236 = .ok (.bipush 12, 2) := by decide +kernel
theorem dX10_init_238 : decode cX10_init 238 = .ok (.newarray .int, 2) := by decide +kernel
theorem dX10_init_240 : decode cX10_init 240 = .ok (.putfield 102, 3) := by decide +kernel
theorem dX10_init_243 : decode cX10_init 243 = .ok (.aload_n 0, 1) := by decide +kernel
theorem dX10_init_244 : decode cX10_init 244 = .ok (.bipush 12, 2) := by decide +kernel
theorem dX10_init_246 : decode cX10_init 246 = .ok (.newarray .int, 2) := by decide +kernel
theorem dX10_init_248 : decode cX10_init 248 = .ok (.putfield 105, 3) := by decide +kernel
theorem dX10_init_251 : decode cX10_init 251 = .ok (.aload_n 0, 1) := by decide +kernel
theorem dX10_init_252 : decode cX10_init 252 = .ok (.bipush 7, 2) := by decide +kernel
theorem dX10_init_254 : decode cX10_init 254 = .ok (.newarray .int, 2) := by decide +kernel
theorem dX10_init_256 : decode cX10_init 256 = .ok (.putfield 108, 3) := by decide +kernel
theorem dX10_init_259 : decode cX10_init 259 = .ok (.aload_n 0, 1) := by decide +kernel
theorem dX10_init_260 : decode cX10_init 260 = .ok (.bipush 6, 2) := by decide +kernel
theorem dX10_init_262 : decode cX10_init 262 = .ok (.newarray .int, 2) := by decide +kernel
theorem dX10_init_264 : decode cX10_init 264 = .ok (.putfield 111, 3) := by decide +kernel
theorem dX10_init_267 : decode cX10_init 267 = .ok (.aload_n 0, 1) := by decide +kernel
theorem dX10_init_268 : decode cX10_init 268 = .ok (.bipush 6, 2) := by decide +kernel
theorem dX10_init_270 : decode cX10_init 270 = .ok (.newarray .int, 2) := by decide +kernel
theorem dX10_init_272 : decode cX10_init 272 = .ok (.putfield 114, 3) := by decide +kernel
theorem dX10_init_275 : decode cX10_init 275 = .ok (.iconst 0, 1) := by decide +kernel
theorem dX10_init_276 : decode cX10_init 276 = .ok (.istore_n 1, 1) := by decide +kernel
theorem dX10_init_277 : decode cX10_init 277 = .ok (.iload_n 1, 1) := by decide +kernel
theorem dX10_init_278 : decode cX10_init 278 = .ok (.bipush 6, 2) := by decide +kernel
theorem dX10_init_280 : decode cX10_init 280 = .ok (.if_icmp .ge 70, 3) := by decide +kernel
theorem dX10_init_283 : decode cX10_init 283 = .ok (.iconst 0, 1) := by decide +kernel
theorem dX10_init_284 : decode cX10_init 284 = .ok (.istore_n 2, 1) := by decide +kernel
theorem dX10_init_285 : decode cX10_init 285 = .ok (.iload_n 2, 1) := by decide +kernel
theorem dX10_init_286 : decode cX10_init 286 = .ok (.bipush 8, 2) := by decide +kernel
theorem dX10_init_288 : decode cX10_init 288 = .ok (.if_icmp .ge 42, 3) := by decide +kernel
theorem dX10_init_291 : decode cX10_init 291 = .ok (.aload_n 0, 1) := by decide +kernel
theorem dX10_init_292 : decode cX10_init 292 = .ok (.getfield 7, 3) := by decide +kernel
theorem dX10_init_295 : decode cX10_init 295 = .ok (.bipush 8, 2) := by decide +kernel
theorem dX10_init_297 : decode cX10_init 297 = .ok (.iload_n 1, 1) := by decide +kernel
theorem dX10_init_298 : decode cX10_init 298 = .ok (.imul, 1) := by decide +kernel
theorem dX10_init_299 : decode cX10_init 299 = .ok (.iload_n 2, 1) := by decide +kernel
theorem dX10_init_300 : decode cX10_init 300 = .ok (.iadd, 1) := by decide +kernel
theorem dX10_init_301 : decode cX10_init 301 = .ok (.bipush 40, 2) := by decide +kernel
theorem dX10_init_303 : decode cX10_init 303 = .ok (.iload_n 2, 1) := by decide +kernel
theorem dX10_init_304 : decode cX10_init 304 = .ok (.imul, 1) := by decide +kernel
theorem dX10_init_305 : decode cX10_init 305 = .ok (.iastore, 1) := by decide +kernel
theorem dX10_init_306 : decode cX10_init 306 = .ok (.aload_n 0, 1) := by decide +kernel
theorem dX10_init_307 : decode cX10_init 307 = .ok (.getfield 13, 3) := by decide +kernel
theorem dX10_init_310 : decode cX10_init 310 = .ok (.bipush 8, 2) := by decide +kernel
theorem dX10_init_312 : decode cX10_init 312 = .ok (.iload_n 1, 1) := by decide +kernel
theorem dX10_init_313 : decode cX10_init 313 = .ok (.imul, 1) := by decide +kernel
theorem dX10_init_314 : decode cX10_init 314 = .ok (.iload_n 2, 1) := by decide +kernel
theorem dX10_init_315 : decode cX10_init 315 = .ok (.iadd, 1) := by decide +kernel
theorem dX10_init_316 : decode cX10_init 316 = .ok (.bipush 40, 2) := by decide +kernel
theorem dX10_init_318 : decode cX10_init 318 = .ok (.iload_n 2, 1) := by decide +kernel
theorem dX10_init_319 : decode cX10_init 319 = .ok (.imul, 1) := by decide +kernel
theorem dX10_init_320 : decode cX10_init 320 = .ok (.bipush 20, 2) := by decide +kernel
theorem dX10_init_322 : decode cX10_init 322 = .ok (.iadd, 1) := by decide +kernel
theorem dX10_init_323 : decode cX10_init 323 = .ok (.iastore, 1) := by decide +kernel
theorem dX10_init_324 : decode cX10_init 324 = .ok (.iinc 2 1, 3) := by decide +kernel
theorem dX10_init_327 : decode cX10_init 327 = .ok (.goto (-42), 3) := by decide +kernel
theorem dX10_init_330 : decode cX10_init 330 = .ok (.aload_n 0, 1) := by decide +kernel
theorem dX10_init_331 : decode cX10_init 331 = .ok (.getfield 50, 3) := by decide +kernel
theorem dX10_init_334 : decode cX10_init 334 = .ok (.iload_n 1, 1) := by decide +kernel
theorem dX10_init_335 : decode cX10_init 335 = .ok (.iload_n 1, 1) := by decide +kernel
theorem dX10_init_336 : decode cX10_init 336 = .ok (.iastore, 1) := by decide +kernel
theorem dX10_init_337 : decode cX10_init 337 = .ok (.aload_n 0, 1) := by decide +kernel
theorem dX10_init_338 : decode cX10_init 338 = .ok (.getfield 56, 3) := by decide +kernel
theorem dX10_init_341 : decode cX10_init 341 = .ok (.iload_n 1, 1) := by decide +kernel
theorem dX10_init_342 : decode cX10_init 342 = .ok (.iload_n 1, 1) := by decide +kernel
theorem dX10_init_343 : decode cX10_init 343 = .ok (.iastore, 1) := by decide +kernel
theorem dX10_init_344 : decode cX10_init 344 = .ok (.iinc 1 1, 3) := by decide +kernel
theorem dX10_init_347 : decode cX10_init 347 = .ok (.goto (-70), 3) := by decide +kernel
theorem dX10_init_350 : decode cX10_init 350 = .ok (.iconst 0, 1) := by decide +kernel
theorem dX10_init_351 : decode cX10_init 351 = .ok (.istore_n 1, 1) := by decide +kernel
theorem dX10_init_352 : decode cX10_init 352 = .ok (.iload_n 1, 1) := by decide +kernel
theorem dX10_init_353 : decode cX10_init 353 = .ok (.iconst 3, 1) := by decide +kernel
theorem dX10_init_354 : decode cX10_init 354 = .ok (.if_icmp .ge 30, 3) := by decide +kernel
theorem dX10_init_357 : decode cX10_init 357 = .ok (.aload_n 0, 1) := by decide +kernel
theorem dX10_init_358 : decode cX10_init 358 = .ok (.getfield 32, 3) := by decide +kernel
theorem dX10_init_361 : decode cX10_init 361 = .ok (.iload_n 1, 1) := by decide +kernel
theorem dX10_init_362 : decode cX10_init 362 = .ok (.iconst 1, 1) := by decide +kernel
theorem dX10_init_363 : decode cX10_init 363 = .ok (.iastore, 1) := by decide +kernel
theorem dX10_init_364 : decode cX10_init 364 = .ok (.aload_n 0, 1) := by decide +kernel
theorem dX10_init_365 : decode cX10_init 365 = .ok (.getfield 38, 3) := by decide +kernel
theorem dX10_init_368 : decode cX10_init 368 = .ok (.bipush 6, 2) := by decide +kernel
theorem dX10_init_370 : decode cX10_init 370 = .ok (.iload_n 1, 1) := by decide +kernel
theorem dX10_init_371 : decode cX10_init 371 = .ok (.imul, 1) := by decide +kernel
theorem dX10_init_372 : decode cX10_init 372 = .ok (.sipush 300, 3) := by decide +kernel
theorem dX10_init_375 : decode cX10_init 375 = .ok (.iload_n 1, 1) := by decide +kernel
theorem dX10_init_376 : decode cX10_init 376 = .ok (.imul, 1) := by decide +kernel
theorem dX10_init_377 : decode cX10_init 377 = .ok (.iastore, 1) := by decide +kernel
theorem dX10_init_378 : decode cX10_init 378 = .ok (.iinc 1 1, 3) := by decide +kernel
theorem dX10_init_381 : decode cX10_init 381 = .ok (.goto (-29), 3) := by decide +kernel
theorem dX10_init_384 : decode cX10_init 384 = .ok (.iconst 0, 1) := by decide +kernel
theorem dX10_init_385 : decode cX10_init 385 = .ok (.istore_n 1, 1) := by decide +kernel
theorem dX10_init_386 : decode cX10_init 386 = .ok (.iload_n 1, 1) := by decide +kernel
theorem dX10_init_387 : decode cX10_init 387 = .ok (.iconst 4, 1) := by decide +kernel
theorem dX10_init_388 : decode cX10_init 388 = .ok (.if_icmp .ge 18, 3) := by decide +kernel
theorem dX10_init_391 : decode cX10_init 391 = .ok (.aload_n 0, 1) := by decide +kernel
theorem dX10_init_392 : decode cX10_init 392 = .ok (.getfield 59, 3) := by decide +kernel
theorem dX10_init_395 : decode cX10_init 395 = .ok (.iload_n 1, 1) := by decide +kernel
theorem dX10_init_396 : decode cX10_init 396 = .ok (.sipush 500, 3) := by decide +kernel
theorem dX10_init_399 : decode cX10_init 399 = .ok (.iastore, 1) := by decide +kernel
theorem dX10_init_400 : decode cX10_init 400 = .ok (.iinc 1 1, 3) := by decide +kernel
theorem dX10_init_403 : decode cX10_init 403 = .ok (.goto (-17), 3) := by decide +kernel
theorem dX10_init_406 : decode cX10_init 406 = .ok (.return_, 1) := by decide +kernel
theorem dX10_in_0 : decode cX10_in 0 = .ok (.iload_n 0, 1) := by decide +kernel
theorem dX10_in_1 : decode cX10_in 1 = .ok (.iload_n 1, 1) := by decide +kernel
theorem dX10_in_2 : decode cX10_in 2 = .ok (.if_icmp .lt 12, 3) := by decide +kernel
theorem dX10_in_5 : decode cX10_in 5 = .ok (.iload_n 0, 1) := by decide +kernel
theorem dX10_in_6 : decode cX10_in 6 = .ok (.iload_n 2, 1) := by decide +kernel
theorem dX10_in_7 : decode cX10_in 7 = .ok (.if_icmp .gt 7, 3) := by decide +kernel
theorem dX10_in_10 : decode cX10_in 10 = .ok (.iconst 1, 1) := by decide +kernel
theorem dX10_in_11 : decode cX10_in 11 = .ok (.goto 4, 3) := by decide +kernel
theorem dX10_in_14 : decode cX10_in 14 = .ok (.iconst 0, 1) := by decide +kernel
theorem dX10_in_15 : decode cX10_in 15 = .ok (.ireturn, 1) := by decide +kernel
set_option maxRecDepth 20000 in
theorem ggX10_isSection_X10_in : GoodIn wsX10_isSection wsX10_in := goodIn_r _ [4] (by decide +kernel) (by decide +kernel)
set_option maxRecDepth 20000 in
theorem gX10_isSection_X10_in : GoodIn wsX10_isSection (va_wsS RX10 117 yX10_in wsX10_in) := goodIn_app (goodIn_of _ (by decide +kernel)) ggX10_isSection_X10_in
theorem dX10_isSection_0 : decode cX10_isSection 0 = .ok (.iload_n 0, 1) := by decide +kernel
theorem dX10_isSection_1 : decode cX10_isSection 1 = .ok (.iconst 0, 1) := by decide +kernel
theorem dX10_isSection_2 : decode cX10_isSection 2 = .ok (.iconst 5, 1) := by decide +kernel
theorem dX10_isSection_3 : decode cX10_isSection 3 = .ok (.invokestatic 117, 3) := by decide +kernel
theorem dX10_isSection_6 : decode cX10_isSection 6 = .ok (.ireturn, 1) := by decide +kernel
set_option maxRecDepth 20000 in
theorem ggX10_isAct_X10_in : GoodIn wsX10_isAct wsX10_in := goodIn_r _ [4] (by decide +kernel) (by decide +kernel)
set_option maxRecDepth 20000 in
theorem gX10_isAct_X10_in : GoodIn wsX10_isAct (va_wsS RX10 117 yX10_in wsX10_in) := goodIn_app (goodIn_of _ (by decide +kernel)) ggX10_isAct_X10_in
theorem dX10_isAct_0 : decode cX10_isAct 0 = .ok (.iload_n 0, 1) := by decide +kernel
theorem dX10_isAct_1 : decode cX10_isAct 1 = .ok (.iconst 0, 1) := by decide +kernel
theorem dX10_isAct_2 : decode cX10_isAct 2 = .ok (.bipush 7, 2) := by decide +kernel
theorem dX10_isAct_4 : decode cX10_isAct 4 = .ok (.invokestatic 117, 3) := by decide +kernel
theorem dX10_isAct_7 : decode cX10_isAct 7 = .ok (.ireturn, 1) := by decide +kernel
set_option maxRecDepth 20000 in
theorem ggX10_isDegree_X10_in : GoodIn wsX10_isDegree wsX10_in := goodIn_r _ [4] (by decide +kernel) (by decide +kernel)
set_option maxRecDepth 20000 in
theorem gX10_isDegree_X10_in : GoodIn wsX10_isDegree (va_wsS RX10 117 yX10_in wsX10_in) := goodIn_app (goodIn_of _ (by decide +kernel)) ggX10_isDegree_X10_in
theorem dX10_isDegree_0 : decode cX10_isDegree 0 = .ok (.iload_n 0, 1) := by decide +kernel
theorem dX10_isDegree_1 : decode cX10_isDegree 1 = .ok (.iconst 0, 1) := by decide +kernel
theorem dX10_isDegree_2 : decode cX10_isDegree 2 = .ok (.sipush 359, 3) := by decide +kernel
theorem dX10_isDegree_5 : decode cX10_isDegree 5 = .ok (.invokestatic 117, 3) := by decide +kernel
theorem dX10_isDegree_8 : decode cX10_isDegree 8 = .ok (.ireturn, 1) := by decide +kernel
set_option maxRecDepth 20000 in
theorem ggX10_isArm_X10_in : GoodIn wsX10_isArm wsX10_in := goodIn_r _ [4] (by decide +kernel) (by decide +kernel)
set_option maxRecDepth 20000 in
theorem gX10_isArm_X10_in : GoodIn wsX10_isArm (va_wsS RX10 117 yX10_in wsX10_in) := goodIn_app (goodIn_of _ (by decide +kernel)) ggX10_isArm_X10_in
theorem dX10_isArm_0 : decode cX10_isArm 0 = .ok (.iload_n 0, 1) := by decide +kernel
theorem dX10_isArm_1 : decode cX10_isArm 1 = .ok (.iconst 0, 1) := by decide +kernel
theorem dX10_isArm_2 : decode cX10_isArm 2 = .ok (.iconst 2, 1) := by decide +kernel
theorem dX10_isArm_3 : decode cX10_isArm 3 = .ok (.invokestatic 117, 3) := by decide +kernel
theorem dX10_isArm_6 : decode cX10_isArm 6 = .ok (.ireturn, 1) := by decide +kernel
set_option maxRecDepth 20000 in
theorem ggX10_isMould_X10_in : GoodIn wsX10_isMould wsX10_in := goodIn_r _ [4] (by decide +kernel) (by decide +kernel)
set_option maxRecDepth 20000 in
theorem gX10_isMould_X10_in : GoodIn wsX10_isMould (va_wsS RX10 117 yX10_in wsX10_in) := goodIn_app (goodIn_of _ (by decide +kernel)) ggX10_isMould_X10_in
theorem dX10_isMould_0 : decode cX10_isMould 0 = .ok (.iload_n 0, 1) := by decide +kernel
theorem dX10_isMould_1 : decode cX10_isMould 1 = .ok (.iconst 0, 1) := by decide +kernel
theorem dX10_isMould_2 : decode cX10_isMould 2 = .ok (.bipush 29, 2) := by decide +kernel
theorem dX10_isMould_4 : decode cX10_isMould 4 = .ok (.invokestatic 117, 3) := by decide +kernel
theorem dX10_isMould_7 : decode cX10_isMould 7 = .ok (.ireturn, 1) := by decide +kernel
set_option maxRecDepth 20000 in
theorem ggX10_isJob_X10_in : GoodIn wsX10_isJob wsX10_in := goodIn_r _ [4] (by decide +kernel) (by decide +kernel)
set_option maxRecDepth 20000 in
theorem gX10_isJob_X10_in : GoodIn wsX10_isJob (va_wsS RX10 117 yX10_in wsX10_in) := goodIn_app (goodIn_of _ (by decide +kernel)) ggX10_isJob_X10_in
theorem dX10_isJob_0 : decode cX10_isJob 0 = .ok (.iload_n 0, 1) := by decide +kernel
theorem dX10_isJob_1 : decode cX10_isJob 1 = .ok (.iconst 0, 1) := by decide +kernel
theorem dX10_isJob_2 : decode cX10_isJob 2 = .ok (.iconst 3, 1) := by decide +kernel
theorem dX10_isJob_3 : decode cX10_isJob 3 = .ok (.invokestatic 117, 3) := by decide +kernel
theorem dX10_isJob_6 : decode cX10_isJob 6 = .ok (.ireturn, 1) := by decide +kernel
theorem dX10_lengthOf_0 : decode cX10_lengthOf 0 = .ok (.aload_n 0, 1) := by decide +kernel
theorem dX10_lengthOf_1 : decode cX10_lengthOf 1 = .ok (.getfield 13, 3) := by decide +kernel
theorem dX10_lengthOf_4 : decode cX10_lengthOf 4 = .ok (.bipush 8, 2) := by decide +kernel
theorem dX10_lengthOf_6 : decode cX10_lengthOf 6 = .ok (.iload_n 1, 1) := by decide +kernel
theorem dX10_lengthOf_7 : decode cX10_lengthOf 7 = .ok (.imul, 1) := by decide +kernel
theorem dX10_lengthOf_8 : decode cX10_lengthOf 8 = .ok (.iload_n 2, 1) := by decide +kernel
theorem dX10_lengthOf_9 : decode cX10_lengthOf 9 = .ok (.iadd, 1) := by decide +kernel
theorem dX10_lengthOf_10 : decode cX10_lengthOf 10 = .ok (.iaload, 1) := by decide +kernel
theorem dX10_lengthOf_11 : decode cX10_lengthOf 11 = .ok (.aload_n 0, 1) := by decide +kernel
theorem dX10_lengthOf_12 : decode cX10_lengthOf 12 = .ok (.getfield 7, 3) := by decide +kernel
theorem dX10_lengthOf_15 : decode cX10_lengthOf 15 = .ok (.bipush 8, 2) := by decide +kernel
theorem dX10_lengthOf_17 : decode cX10_lengthOf 17 = .ok (.iload_n 1, 1) := by decide +kernel
theorem dX10_lengthOf_18 : decode cX10_lengthOf 18 = .ok (.imul, 1) := by decide +kernel
theorem dX10_lengthOf_19 : decode cX10_lengthOf 19 = .ok (.iload_n 2, 1) := by decide +kernel
theorem dX10_lengthOf_20 : decode cX10_lengthOf 20 = .ok (.iadd, 1) := by decide +kernel
theorem dX10_lengthOf_21 : decode cX10_lengthOf 21 = .ok (.iaload, 1) := by decide +kernel
theorem dX10_lengthOf_22 : decode cX10_lengthOf 22 = .ok (.isub, 1) := by decide +kernel
theorem dX10_lengthOf_23 : decode cX10_lengthOf 23 = .ok (.sipush 360, 3) := by decide +kernel
theorem dX10_lengthOf_26 : decode cX10_lengthOf 26 = .ok (.iadd, 1) := by decide +kernel
theorem dX10_lengthOf_27 : decode cX10_lengthOf 27 = .ok (.sipush 360, 3) := by decide +kernel
theorem dX10_lengthOf_30 : decode cX10_lengthOf 30 = .ok (.irem, 1) := by decide +kernel
theorem dX10_lengthOf_31 : decode cX10_lengthOf 31 = .ok (.ireturn, 1) := by decide +kernel
set_option maxRecDepth 20000 in
theorem ggX10_isDone_X10_lengthOf : GoodIn wsX10_isDone wsX10_lengthOf := goodIn_r _ [6, 7, 1, 8, 9, 10, 11, 12, 13, 14, 15, 16, 17, 18, 19, 20, 21, 22, 23, 24, 25, 26, 27, 28, 29, 30, 31, 32, 33, 34, 35, 36, 37, 38, 39, 40, 41, 42, 43, 44, 45, 46, 47, 48, 49, 50, 51, 52] (by decide +kernel) (by decide +kernel)
set_option maxRecDepth 20000 in
theorem gX10_isDone_X10_lengthOf : GoodIn wsX10_isDone (wsV RX10 121 RX10 yX10_lengthOf wsX10_lengthOf) := goodIn_app (goodIn_of _ (by decide +kernel)) ggX10_isDone_X10_lengthOf
theorem dX10_isDone_0 : decode cX10_isDone 0 = .ok (.iload_n 3, 1) := by decide +kernel
theorem dX10_isDone_1 : decode cX10_isDone 1 = .ok (.aload_n 0, 1) := by decide +kernel
theorem dX10_isDone_2 : decode cX10_isDone 2 = .ok (.getfield 7, 3) := by decide +kernel
theorem dX10_isDone_5 : decode cX10_isDone 5 = .ok (.bipush 8, 2) := by decide +kernel
theorem dX10_isDone_7 : decode cX10_isDone 7 = .ok (.iload_n 1, 1) := by decide +kernel
theorem dX10_isDone_8 : decode cX10_isDone 8 = .ok (.imul, 1) := by decide +kernel
theorem dX10_isDone_9 : decode cX10_isDone 9 = .ok (.iload_n 2, 1) := by decide +kernel
theorem dX10_isDone_10 : decode cX10_isDone 10 = .ok (.iadd, 1) := by decide +kernel
theorem dX10_isDone_11 : decode cX10_isDone 11 = .ok (.iaload, 1) := by decide +kernel
theorem dX10_isDone_12 : decode cX10_isDone 12 = .ok (.isub, 1) := by decide +kernel
theorem dX10_isDone_13 : decode cX10_isDone 13 = .ok (.sipush 360, 3) := by decide +kernel
theorem dX10_isDone_16 : decode cX10_isDone 16 = .ok (.iadd, 1) := by decide +kernel
theorem dX10_isDone_17 : decode cX10_isDone 17 = .ok (.sipush 360, 3) := by decide +kernel
theorem dX10_isDone_20 : decode cX10_isDone 20 = .ok (.irem, 1) := by decide +kernel
theorem dX10_isDone_21 : decode cX10_isDone 21 = .ok (.aload_n 0, 1) := by decide +kernel
theorem dX10_isDone_22 : decode cX10_isDone 22 = .ok (.iload_n 1, 1) := by decide +kernel
theorem dX10_isDone_23 : decode cX10_isDone 23 = .ok (.iload_n 2, 1) := by decide +kernel
theorem dX10_isDone_24 : decode cX10_isDone 24 = .ok (.invokevirtual 121, 3) := by decide +kernel
theorem dX10_isDone_27 : decode cX10_isDone 27 = .ok (.if_icmp .ge 7, 3) := by decide +kernel
theorem dX10_isDone_30 : decode cX10_isDone 30 = .ok (.iconst 1, 1) := by decide +kernel
theorem dX10_isDone_31 : decode cX10_isDone 31 = .ok (.goto 4, 3) := by decide +kernel
theorem dX10_isDone_34 : decode cX10_isDone 34 = .ok (.iconst 0, 1) := by decide +kernel
theorem dX10_isDone_35 : decode cX10_isDone 35 = .ok (.ireturn, 1) := by decide +kernel
set_option maxRecDepth 20000 in
theorem ggX10_keeps_X10_lengthOf : GoodIn wsX10_keeps wsX10_lengthOf := goodIn_r _ [11, 6, 5, 16, 17, 18, 19, 20, 21, 22, 23, 24, 25, 26, 27, 28, 29, 30, 31, 32, 33, 34, 35, 36, 37, 38, 39, 40, 41, 42, 43, 44, 45, 46, 47, 48, 49, 50, 51, 52, 53, 54, 55, 56, 57, 58, 59, 60] (by decide +kernel) (by decide +kernel)
set_option maxRecDepth 20000 in
theorem gX10_keeps_X10_lengthOf : GoodIn wsX10_keeps (wsV RX10 121 RX10 yX10_lengthOf wsX10_lengthOf) := goodIn_app (goodIn_of _ (by decide +kernel)) ggX10_keeps_X10_lengthOf
set_option maxRecDepth 20000 in
theorem ggX10_keeps_X10_isDone : GoodIn wsX10_keeps wsX10_isDone := goodIn_r _ [15, 5, 7, 8, 9, 10, 11, 6, 16, 17, 18, 19, 20, 21, 22, 23, 24, 25, 26, 27, 28, 29, 30, 31, 32, 33, 34, 35, 36, 37, 38, 39, 40, 41, 42, 43, 44, 45, 46, 47, 48, 49, 50, 51, 52, 53, 54, 55, 56, 57, 58, 59, 60] (by decide +kernel) (by decide +kernel)
set_option maxRecDepth 20000 in
theorem gX10_keeps_X10_isDone : GoodIn wsX10_keeps (wsV RX10 125 RX10 yX10_isDone wsX10_isDone) := goodIn_app (goodIn_of _ (by decide +kernel)) ggX10_keeps_X10_isDone
theorem dX10_keeps_0 : decode cX10_keeps 0 = .ok (.aload_n 0, 1) := by decide +kernel
theorem dX10_keeps_1 : decode cX10_keeps 1 = .ok (.getfield 19, 3) := by decide +kernel
theorem dX10_keeps_4 : decode cX10_keeps 4 = .ok (.iload_n 2, 1) := by decide +kernel
theorem dX10_keeps_5 : decode cX10_keeps 5 = .ok (.iaload, 1) := by decide +kernel
theorem dX10_keeps_6 : decode cX10_keeps 6 = .ok (.istore 4, 2) := by decide +kernel
theorem dX10_keeps_8 : decode cX10_keeps 8 = .ok (.aload_n 0, 1) := by decide +kernel
theorem dX10_keeps_9 : decode cX10_keeps 9 = .ok (.getfield 22, 3) := by decide +kernel
theorem dX10_keeps_12 : decode cX10_keeps 12 = .ok (.iload_n 2, 1) := by decide +kernel
theorem dX10_keeps_13 : decode cX10_keeps 13 = .ok (.iaload, 1) := by decide +kernel
theorem dX10_keeps_14 : decode cX10_keeps 14 = .ok (.istore 5, 2) := by decide +kernel
theorem dX10_keeps_16 : decode cX10_keeps 16 = .ok (.aload_n 0, 1) := by decide +kernel
theorem dX10_keeps_17 : decode cX10_keeps 17 = .ok (.getfield 25, 3) := by decide +kernel
theorem dX10_keeps_20 : decode cX10_keeps 20 = .ok (.iload_n 2, 1) := by decide +kernel
theorem dX10_keeps_21 : decode cX10_keeps 21 = .ok (.iaload, 1) := by decide +kernel
theorem dX10_keeps_22 : decode cX10_keeps 22 = .ok (.istore 6, 2) := by decide +kernel
theorem dX10_keeps_24 : decode cX10_keeps 24 = .ok (.aload_n 0, 1) := by decide +kernel
theorem dX10_keeps_25 : decode cX10_keeps 25 = .ok (.getfield 16, 3) := by decide +kernel
theorem dX10_keeps_28 : decode cX10_keeps 28 = .ok (.iload_n 2, 1) := by decide +kernel
theorem dX10_keeps_29 : decode cX10_keeps 29 = .ok (.iaload, 1) := by decide +kernel
theorem dX10_keeps_30 : decode cX10_keeps 30 = .ok (.ifCond .ne 47, 3) := by decide +kernel
theorem dX10_keeps_33 : decode cX10_keeps 33 = .ok (.aload_n 0, 1) := by decide +kernel
theorem dX10_keeps_34 : decode cX10_keeps 34 = .ok (.getfield 7, 3) := by decide +kernel
theorem dX10_keeps_37 : decode cX10_keeps 37 = .ok (.bipush 8, 2) := by decide +kernel
theorem dX10_keeps_39 : decode cX10_keeps 39 = .ok (.iload_n 1, 1) := by decide +kernel
theorem dX10_keeps_40 : decode cX10_keeps 40 = .ok (.imul, 1) := by decide +kernel
theorem dX10_keeps_41 : decode cX10_keeps 41 = .ok (.iload 5, 2) := by decide +kernel
theorem dX10_keeps_43 : decode cX10_keeps 43 = .ok (.iadd, 1) := by decide +kernel
theorem dX10_keeps_44 : decode cX10_keeps 44 = .ok (.iaload, 1) := by decide +kernel
theorem dX10_keeps_45 : decode cX10_keeps 45 = .ok (.aload_n 0, 1) := by decide +kernel
theorem dX10_keeps_46 : decode cX10_keeps 46 = .ok (.getfield 13, 3) := by decide +kernel
theorem dX10_keeps_49 : decode cX10_keeps 49 = .ok (.bipush 8, 2) := by decide +kernel
theorem dX10_keeps_51 : decode cX10_keeps 51 = .ok (.iload_n 1, 1) := by decide +kernel
theorem dX10_keeps_52 : decode cX10_keeps 52 = .ok (.imul, 1) := by decide +kernel
theorem dX10_keeps_53 : decode cX10_keeps 53 = .ok (.iload 4, 2) := by decide +kernel
theorem dX10_keeps_55 : decode cX10_keeps 55 = .ok (.iadd, 1) := by decide +kernel
theorem dX10_keeps_56 : decode cX10_keeps 56 = .ok (.iaload, 1) := by decide +kernel
theorem dX10_keeps_57 : decode cX10_keeps 57 = .ok (.isub, 1) := by decide +kernel
theorem dX10_keeps_58 : decode cX10_keeps 58 = .ok (.sipush 360, 3) := by decide +kernel
theorem dX10_keeps_61 : decode cX10_keeps 61 = .ok (.iadd, 1) := by decide +kernel
theorem dX10_keeps_62 : decode cX10_keeps 62 = .ok (.sipush 360, 3) := by decide +kernel
theorem dX10_keeps_65 : decode cX10_keeps 65 = .ok (.irem, 1) := by decide +kernel
theorem dX10_keeps_66 : decode cX10_keeps 66 = .ok (.iload 6, 2) := by decide +kernel
theorem dX10_keeps_68 : decode cX10_keeps 68 = .ok (.if_icmp .lt 7, 3) := by decide +kernel
theorem dX10_keeps_71 : decode cX10_keeps 71 = .ok (.iconst 1, 1) := by decide +kernel
theorem dX10_keeps_72 : decode cX10_keeps 72 = .ok (.goto 4, 3) := by decide +kernel
theorem dX10_keeps_75 : decode cX10_keeps 75 = .ok (.iconst 0, 1) := by decide +kernel
theorem dX10_keeps_76 : decode cX10_keeps 76 = .ok (.ireturn, 1) := by decide +kernel
theorem dX10_keeps_77 : decode cX10_keeps 77 = .ok (.aload_n 0, 1) := by decide +kernel
theorem dX10_keeps_78 : decode cX10_keeps 78 = .ok (.getfield 16, 3) := by decide +kernel
theorem dX10_keeps_81 : decode cX10_keeps 81 = .ok (.iload_n 2, 1) := by decide +kernel
theorem dX10_keeps_82 : decode cX10_keeps 82 = .ok (.iaload, 1) := by decide +kernel
theorem dX10_keeps_83 : decode cX10_keeps 83 = .ok (.iconst 2, 1) := by decide +kernel
theorem dX10_keeps_84 : decode cX10_keeps 84 = .ok (.if_icmp .ne 29, 3) := by decide +kernel
theorem dX10_keeps_87 : decode cX10_keeps 87 = .ok (.sipush 500, 3) := by decide +kernel
theorem dX10_keeps_90 : decode cX10_keeps 90 = .ok (.aload_n 0, 1) := by decide +kernel
theorem dX10_keeps_91 : decode cX10_keeps 91 = .ok (.iload_n 1, 1) := by decide +kernel
theorem dX10_keeps_92 : decode cX10_keeps 92 = .ok (.iload 4, 2) := by decide +kernel
theorem dX10_keeps_94 : decode cX10_keeps 94 = .ok (.invokevirtual 121, 3) := by decide +kernel
theorem dX10_keeps_97 : decode cX10_keeps 97 = .ok (.imul, 1) := by decide +kernel
theorem dX10_keeps_98 : decode cX10_keeps 98 = .ok (.iconst 3, 1) := by decide +kernel
theorem dX10_keeps_99 : decode cX10_keeps 99 = .ok (.iload_n 3, 1) := by decide +kernel
theorem dX10_keeps_100 : decode cX10_keeps 100 = .ok (.imul, 1) := by decide +kernel
theorem dX10_keeps_101 : decode cX10_keeps 101 = .ok (.iload 6, 2) := by decide +kernel
theorem dX10_keeps_103 : decode cX10_keeps 103 = .ok (.imul, 1) := by decide +kernel
theorem dX10_keeps_104 : decode cX10_keeps 104 = .ok (.if_icmp .lt 7, 3) := by decide +kernel
theorem dX10_keeps_107 : decode cX10_keeps 107 = .ok (.iconst 1, 1) := by decide +kernel
theorem dX10_keeps_108 : decode cX10_keeps 108 = .ok (.goto 4, 3) := by decide +kernel
theorem dX10_keeps_111 : decode cX10_keeps 111 = .ok (.iconst 0, 1) := by decide +kernel
theorem dX10_keeps_112 : decode cX10_keeps 112 = .ok (.ireturn, 1) := by decide +kernel
theorem dX10_keeps_113 : decode cX10_keeps 113 = .ok (.iconst 1, 1) := by decide +kernel
theorem dX10_keeps_114 : decode cX10_keeps 114 = .ok (.istore 7, 2) := by decide +kernel
theorem dX10_keeps_116 : decode cX10_keeps 116 = .ok (.iconst 0, 1) := by decide +kernel
theorem dX10_keeps_117 : decode cX10_keeps 117 = .ok (.istore 8, 2) := by decide +kernel
theorem dX10_keeps_119 : decode cX10_keeps 119 = .ok (.iload 8, 2) := by decide +kernel
theorem dX10_keeps_121 : decode cX10_keeps 121 = .ok (.sipush 360, 3) := by decide +kernel
theorem dX10_keeps_124 : decode cX10_keeps 124 = .ok (.if_icmp .ge 76, 3) := by decide +kernel
theorem dX10_keeps_127 : decode cX10_keeps 127 = .ok (.aload_n 0, 1) := by decide +kernel
theorem dX10_keeps_128 : decode cX10_keeps 128 = .ok (.iload_n 1, 1) := by decide +kernel
theorem dX10_keeps_129 : decode cX10_keeps 129 = .ok (.iload 4, 2) := by decide +kernel
theorem dX10_keeps_131 : decode cX10_keeps 131 = .ok (.iload 8, 2) := by decide +kernel
theorem dX10_keeps_133 : decode cX10_keeps 133 = .ok (.invokevirtual 125, 3) := by decide +kernel
theorem dX10_keeps_136 : decode cX10_keeps 136 = .ok (.istore 9, 2) := by decide +kernel
theorem dX10_keeps_138 : decode cX10_keeps 138 = .ok (.aload_n 0, 1) := by decide +kernel
theorem dX10_keeps_139 : decode cX10_keeps 139 = .ok (.iload_n 1, 1) := by decide +kernel
theorem dX10_keeps_140 : decode cX10_keeps 140 = .ok (.iload 5, 2) := by decide +kernel
theorem dX10_keeps_142 : decode cX10_keeps 142 = .ok (.iload 8, 2) := by decide +kernel
theorem dX10_keeps_144 : decode cX10_keeps 144 = .ok (.invokevirtual 125, 3) := by decide +kernel
theorem dX10_keeps_147 : decode cX10_keeps 147 = .ok (.istore 10, 2) := by decide +kernel
theorem dX10_keeps_149 : decode cX10_keeps 149 = .ok (.iload 7, 2) := by decide +kernel
theorem dX10_keeps_151 : decode cX10_keeps 151 = .ok (.ifCond .eq 40, 3) := by decide +kernel
theorem dX10_keeps_154 : decode cX10_keeps 154 = .ok (.aload_n 0, 1) := by decide +kernel
theorem dX10_keeps_155 : decode cX10_keeps 155 = .ok (.getfield 16, 3) := by decide +kernel
theorem dX10_keeps_158 : decode cX10_keeps 158 = .ok (.iload_n 2, 1) := by decide +kernel
theorem dX10_keeps_159 : decode cX10_keeps 159 = .ok (.iaload, 1) := by decide +kernel
theorem dX10_keeps_160 : decode cX10_keeps 160 = .ok (.iconst 1, 1) := by decide +kernel
theorem dX10_keeps_161 : decode cX10_keeps 161 = .ok (.if_icmp .ne 16, 3) := by decide +kernel
theorem dX10_keeps_164 : decode cX10_keeps 164 = .ok (.iload 9, 2) := by decide +kernel
theorem dX10_keeps_166 : decode cX10_keeps 166 = .ok (.ifCond .eq 21, 3) := by decide +kernel
theorem dX10_keeps_169 : decode cX10_keeps 169 = .ok (.iload 10, 2) := by decide +kernel
theorem dX10_keeps_171 : decode cX10_keeps 171 = .ok (.ifCond .eq 16, 3) := by decide +kernel
theorem dX10_keeps_174 : decode cX10_keeps 174 = .ok (.goto 17, 3) := by decide +kernel
theorem dX10_keeps_177 : decode cX10_keeps 177 = .ok (.iload 9, 2) := by decide +kernel
theorem dX10_keeps_179 : decode cX10_keeps 179 = .ok (.ifCond .eq 8, 3) := by decide +kernel
theorem dX10_keeps_182 : decode cX10_keeps 182 = .ok (.iload 10, 2) := by decide +kernel
theorem dX10_keeps_184 : decode cX10_keeps 184 = .ok (.ifCond .eq 7, 3) := by decide +kernel
theorem dX10_keeps_187 : decode cX10_keeps 187 = .ok (.iconst 1, 1) := by decide +kernel
theorem dX10_keeps_188 : decode cX10_keeps 188 = .ok (.goto 4, 3) := by decide +kernel
theorem dX10_keeps_191 : decode cX10_keeps 191 = .ok (.iconst 0, 1) := by decide +kernel
theorem dX10_keeps_192 : decode cX10_keeps 192 = .ok (.istore 7, 2) := by decide +kernel
theorem dX10_keeps_194 : decode cX10_keeps 194 = .ok (.iinc 8 1, 3) := by decide +kernel
theorem dX10_keeps_197 : decode cX10_keeps 197 = .ok (.goto (-78), 3) := by decide +kernel
theorem dX10_keeps_200 : decode cX10_keeps 200 = .ok (.iload 7, 2) := by decide +kernel
theorem dX10_keeps_202 : decode cX10_keeps 202 = .ok (.ireturn, 1) := by decide +kernel
set_option maxRecDepth 20000 in
theorem ggX10_brokenBy_X10_keeps : GoodIn wsX10_brokenBy wsX10_keeps := goodIn_r _ [7, 8, 9, 10, 11, 12, 13, 14, 15, 16, 6, 17, 18, 19, 20, 21, 22, 23, 24, 25, 26, 27, 28, 29, 30, 31, 32, 33, 34, 35, 36, 37, 38, 39, 40, 41, 42, 43, 44, 45, 46, 47, 48, 49, 50, 51, 52, 53, 54, 55, 56, 57, 58, 59, 60, 61, 62, 63, 64, 65, 66] (by decide +kernel) (by decide +kernel)
set_option maxRecDepth 20000 in
theorem gX10_brokenBy_X10_keeps : GoodIn wsX10_brokenBy (wsV RX10 131 RX10 yX10_keeps wsX10_keeps) := goodIn_app (goodIn_of _ (by decide +kernel)) ggX10_brokenBy_X10_keeps
theorem dX10_brokenBy_0 : decode cX10_brokenBy 0 = .ok (.iconst 0, 1) := by decide +kernel
theorem dX10_brokenBy_1 : decode cX10_brokenBy 1 = .ok (.istore_n 2, 1) := by decide +kernel
theorem dX10_brokenBy_2 : decode cX10_brokenBy 2 = .ok (.iload_n 2, 1) := by decide +kernel
theorem dX10_brokenBy_3 : decode cX10_brokenBy 3 = .ok (.aload_n 0, 1) := by decide +kernel
theorem dX10_brokenBy_4 : decode cX10_brokenBy 4 = .ok (.getfield 128, 3) := by decide +kernel
theorem dX10_brokenBy_7 : decode cX10_brokenBy 7 = .ok (.if_icmp .ge 24, 3) := by decide +kernel
theorem dX10_brokenBy_10 : decode cX10_brokenBy 10 = .ok (.aload_n 0, 1) := by decide +kernel
theorem dX10_brokenBy_11 : decode cX10_brokenBy 11 = .ok (.iload_n 1, 1) := by decide +kernel
theorem dX10_brokenBy_12 : decode cX10_brokenBy 12 = .ok (.iload_n 2, 1) := by decide +kernel
theorem dX10_brokenBy_13 : decode cX10_brokenBy 13 = .ok (.aload_n 0, 1) := by decide +kernel
theorem dX10_brokenBy_14 : decode cX10_brokenBy 14 = .ok (.getfield 28, 3) := by decide +kernel
theorem dX10_brokenBy_17 : decode cX10_brokenBy 17 = .ok (.invokevirtual 131, 3) := by decide +kernel
theorem dX10_brokenBy_20 : decode cX10_brokenBy 20 = .ok (.ifCond .ne 5, 3) := by decide +kernel
theorem dX10_brokenBy_23 : decode cX10_brokenBy 23 = .ok (.iload_n 2, 1) := by decide +kernel
theorem dX10_brokenBy_24 : decode cX10_brokenBy 24 = .ok (.ireturn, 1) := by decide +kernel
theorem dX10_brokenBy_25 : decode cX10_brokenBy 25 = .ok (.iinc 2 1, 3) := by decide +kernel
theorem dX10_brokenBy_28 : decode cX10_brokenBy 28 = .ok (.goto (-26), 3) := by decide +kernel
theorem dX10_brokenBy_31 : decode cX10_brokenBy 31 = .ok (.iconst (-1), 1) := by decide +kernel
theorem dX10_brokenBy_32 : decode cX10_brokenBy 32 = .ok (.ireturn, 1) := by decide +kernel
set_option maxRecDepth 20000 in
theorem ggX10_brokenAt_X10_keeps : GoodIn wsX10_brokenAt wsX10_keeps := goodIn_r _ [6, 7, 8, 9, 10, 11, 12, 13, 14, 15, 5, 16, 17, 18, 19, 20, 21, 22, 23, 24, 25, 26, 27, 28, 29, 30, 31, 32, 33, 34, 35, 36, 37, 38, 39, 40, 41, 42, 43, 44, 45, 46, 47, 48, 49, 50, 51, 52, 53, 54, 55, 56, 57, 58, 59, 60, 61, 62, 63, 64, 65] (by decide +kernel) (by decide +kernel)
set_option maxRecDepth 20000 in
theorem gX10_brokenAt_X10_keeps : GoodIn wsX10_brokenAt (wsV RX10 131 RX10 yX10_keeps wsX10_keeps) := goodIn_app (goodIn_of _ (by decide +kernel)) ggX10_brokenAt_X10_keeps
theorem dX10_brokenAt_0 : decode cX10_brokenAt 0 = .ok (.iconst 0, 1) := by decide +kernel
theorem dX10_brokenAt_1 : decode cX10_brokenAt 1 = .ok (.istore_n 2, 1) := by decide +kernel
theorem dX10_brokenAt_2 : decode cX10_brokenAt 2 = .ok (.iload_n 2, 1) := by decide +kernel
theorem dX10_brokenAt_3 : decode cX10_brokenAt 3 = .ok (.aload_n 0, 1) := by decide +kernel
theorem dX10_brokenAt_4 : decode cX10_brokenAt 4 = .ok (.getfield 128, 3) := by decide +kernel
theorem dX10_brokenAt_7 : decode cX10_brokenAt 7 = .ok (.if_icmp .ge 35, 3) := by decide +kernel
theorem dX10_brokenAt_10 : decode cX10_brokenAt 10 = .ok (.iconst 0, 1) := by decide +kernel
theorem dX10_brokenAt_11 : decode cX10_brokenAt 11 = .ok (.istore_n 3, 1) := by decide +kernel
theorem dX10_brokenAt_12 : decode cX10_brokenAt 12 = .ok (.iload_n 3, 1) := by decide +kernel
theorem dX10_brokenAt_13 : decode cX10_brokenAt 13 = .ok (.bipush 6, 2) := by decide +kernel
theorem dX10_brokenAt_15 : decode cX10_brokenAt 15 = .ok (.if_icmp .ge 21, 3) := by decide +kernel
theorem dX10_brokenAt_18 : decode cX10_brokenAt 18 = .ok (.aload_n 0, 1) := by decide +kernel
theorem dX10_brokenAt_19 : decode cX10_brokenAt 19 = .ok (.iload_n 3, 1) := by decide +kernel
theorem dX10_brokenAt_20 : decode cX10_brokenAt 20 = .ok (.iload_n 2, 1) := by decide +kernel
theorem dX10_brokenAt_21 : decode cX10_brokenAt 21 = .ok (.iload_n 1, 1) := by decide +kernel
theorem dX10_brokenAt_22 : decode cX10_brokenAt 22 = .ok (.invokevirtual 131, 3) := by decide +kernel
theorem dX10_brokenAt_25 : decode cX10_brokenAt 25 = .ok (.ifCond .ne 5, 3) := by decide +kernel
theorem dX10_brokenAt_28 : decode cX10_brokenAt 28 = .ok (.iload_n 2, 1) := by decide +kernel
theorem dX10_brokenAt_29 : decode cX10_brokenAt 29 = .ok (.ireturn, 1) := by decide +kernel
theorem dX10_brokenAt_30 : decode cX10_brokenAt 30 = .ok (.iinc 3 1, 3) := by decide +kernel
theorem dX10_brokenAt_33 : decode cX10_brokenAt 33 = .ok (.goto (-21), 3) := by decide +kernel
theorem dX10_brokenAt_36 : decode cX10_brokenAt 36 = .ok (.iinc 2 1, 3) := by decide +kernel
theorem dX10_brokenAt_39 : decode cX10_brokenAt 39 = .ok (.goto (-37), 3) := by decide +kernel
theorem dX10_brokenAt_42 : decode cX10_brokenAt 42 = .ok (.iconst (-1), 1) := by decide +kernel
theorem dX10_brokenAt_43 : decode cX10_brokenAt 43 = .ok (.ireturn, 1) := by decide +kernel
set_option maxRecDepth 20000 in
theorem ggX10_maySet_X10_isSection : GoodIn wsX10_maySet wsX10_isSection := goodIn_r _ [4, 5, 6, 3, 7] (by decide +kernel) (by decide +kernel)
set_option maxRecDepth 20000 in
theorem gX10_maySet_X10_isSection : GoodIn wsX10_maySet (va_wsS RX10 134 yX10_isSection wsX10_isSection) := goodIn_app (goodIn_of _ (by decide +kernel)) ggX10_maySet_X10_isSection
set_option maxRecDepth 20000 in
theorem ggX10_maySet_X10_isAct : GoodIn wsX10_maySet wsX10_isAct := goodIn_r _ [10, 5, 6, 3, 7] (by decide +kernel) (by decide +kernel)
set_option maxRecDepth 20000 in
theorem gX10_maySet_X10_isAct : GoodIn wsX10_maySet (va_wsS RX10 138 yX10_isAct wsX10_isAct) := goodIn_app (goodIn_of _ (by decide +kernel)) ggX10_maySet_X10_isAct
set_option maxRecDepth 20000 in
theorem ggX10_maySet_X10_isDegree : GoodIn wsX10_maySet wsX10_isDegree := goodIn_r _ [13, 5, 6, 3, 7] (by decide +kernel) (by decide +kernel)
set_option maxRecDepth 20000 in
theorem gX10_maySet_X10_isDegree : GoodIn wsX10_maySet (va_wsS RX10 141 yX10_isDegree wsX10_isDegree) := goodIn_app (goodIn_of _ (by decide +kernel)) ggX10_maySet_X10_isDegree
theorem dX10_maySet_0 : decode cX10_maySet 0 = .ok (.iload_n 1, 1) := by decide +kernel
theorem dX10_maySet_1 : decode cX10_maySet 1 = .ok (.invokestatic 134, 3) := by decide +kernel
theorem dX10_maySet_4 : decode cX10_maySet 4 = .ok (.ifCond .eq 35, 3) := by decide +kernel
theorem dX10_maySet_7 : decode cX10_maySet 7 = .ok (.iload_n 2, 1) := by decide +kernel
theorem dX10_maySet_8 : decode cX10_maySet 8 = .ok (.invokestatic 138, 3) := by decide +kernel
theorem dX10_maySet_11 : decode cX10_maySet 11 = .ok (.ifCond .eq 28, 3) := by decide +kernel
theorem dX10_maySet_14 : decode cX10_maySet 14 = .ok (.iload_n 3, 1) := by decide +kernel
theorem dX10_maySet_15 : decode cX10_maySet 15 = .ok (.invokestatic 141, 3) := by decide +kernel
theorem dX10_maySet_18 : decode cX10_maySet 18 = .ok (.ifCond .eq 21, 3) := by decide +kernel
theorem dX10_maySet_21 : decode cX10_maySet 21 = .ok (.iload 4, 2) := by decide +kernel
theorem dX10_maySet_23 : decode cX10_maySet 23 = .ok (.invokestatic 141, 3) := by decide +kernel
theorem dX10_maySet_26 : decode cX10_maySet 26 = .ok (.ifCond .eq 13, 3) := by decide +kernel
theorem dX10_maySet_29 : decode cX10_maySet 29 = .ok (.iload_n 3, 1) := by decide +kernel
theorem dX10_maySet_30 : decode cX10_maySet 30 = .ok (.iload 4, 2) := by decide +kernel
theorem dX10_maySet_32 : decode cX10_maySet 32 = .ok (.if_icmp .eq 7, 3) := by decide +kernel
theorem dX10_maySet_35 : decode cX10_maySet 35 = .ok (.iconst 1, 1) := by decide +kernel
theorem dX10_maySet_36 : decode cX10_maySet 36 = .ok (.goto 4, 3) := by decide +kernel
theorem dX10_maySet_39 : decode cX10_maySet 39 = .ok (.iconst 0, 1) := by decide +kernel
theorem dX10_maySet_40 : decode cX10_maySet 40 = .ok (.ireturn, 1) := by decide +kernel
set_option maxRecDepth 20000 in
theorem ggX10_set_X10_maySet : GoodIn wsX10_set wsX10_maySet := goodIn_r _ [7, 8, 9, 6, 10, 11, 12, 13, 14, 15, 16, 17, 18, 19] (by decide +kernel) (by decide +kernel)
set_option maxRecDepth 20000 in
theorem gX10_set_X10_maySet : GoodIn wsX10_set (wsV RX10 144 RX10 yX10_maySet wsX10_maySet) := goodIn_app (goodIn_of _ (by decide +kernel)) ggX10_set_X10_maySet
set_option maxRecDepth 20000 in
theorem ggX10_set_X10_brokenBy : GoodIn wsX10_set wsX10_brokenBy := goodIn_r _ [23, 24, 25, 26, 27, 28, 6, 29, 30, 31, 32, 33, 1, 2, 34, 35, 36, 37, 38, 39, 40, 41, 42, 43, 44, 45, 46, 47, 48, 49, 50, 51, 52, 53, 54, 55, 56, 57, 58, 59, 60, 61, 62, 63, 64, 65, 66, 67, 68, 69, 70, 71, 72, 73, 74, 75, 76, 77, 78, 79, 80, 81, 82, 83, 84, 85, 86] (by decide +kernel) (by decide +kernel)
set_option maxRecDepth 20000 in
theorem gX10_set_X10_brokenBy : GoodIn wsX10_set (wsV RX10 148 RX10 yX10_brokenBy wsX10_brokenBy) := goodIn_app (goodIn_of _ (by decide +kernel)) ggX10_set_X10_brokenBy
theorem dX10_set_0 : decode cX10_set 0 = .ok (.aload_n 0, 1) := by decide +kernel
theorem dX10_set_1 : decode cX10_set 1 = .ok (.iload_n 1, 1) := by decide +kernel
theorem dX10_set_2 : decode cX10_set 2 = .ok (.iload_n 2, 1) := by decide +kernel
theorem dX10_set_3 : decode cX10_set 3 = .ok (.iload_n 3, 1) := by decide +kernel
theorem dX10_set_4 : decode cX10_set 4 = .ok (.iload 4, 2) := by decide +kernel
theorem dX10_set_6 : decode cX10_set 6 = .ok (.invokevirtual 144, 3) := by decide +kernel
theorem dX10_set_9 : decode cX10_set 9 = .ok (.ifCond .ne 5, 3) := by decide +kernel
theorem dX10_set_12 : decode cX10_set 12 = .ok (.iconst (-1), 1) := by decide +kernel
theorem dX10_set_13 : decode cX10_set 13 = .ok (.ireturn, 1) := by decide +kernel
theorem dX10_set_14 : decode cX10_set 14 = .ok (.bipush 8, 2) := by decide +kernel
theorem dX10_set_16 : decode cX10_set 16 = .ok (.iload_n 1, 1) := by decide +kernel
theorem dX10_set_17 : decode cX10_set 17 = .ok (.imul, 1) := by decide +kernel
theorem dX10_set_18 : decode cX10_set 18 = .ok (.iload_n 2, 1) := by decide +kernel
theorem dX10_set_19 : decode cX10_set 19 = .ok (.iadd, 1) := by decide +kernel
theorem dX10_set_20 : decode cX10_set 20 = .ok (.istore 5, 2) := by decide +kernel
theorem dX10_set_22 : decode cX10_set 22 = .ok (.aload_n 0, 1) := by decide +kernel
theorem dX10_set_23 : decode cX10_set 23 = .ok (.getfield 7, 3) := by decide +kernel
theorem dX10_set_26 : decode cX10_set 26 = .ok (.iload 5, 2) := by decide +kernel
theorem dX10_set_28 : decode cX10_set 28 = .ok (.iaload, 1) := by decide +kernel
theorem dX10_set_29 : decode cX10_set 29 = .ok (.istore 6, 2) := by decide +kernel
theorem dX10_set_31 : decode cX10_set 31 = .ok (.aload_n 0, 1) := by decide +kernel
theorem dX10_set_32 : decode cX10_set 32 = .ok (.getfield 13, 3) := by decide +kernel
theorem dX10_set_35 : decode cX10_set 35 = .ok (.iload 5, 2) := by decide +kernel
theorem dX10_set_37 : decode cX10_set 37 = .ok (.iaload, 1) := by decide +kernel
theorem dX10_set_38 : decode cX10_set 38 = .ok (.istore 7, 2) := by decide +kernel
theorem dX10_set_40 : decode cX10_set 40 = .ok (.aload_n 0, 1) := by decide +kernel
theorem dX10_set_41 : decode cX10_set 41 = .ok (.getfield 7, 3) := by decide +kernel
theorem dX10_set_44 : decode cX10_set 44 = .ok (.iload 5, 2) := by decide +kernel
theorem dX10_set_46 : decode cX10_set 46 = .ok (.iload_n 3, 1) := by decide +kernel
theorem dX10_set_47 : decode cX10_set 47 = .ok (.iastore, 1) := by decide +kernel
theorem dX10_set_48 : decode cX10_set 48 = .ok (.aload_n 0, 1) := by decide +kernel
theorem dX10_set_49 : decode cX10_set 49 = .ok (.getfield 13, 3) := by decide +kernel
theorem dX10_set_52 : decode cX10_set 52 = .ok (.iload 5, 2) := by decide +kernel
theorem dX10_set_54 : decode cX10_set 54 = .ok (.iload 4, 2) := by decide +kernel
theorem dX10_set_56 : decode cX10_set 56 = .ok (.iastore, 1) := by decide +kernel
theorem dX10_set_57 : decode cX10_set 57 = .ok (.aload_n 0, 1) := by decide +kernel
theorem dX10_set_58 : decode cX10_set 58 = .ok (.iload_n 1, 1) := by decide +kernel
theorem dX10_set_59 : decode cX10_set 59 = .ok (.invokevirtual 148, 3) := by decide +kernel
theorem dX10_set_62 : decode cX10_set 62 = .ok (.istore 8, 2) := by decide +kernel
theorem dX10_set_64 : decode cX10_set 64 = .ok (.iload 8, 2) := by decide +kernel
theorem dX10_set_66 : decode cX10_set 66 = .ok (.ifCond .lt 27, 3) := by decide +kernel
theorem dX10_set_69 : decode cX10_set 69 = .ok (.aload_n 0, 1) := by decide +kernel
theorem dX10_set_70 : decode cX10_set 70 = .ok (.getfield 7, 3) := by decide +kernel
theorem dX10_set_73 : decode cX10_set 73 = .ok (.iload 5, 2) := by decide +kernel
theorem dX10_set_75 : decode cX10_set 75 = .ok (.iload 6, 2) := by decide +kernel
theorem dX10_set_77 : decode cX10_set 77 = .ok (.iastore, 1) := by decide +kernel
theorem dX10_set_78 : decode cX10_set 78 = .ok (.aload_n 0, 1) := by decide +kernel
theorem dX10_set_79 : decode cX10_set 79 = .ok (.getfield 13, 3) := by decide +kernel
theorem dX10_set_82 : decode cX10_set 82 = .ok (.iload 5, 2) := by decide +kernel
theorem dX10_set_84 : decode cX10_set 84 = .ok (.iload 7, 2) := by decide +kernel
theorem dX10_set_86 : decode cX10_set 86 = .ok (.iastore, 1) := by decide +kernel
theorem dX10_set_87 : decode cX10_set 87 = .ok (.bipush (-100), 2) := by decide +kernel
theorem dX10_set_89 : decode cX10_set 89 = .ok (.iload 8, 2) := by decide +kernel
theorem dX10_set_91 : decode cX10_set 91 = .ok (.isub, 1) := by decide +kernel
theorem dX10_set_92 : decode cX10_set 92 = .ok (.ireturn, 1) := by decide +kernel
theorem dX10_set_93 : decode cX10_set 93 = .ok (.iconst 1, 1) := by decide +kernel
theorem dX10_set_94 : decode cX10_set 94 = .ok (.ireturn, 1) := by decide +kernel
set_option maxRecDepth 20000 in
theorem ggX10_would_X10_maySet : GoodIn wsX10_would wsX10_maySet := goodIn_r _ [7, 8, 9, 6, 10, 11, 12, 13, 14, 15, 16, 17, 18, 19] (by decide +kernel) (by decide +kernel)
set_option maxRecDepth 20000 in
theorem gX10_would_X10_maySet : GoodIn wsX10_would (wsV RX10 144 RX10 yX10_maySet wsX10_maySet) := goodIn_app (goodIn_of _ (by decide +kernel)) ggX10_would_X10_maySet
set_option maxRecDepth 20000 in
theorem ggX10_would_X10_brokenBy : GoodIn wsX10_would wsX10_brokenBy := goodIn_r _ [23, 24, 25, 26, 27, 28, 6, 29, 30, 31, 32, 33, 1, 2, 34, 35, 36, 37, 38, 39, 40, 41, 42, 43, 44, 45, 46, 47, 48, 49, 50, 51, 52, 53, 54, 55, 56, 57, 58, 59, 60, 61, 62, 63, 64, 65, 66, 67, 68, 69, 70, 71, 72, 73, 74, 75, 76, 77, 78, 79, 80, 81, 82, 83, 84, 85, 86] (by decide +kernel) (by decide +kernel)
set_option maxRecDepth 20000 in
theorem gX10_would_X10_brokenBy : GoodIn wsX10_would (wsV RX10 148 RX10 yX10_brokenBy wsX10_brokenBy) := goodIn_app (goodIn_of _ (by decide +kernel)) ggX10_would_X10_brokenBy
theorem dX10_would_0 : decode cX10_would 0 = .ok (.aload_n 0, 1) := by decide +kernel
theorem dX10_would_1 : decode cX10_would 1 = .ok (.iload_n 1, 1) := by decide +kernel
theorem dX10_would_2 : decode cX10_would 2 = .ok (.iload_n 2, 1) := by decide +kernel
theorem dX10_would_3 : decode cX10_would 3 = .ok (.iload_n 3, 1) := by decide +kernel
theorem dX10_would_4 : decode cX10_would 4 = .ok (.iload 4, 2) := by decide +kernel
theorem dX10_would_6 : decode cX10_would 6 = .ok (.invokevirtual 144, 3) := by decide +kernel
theorem dX10_would_9 : decode cX10_would 9 = .ok (.ifCond .ne 5, 3) := by decide +kernel
theorem dX10_would_12 : decode cX10_would 12 = .ok (.iconst (-1), 1) := by decide +kernel
theorem dX10_would_13 : decode cX10_would 13 = .ok (.ireturn, 1) := by decide +kernel
theorem dX10_would_14 : decode cX10_would 14 = .ok (.bipush 8, 2) := by decide +kernel
theorem dX10_would_16 : decode cX10_would 16 = .ok (.iload_n 1, 1) := by decide +kernel
theorem dX10_would_17 : decode cX10_would 17 = .ok (.imul, 1) := by decide +kernel
theorem dX10_would_18 : decode cX10_would 18 = .ok (.iload_n 2, 1) := by decide +kernel
theorem dX10_would_19 : decode cX10_would 19 = .ok (.iadd, 1) := by decide +kernel
theorem dX10_would_20 : decode cX10_would 20 = .ok (.istore 5, 2) := by decide +kernel
theorem dX10_would_22 : decode cX10_would 22 = .ok (.aload_n 0, 1) := by decide +kernel
theorem dX10_would_23 : decode cX10_would 23 = .ok (.getfield 7, 3) := by decide +kernel
theorem dX10_would_26 : decode cX10_would 26 = .ok (.iload 5, 2) := by decide +kernel
theorem dX10_would_28 : decode cX10_would 28 = .ok (.iaload, 1) := by decide +kernel
theorem dX10_would_29 : decode cX10_would 29 = .ok (.istore 6, 2) := by decide +kernel
theorem dX10_would_31 : decode cX10_would 31 = .ok (.aload_n 0, 1) := by decide +kernel
theorem dX10_would_32 : decode cX10_would 32 = .ok (.getfield 13, 3) := by decide +kernel
theorem dX10_would_35 : decode cX10_would 35 = .ok (.iload 5, 2) := by decide +kernel
theorem dX10_would_37 : decode cX10_would 37 = .ok (.iaload, 1) := by decide +kernel
theorem dX10_would_38 : decode cX10_would 38 = .ok (.istore 7, 2) := by decide +kernel
theorem dX10_would_40 : decode cX10_would 40 = .ok (.aload_n 0, 1) := by decide +kernel
theorem dX10_would_41 : decode cX10_would 41 = .ok (.getfield 7, 3) := by decide +kernel
theorem dX10_would_44 : decode cX10_would 44 = .ok (.iload 5, 2) := by decide +kernel
theorem dX10_would_46 : decode cX10_would 46 = .ok (.iload_n 3, 1) := by decide +kernel
theorem dX10_would_47 : decode cX10_would 47 = .ok (.iastore, 1) := by decide +kernel
theorem dX10_would_48 : decode cX10_would 48 = .ok (.aload_n 0, 1) := by decide +kernel
theorem dX10_would_49 : decode cX10_would 49 = .ok (.getfield 13, 3) := by decide +kernel
theorem dX10_would_52 : decode cX10_would 52 = .ok (.iload 5, 2) := by decide +kernel
theorem dX10_would_54 : decode cX10_would 54 = .ok (.iload 4, 2) := by decide +kernel
theorem dX10_would_56 : decode cX10_would 56 = .ok (.iastore, 1) := by decide +kernel
theorem dX10_would_57 : decode cX10_would 57 = .ok (.aload_n 0, 1) := by decide +kernel
theorem dX10_would_58 : decode cX10_would 58 = .ok (.iload_n 1, 1) := by decide +kernel
theorem dX10_would_59 : decode cX10_would 59 = .ok (.invokevirtual 148, 3) := by decide +kernel
theorem dX10_would_62 : decode cX10_would 62 = .ok (.istore 8, 2) := by decide +kernel
theorem dX10_would_64 : decode cX10_would 64 = .ok (.aload_n 0, 1) := by decide +kernel
theorem dX10_would_65 : decode cX10_would 65 = .ok (.getfield 7, 3) := by decide +kernel
theorem dX10_would_68 : decode cX10_would 68 = .ok (.iload 5, 2) := by decide +kernel
theorem dX10_would_70 : decode cX10_would 70 = .ok (.iload 6, 2) := by decide +kernel
theorem dX10_would_72 : decode cX10_would 72 = .ok (.iastore, 1) := by decide +kernel
theorem dX10_would_73 : decode cX10_would 73 = .ok (.aload_n 0, 1) := by decide +kernel
theorem dX10_would_74 : decode cX10_would 74 = .ok (.getfield 13, 3) := by decide +kernel
theorem dX10_would_77 : decode cX10_would 77 = .ok (.iload 5, 2) := by decide +kernel
theorem dX10_would_79 : decode cX10_would 79 = .ok (.iload 7, 2) := by decide +kernel
theorem dX10_would_81 : decode cX10_would 81 = .ok (.iastore, 1) := by decide +kernel
theorem dX10_would_82 : decode cX10_would 82 = .ok (.iconst 1, 1) := by decide +kernel
theorem dX10_would_83 : decode cX10_would 83 = .ok (.iload 8, 2) := by decide +kernel
theorem dX10_would_85 : decode cX10_would 85 = .ok (.iadd, 1) := by decide +kernel
theorem dX10_would_86 : decode cX10_would 86 = .ok (.ireturn, 1) := by decide +kernel
set_option maxRecDepth 20000 in
theorem ggX10_turn_X10_isSection : GoodIn wsX10_turn wsX10_isSection := goodIn_r _ [6, 7, 8, 5, 9] (by decide +kernel) (by decide +kernel)
set_option maxRecDepth 20000 in
theorem gX10_turn_X10_isSection : GoodIn wsX10_turn (va_wsS RX10 134 yX10_isSection wsX10_isSection) := goodIn_app (goodIn_of _ (by decide +kernel)) ggX10_turn_X10_isSection
set_option maxRecDepth 20000 in
theorem ggX10_turn_X10_in : GoodIn wsX10_turn wsX10_in := goodIn_r _ [9] (by decide +kernel) (by decide +kernel)
set_option maxRecDepth 20000 in
theorem gX10_turn_X10_in : GoodIn wsX10_turn (va_wsS RX10 117 yX10_in wsX10_in) := goodIn_app (goodIn_of _ (by decide +kernel)) ggX10_turn_X10_in
theorem dX10_turn_0 : decode cX10_turn 0 = .ok (.iload_n 1, 1) := by decide +kernel
theorem dX10_turn_1 : decode cX10_turn 1 = .ok (.invokestatic 134, 3) := by decide +kernel
theorem dX10_turn_4 : decode cX10_turn 4 = .ok (.ifCond .eq 16, 3) := by decide +kernel
theorem dX10_turn_7 : decode cX10_turn 7 = .ok (.iload_n 2, 1) := by decide +kernel
theorem dX10_turn_8 : decode cX10_turn 8 = .ok (.sipush (-359), 3) := by decide +kernel
theorem dX10_turn_11 : decode cX10_turn 11 = .ok (.sipush 359, 3) := by decide +kernel
theorem dX10_turn_14 : decode cX10_turn 14 = .ok (.invokestatic 117, 3) := by decide +kernel
theorem dX10_turn_17 : decode cX10_turn 17 = .ok (.ifCond .ne 5, 3) := by decide +kernel
