theorem dX10_turn_20 : decode cX10_turn 20 = .ok (.iconst (-1), 1) := by decide +kernel
theorem dX10_turn_21 : decode cX10_turn 21 = .ok (.ireturn, 1) := by decide +kernel
theorem dX10_turn_22 : decode cX10_turn 22 = .ok (.iconst 0, 1) := by decide +kernel
theorem dX10_turn_23 : decode cX10_turn 23 = .ok (.istore_n 3, 1) := by decide +kernel
theorem dX10_turn_24 : decode cX10_turn 24 = .ok (.iload_n 3, 1) := by decide +kernel
theorem dX10_turn_25 : decode cX10_turn 25 = .ok (.bipush 8, 2) := by decide +kernel
theorem dX10_turn_27 : decode cX10_turn 27 = .ok (.if_icmp .ge 73, 3) := by decide +kernel
theorem dX10_turn_30 : decode cX10_turn 30 = .ok (.aload_n 0, 1) := by decide +kernel
theorem dX10_turn_31 : decode cX10_turn 31 = .ok (.getfield 7, 3) := by decide +kernel
theorem dX10_turn_34 : decode cX10_turn 34 = .ok (.bipush 8, 2) := by decide +kernel
theorem dX10_turn_36 : decode cX10_turn 36 = .ok (.iload_n 1, 1) := by decide +kernel
theorem dX10_turn_37 : decode cX10_turn 37 = .ok (.imul, 1) := by decide +kernel
theorem dX10_turn_38 : decode cX10_turn 38 = .ok (.iload_n 3, 1) := by decide +kernel
theorem dX10_turn_39 : decode cX10_turn 39 = .ok (.iadd, 1) := by decide +kernel
theorem dX10_turn_40 : decode cX10_turn 40 = .ok (.aload_n 0, 1) := by decide +kernel
theorem dX10_turn_41 : decode cX10_turn 41 = .ok (.getfield 7, 3) := by decide +kernel
theorem dX10_turn_44 : decode cX10_turn 44 = .ok (.bipush 8, 2) := by decide +kernel
theorem dX10_turn_46 : decode cX10_turn 46 = .ok (.iload_n 1, 1) := by decide +kernel
theorem dX10_turn_47 : decode cX10_turn 47 = .ok (.imul, 1) := by decide +kernel
theorem dX10_turn_48 : decode cX10_turn 48 = .ok (.iload_n 3, 1) := by decide +kernel
theorem dX10_turn_49 : decode cX10_turn 49 = .ok (.iadd, 1) := by decide +kernel
theorem dX10_turn_50 : decode cX10_turn 50 = .ok (.iaload, 1) := by decide +kernel
theorem dX10_turn_51 : decode cX10_turn 51 = .ok (.iload_n 2, 1) := by decide +kernel
theorem dX10_turn_52 : decode cX10_turn 52 = .ok (.iadd, 1) := by decide +kernel
theorem dX10_turn_53 : decode cX10_turn 53 = .ok (.sipush 360, 3) := by decide +kernel
theorem dX10_turn_56 : decode cX10_turn 56 = .ok (.iadd, 1) := by decide +kernel
theorem dX10_turn_57 : decode cX10_turn 57 = .ok (.sipush 360, 3) := by decide +kernel
theorem dX10_turn_60 : decode cX10_turn 60 = .ok (.irem, 1) := by decide +kernel
theorem dX10_turn_61 : decode cX10_turn 61 = .ok (.iastore, 1) := by decide +kernel
theorem dX10_turn_62 : decode cX10_turn 62 = .ok (.aload_n 0, 1) := by decide +kernel
theorem dX10_turn_63 : decode cX10_turn 63 = .ok (.getfield 13, 3) := by decide +kernel
theorem dX10_turn_66 : decode cX10_turn 66 = .ok (.bipush 8, 2) := by decide +kernel
theorem dX10_turn_68 : decode cX10_turn 68 = .ok (.iload_n 1, 1) := by decide +kernel
theorem dX10_turn_69 : decode cX10_turn 69 = .ok (.imul, 1) := by decide +kernel
theorem dX10_turn_70 : decode cX10_turn 70 = .ok (.iload_n 3, 1) := by decide +kernel
theorem dX10_turn_71 : decode cX10_turn 71 = .ok (.iadd, 1) := by decide +kernel
theorem dX10_turn_72 : decode cX10_turn 72 = .ok (.aload_n 0, 1) := by decide +kernel
theorem dX10_turn_73 : decode cX10_turn 73 = .ok (.getfield 13, 3) := by decide +kernel
theorem dX10_turn_76 : decode cX10_turn 76 = .ok (.bipush 8, 2) := by decide +kernel
theorem dX10_turn_78 : decode cX10_turn 78 = .ok (.iload_n 1, 1) := by decide +kernel
theorem dX10_turn_79 : decode cX10_turn 79 = .ok (.imul, 1) := by decide +kernel
theorem dX10_turn_80 : decode cX10_turn 80 = .ok (.iload_n 3, 1) := by decide +kernel
theorem dX10_turn_81 : decode cX10_turn 81 = .ok (.iadd, 1) := by decide +kernel
theorem dX10_turn_82 : decode cX10_turn 82 = .ok (.iaload, 1) := by decide +kernel
theorem dX10_turn_83 : decode cX10_turn 83 = .ok (.iload_n 2, 1) := by decide +kernel
theorem dX10_turn_84 : decode cX10_turn 84 = .ok (.iadd, 1) := by decide +kernel
theorem dX10_turn_85 : decode cX10_turn 85 = .ok (.sipush 360, 3) := by decide +kernel
theorem dX10_turn_88 : decode cX10_turn 88 = .ok (.iadd, 1) := by decide +kernel
theorem dX10_turn_89 : decode cX10_turn 89 = .ok (.sipush 360, 3) := by decide +kernel
theorem dX10_turn_92 : decode cX10_turn 92 = .ok (.irem, 1) := by decide +kernel
theorem dX10_turn_93 : decode cX10_turn 93 = .ok (.iastore, 1) := by decide +kernel
theorem dX10_turn_94 : decode cX10_turn 94 = .ok (.iinc 3 1, 3) := by decide +kernel
theorem dX10_turn_97 : decode cX10_turn 97 = .ok (.goto (-73), 3) := by decide +kernel
theorem dX10_turn_100 : decode cX10_turn 100 = .ok (.iconst 1, 1) := by decide +kernel
theorem dX10_turn_101 : decode cX10_turn 101 = .ok (.ireturn, 1) := by decide +kernel
set_option maxRecDepth 20000 in
theorem ggX10_copy_X10_isSection : GoodIn wsX10_copy wsX10_isSection := goodIn_r _ [6, 7, 8, 5, 9] (by decide +kernel) (by decide +kernel)
set_option maxRecDepth 20000 in
theorem gX10_copy_X10_isSection : GoodIn wsX10_copy (va_wsS RX10 134 yX10_isSection wsX10_isSection) := goodIn_app (goodIn_of _ (by decide +kernel)) ggX10_copy_X10_isSection
theorem dX10_copy_0 : decode cX10_copy 0 = .ok (.iload_n 1, 1) := by decide +kernel
theorem dX10_copy_1 : decode cX10_copy 1 = .ok (.invokestatic 134, 3) := by decide +kernel
theorem dX10_copy_4 : decode cX10_copy 4 = .ok (.ifCond .eq 10, 3) := by decide +kernel
theorem dX10_copy_7 : decode cX10_copy 7 = .ok (.iload_n 2, 1) := by decide +kernel
theorem dX10_copy_8 : decode cX10_copy 8 = .ok (.invokestatic 134, 3) := by decide +kernel
theorem dX10_copy_11 : decode cX10_copy 11 = .ok (.ifCond .ne 5, 3) := by decide +kernel
theorem dX10_copy_14 : decode cX10_copy 14 = .ok (.iconst (-1), 1) := by decide +kernel
theorem dX10_copy_15 : decode cX10_copy 15 = .ok (.ireturn, 1) := by decide +kernel
theorem dX10_copy_16 : decode cX10_copy 16 = .ok (.iconst 0, 1) := by decide +kernel
theorem dX10_copy_17 : decode cX10_copy 17 = .ok (.istore_n 3, 1) := by decide +kernel
theorem dX10_copy_18 : decode cX10_copy 18 = .ok (.iload_n 3, 1) := by decide +kernel
theorem dX10_copy_19 : decode cX10_copy 19 = .ok (.bipush 8, 2) := by decide +kernel
theorem dX10_copy_21 : decode cX10_copy 21 = .ok (.if_icmp .ge 53, 3) := by decide +kernel
theorem dX10_copy_24 : decode cX10_copy 24 = .ok (.aload_n 0, 1) := by decide +kernel
theorem dX10_copy_25 : decode cX10_copy 25 = .ok (.getfield 7, 3) := by decide +kernel
theorem dX10_copy_28 : decode cX10_copy 28 = .ok (.bipush 8, 2) := by decide +kernel
theorem dX10_copy_30 : decode cX10_copy 30 = .ok (.iload_n 1, 1) := by decide +kernel
theorem dX10_copy_31 : decode cX10_copy 31 = .ok (.imul, 1) := by decide +kernel
theorem dX10_copy_32 : decode cX10_copy 32 = .ok (.iload_n 3, 1) := by decide +kernel
theorem dX10_copy_33 : decode cX10_copy 33 = .ok (.iadd, 1) := by decide +kernel
theorem dX10_copy_34 : decode cX10_copy 34 = .ok (.aload_n 0, 1) := by decide +kernel
theorem dX10_copy_35 : decode cX10_copy 35 = .ok (.getfield 7, 3) := by decide +kernel
theorem dX10_copy_38 : decode cX10_copy 38 = .ok (.bipush 8, 2) := by decide +kernel
theorem dX10_copy_40 : decode cX10_copy 40 = .ok (.iload_n 2, 1) := by decide +kernel
theorem dX10_copy_41 : decode cX10_copy 41 = .ok (.imul, 1) := by decide +kernel
theorem dX10_copy_42 : decode cX10_copy 42 = .ok (.iload_n 3, 1) := by decide +kernel
theorem dX10_copy_43 : decode cX10_copy 43 = .ok (.iadd, 1) := by decide +kernel
theorem dX10_copy_44 : decode cX10_copy 44 = .ok (.iaload, 1) := by decide +kernel
theorem dX10_copy_45 : decode cX10_copy 45 = .ok (.iastore, 1) := by decide +kernel
theorem dX10_copy_46 : decode cX10_copy 46 = .ok (.aload_n 0, 1) := by decide +kernel
theorem dX10_copy_47 : decode cX10_copy 47 = .ok (.getfield 13, 3) := by decide +kernel
theorem dX10_copy_50 : decode cX10_copy 50 = .ok (.bipush 8, 2) := by decide +kernel
theorem dX10_copy_52 : decode cX10_copy 52 = .ok (.iload_n 1, 1) := by decide +kernel
theorem dX10_copy_53 : decode cX10_copy 53 = .ok (.imul, 1) := by decide +kernel
theorem dX10_copy_54 : decode cX10_copy 54 = .ok (.iload_n 3, 1) := by decide +kernel
theorem dX10_copy_55 : decode cX10_copy 55 = .ok (.iadd, 1) := by decide +kernel
theorem dX10_copy_56 : decode cX10_copy 56 = .ok (.aload_n 0, 1) := by decide +kernel
theorem dX10_copy_57 : decode cX10_copy 57 = .ok (.getfield 13, 3) := by decide +kernel
theorem dX10_copy_60 : decode cX10_copy 60 = .ok (.bipush 8, 2) := by decide +kernel
theorem dX10_copy_62 : decode cX10_copy 62 = .ok (.iload_n 2, 1) := by decide +kernel
theorem dX10_copy_63 : decode cX10_copy 63 = .ok (.imul, 1) := by decide +kernel
theorem dX10_copy_64 : decode cX10_copy 64 = .ok (.iload_n 3, 1) := by decide +kernel
theorem dX10_copy_65 : decode cX10_copy 65 = .ok (.iadd, 1) := by decide +kernel
theorem dX10_copy_66 : decode cX10_copy 66 = .ok (.iaload, 1) := by decide +kernel
theorem dX10_copy_67 : decode cX10_copy 67 = .ok (.iastore, 1) := by decide +kernel
theorem dX10_copy_68 : decode cX10_copy 68 = .ok (.iinc 3 1, 3) := by decide +kernel
theorem dX10_copy_71 : decode cX10_copy 71 = .ok (.goto (-53), 3) := by decide +kernel
theorem dX10_copy_74 : decode cX10_copy 74 = .ok (.iconst 1, 1) := by decide +kernel
theorem dX10_copy_75 : decode cX10_copy 75 = .ok (.ireturn, 1) := by decide +kernel
set_option maxRecDepth 20000 in
theorem ggX10_law_X10_in : GoodIn wsX10_law wsX10_in := goodIn_r _ [11] (by decide +kernel) (by decide +kernel)
set_option maxRecDepth 20000 in
theorem gX10_law_X10_in : GoodIn wsX10_law (va_wsS RX10 117 yX10_in wsX10_in) := goodIn_app (goodIn_of _ (by decide +kernel)) ggX10_law_X10_in
set_option maxRecDepth 20000 in
theorem ggX10_law_X10_isAct : GoodIn wsX10_law wsX10_isAct := goodIn_r _ [14, 8, 9, 10, 11] (by decide +kernel) (by decide +kernel)
set_option maxRecDepth 20000 in
theorem gX10_law_X10_isAct : GoodIn wsX10_law (va_wsS RX10 138 yX10_isAct wsX10_isAct) := goodIn_app (goodIn_of _ (by decide +kernel)) ggX10_law_X10_isAct
set_option maxRecDepth 20000 in
theorem ggX10_law_X10_keeps : GoodIn wsX10_law wsX10_keeps := goodIn_r _ [18, 4, 5, 6, 3, 19, 20, 21, 22, 23, 10, 24, 25, 26, 27, 28, 29, 30, 31, 32, 33, 34, 35, 36, 37, 38, 39, 40, 41, 42, 43, 44, 45, 46, 47, 48, 49, 50, 51, 52, 53, 54, 55, 56, 57, 58, 59, 60, 61, 62, 63, 64, 65, 66, 67, 68, 69, 70, 71, 72, 73] (by decide +kernel) (by decide +kernel)
set_option maxRecDepth 20000 in
theorem gX10_law_X10_keeps : GoodIn wsX10_law (wsV RX10 131 RX10 yX10_keeps wsX10_keeps) := goodIn_app (goodIn_of _ (by decide +kernel)) ggX10_law_X10_keeps
theorem dX10_law_0 : decode cX10_law 0 = .ok (.iload_n 1, 1) := by decide +kernel
theorem dX10_law_1 : decode cX10_law 1 = .ok (.iconst 0, 1) := by decide +kernel
theorem dX10_law_2 : decode cX10_law 2 = .ok (.iconst 3, 1) := by decide +kernel
theorem dX10_law_3 : decode cX10_law 3 = .ok (.invokestatic 117, 3) := by decide +kernel
theorem dX10_law_6 : decode cX10_law 6 = .ok (.ifCond .eq 48, 3) := by decide +kernel
theorem dX10_law_9 : decode cX10_law 9 = .ok (.iload_n 2, 1) := by decide +kernel
theorem dX10_law_10 : decode cX10_law 10 = .ok (.invokestatic 138, 3) := by decide +kernel
theorem dX10_law_13 : decode cX10_law 13 = .ok (.ifCond .eq 41, 3) := by decide +kernel
theorem dX10_law_16 : decode cX10_law 16 = .ok (.iload_n 3, 1) := by decide +kernel
theorem dX10_law_17 : decode cX10_law 17 = .ok (.invokestatic 138, 3) := by decide +kernel
theorem dX10_law_20 : decode cX10_law 20 = .ok (.ifCond .eq 34, 3) := by decide +kernel
theorem dX10_law_23 : decode cX10_law 23 = .ok (.iload_n 2, 1) := by decide +kernel
theorem dX10_law_24 : decode cX10_law 24 = .ok (.iload_n 3, 1) := by decide +kernel
theorem dX10_law_25 : decode cX10_law 25 = .ok (.if_icmp .ne 8, 3) := by decide +kernel
theorem dX10_law_28 : decode cX10_law 28 = .ok (.iload_n 1, 1) := by decide +kernel
theorem dX10_law_29 : decode cX10_law 29 = .ok (.iconst 2, 1) := by decide +kernel
theorem dX10_law_30 : decode cX10_law 30 = .ok (.if_icmp .ne 24, 3) := by decide +kernel
theorem dX10_law_33 : decode cX10_law 33 = .ok (.iload 4, 2) := by decide +kernel
theorem dX10_law_35 : decode cX10_law 35 = .ok (.iconst 0, 1) := by decide +kernel
theorem dX10_law_36 : decode cX10_law 36 = .ok (.iload_n 1, 1) := by decide +kernel
theorem dX10_law_37 : decode cX10_law 37 = .ok (.ifCond .ne 9, 3) := by decide +kernel
theorem dX10_law_40 : decode cX10_law 40 = .ok (.sipush 359, 3) := by decide +kernel
theorem dX10_law_43 : decode cX10_law 43 = .ok (.goto 5, 3) := by decide +kernel
theorem dX10_law_46 : decode cX10_law 46 = .ok (.ldc 152, 2) := by decide +kernel
theorem dX10_law_48 : decode cX10_law 48 = .ok (.invokestatic 117, 3) := by decide +kernel
theorem dX10_law_51 : decode cX10_law 51 = .ok (.ifCond .ne 5, 3) := by decide +kernel
theorem dX10_law_54 : decode cX10_law 54 = .ok (.iconst (-1), 1) := by decide +kernel
theorem dX10_law_55 : decode cX10_law 55 = .ok (.ireturn, 1) := by decide +kernel
theorem dX10_law_56 : decode cX10_law 56 = .ok (.aload_n 0, 1) := by decide +kernel
theorem dX10_law_57 : decode cX10_law 57 = .ok (.getfield 128, 3) := by decide +kernel
theorem dX10_law_60 : decode cX10_law 60 = .ok (.bipush 16, 2) := by decide +kernel
theorem dX10_law_62 : decode cX10_law 62 = .ok (.if_icmp .ne 6, 3) := by decide +kernel
theorem dX10_law_65 : decode cX10_law 65 = .ok (.bipush (-2), 2) := by decide +kernel
theorem dX10_law_67 : decode cX10_law 67 = .ok (.ireturn, 1) := by decide +kernel
theorem dX10_law_68 : decode cX10_law 68 = .ok (.aload_n 0, 1) := by decide +kernel
theorem dX10_law_69 : decode cX10_law 69 = .ok (.getfield 16, 3) := by decide +kernel
theorem dX10_law_72 : decode cX10_law 72 = .ok (.aload_n 0, 1) := by decide +kernel
theorem dX10_law_73 : decode cX10_law 73 = .ok (.getfield 128, 3) := by decide +kernel
theorem dX10_law_76 : decode cX10_law 76 = .ok (.iload_n 1, 1) := by decide +kernel
theorem dX10_law_77 : decode cX10_law 77 = .ok (.iastore, 1) := by decide +kernel
theorem dX10_law_78 : decode cX10_law 78 = .ok (.aload_n 0, 1) := by decide +kernel
theorem dX10_law_79 : decode cX10_law 79 = .ok (.getfield 19, 3) := by decide +kernel
theorem dX10_law_82 : decode cX10_law 82 = .ok (.aload_n 0, 1) := by decide +kernel
theorem dX10_law_83 : decode cX10_law 83 = .ok (.getfield 128, 3) := by decide +kernel
theorem dX10_law_86 : decode cX10_law 86 = .ok (.iload_n 2, 1) := by decide +kernel
theorem dX10_law_87 : decode cX10_law 87 = .ok (.iastore, 1) := by decide +kernel
theorem dX10_law_88 : decode cX10_law 88 = .ok (.aload_n 0, 1) := by decide +kernel
theorem dX10_law_89 : decode cX10_law 89 = .ok (.getfield 22, 3) := by decide +kernel
theorem dX10_law_92 : decode cX10_law 92 = .ok (.aload_n 0, 1) := by decide +kernel
theorem dX10_law_93 : decode cX10_law 93 = .ok (.getfield 128, 3) := by decide +kernel
theorem dX10_law_96 : decode cX10_law 96 = .ok (.iload_n 3, 1) := by decide +kernel
theorem dX10_law_97 : decode cX10_law 97 = .ok (.iastore, 1) := by decide +kernel
theorem dX10_law_98 : decode cX10_law 98 = .ok (.aload_n 0, 1) := by decide +kernel
theorem dX10_law_99 : decode cX10_law 99 = .ok (.getfield 25, 3) := by decide +kernel
theorem dX10_law_102 : decode cX10_law 102 = .ok (.aload_n 0, 1) := by decide +kernel
theorem dX10_law_103 : decode cX10_law 103 = .ok (.getfield 128, 3) := by decide +kernel
theorem dX10_law_106 : decode cX10_law 106 = .ok (.iload 4, 2) := by decide +kernel
theorem dX10_law_108 : decode cX10_law 108 = .ok (.iastore, 1) := by decide +kernel
theorem dX10_law_109 : decode cX10_law 109 = .ok (.iconst 0, 1) := by decide +kernel
theorem dX10_law_110 : decode cX10_law 110 = .ok (.istore 5, 2) := by decide +kernel
theorem dX10_law_112 : decode cX10_law 112 = .ok (.iload 5, 2) := by decide +kernel
theorem dX10_law_114 : decode cX10_law 114 = .ok (.bipush 6, 2) := by decide +kernel
theorem dX10_law_116 : decode cX10_law 116 = .ok (.if_icmp .ge 34, 3) := by decide +kernel
theorem dX10_law_119 : decode cX10_law 119 = .ok (.aload_n 0, 1) := by decide +kernel
theorem dX10_law_120 : decode cX10_law 120 = .ok (.iload 5, 2) := by decide +kernel
theorem dX10_law_122 : decode cX10_law 122 = .ok (.aload_n 0, 1) := by decide +kernel
theorem dX10_law_123 : decode cX10_law 123 = .ok (.getfield 128, 3) := by decide +kernel
theorem dX10_law_126 : decode cX10_law 126 = .ok (.aload_n 0, 1) := by decide +kernel
theorem dX10_law_127 : decode cX10_law 127 = .ok (.getfield 28, 3) := by decide +kernel
theorem dX10_law_130 : decode cX10_law 130 = .ok (.invokevirtual 131, 3) := by decide +kernel
theorem dX10_law_133 : decode cX10_law 133 = .ok (.ifCond .ne 11, 3) := by decide +kernel
theorem dX10_law_136 : decode cX10_law 136 = .ok (.bipush (-100), 2) := by decide +kernel
theorem dX10_law_138 : decode cX10_law 138 = .ok (.aload_n 0, 1) := by decide +kernel
theorem dX10_law_139 : decode cX10_law 139 = .ok (.getfield 128, 3) := by decide +kernel
theorem dX10_law_142 : decode cX10_law 142 = .ok (.isub, 1) := by decide +kernel
theorem dX10_law_143 : decode cX10_law 143 = .ok (.ireturn, 1) := by decide +kernel
theorem dX10_law_144 : decode cX10_law 144 = .ok (.iinc 5 1, 3) := by decide +kernel
theorem dX10_law_147 : decode cX10_law 147 = .ok (.goto (-35), 3) := by decide +kernel
theorem dX10_law_150 : decode cX10_law 150 = .ok (.aload_n 0, 1) := by decide +kernel
theorem dX10_law_151 : decode cX10_law 151 = .ok (.dup, 1) := by decide +kernel
theorem dX10_law_152 : decode cX10_law 152 = .ok (.getfield 128, 3) := by decide +kernel
theorem dX10_law_155 : decode cX10_law 155 = .ok (.iconst 1, 1) := by decide +kernel
theorem dX10_law_156 : decode cX10_law 156 = .ok (.iadd, 1) := by decide +kernel
theorem dX10_law_157 : decode cX10_law 157 = .ok (.putfield 128, 3) := by decide +kernel
theorem dX10_law_160 : decode cX10_law 160 = .ok (.aload_n 0, 1) := by decide +kernel
theorem dX10_law_161 : decode cX10_law 161 = .ok (.getfield 128, 3) := by decide +kernel
theorem dX10_law_164 : decode cX10_law 164 = .ok (.iconst 1, 1) := by decide +kernel
theorem dX10_law_165 : decode cX10_law 165 = .ok (.isub, 1) := by decide +kernel
theorem dX10_law_166 : decode cX10_law 166 = .ok (.ireturn, 1) := by decide +kernel
theorem dX10_repeal_0 : decode cX10_repeal 0 = .ok (.aload_n 0, 1) := by decide +kernel
theorem dX10_repeal_1 : decode cX10_repeal 1 = .ok (.getfield 128, 3) := by decide +kernel
theorem dX10_repeal_4 : decode cX10_repeal 4 = .ok (.ifCond .ne 6, 3) := by decide +kernel
theorem dX10_repeal_7 : decode cX10_repeal 7 = .ok (.bipush (-4), 2) := by decide +kernel
theorem dX10_repeal_9 : decode cX10_repeal 9 = .ok (.ireturn, 1) := by decide +kernel
theorem dX10_repeal_10 : decode cX10_repeal 10 = .ok (.aload_n 0, 1) := by decide +kernel
theorem dX10_repeal_11 : decode cX10_repeal 11 = .ok (.dup, 1) := by decide +kernel
theorem dX10_repeal_12 : decode cX10_repeal 12 = .ok (.getfield 128, 3) := by decide +kernel
theorem dX10_repeal_15 : decode cX10_repeal 15 = .ok (.iconst 1, 1) := by decide +kernel
theorem dX10_repeal_16 : decode cX10_repeal 16 = .ok (.isub, 1) := by decide +kernel
theorem dX10_repeal_17 : decode cX10_repeal 17 = .ok (.putfield 128, 3) := by decide +kernel
theorem dX10_repeal_20 : decode cX10_repeal 20 = .ok (.aload_n 0, 1) := by decide +kernel
theorem dX10_repeal_21 : decode cX10_repeal 21 = .ok (.getfield 128, 3) := by decide +kernel
theorem dX10_repeal_24 : decode cX10_repeal 24 = .ok (.ireturn, 1) := by decide +kernel
set_option maxRecDepth 20000 in
theorem ggX10_pace_X10_in : GoodIn wsX10_pace wsX10_in := goodIn_r _ [5] (by decide +kernel) (by decide +kernel)
set_option maxRecDepth 20000 in
theorem gX10_pace_X10_in : GoodIn wsX10_pace (va_wsS RX10 117 yX10_in wsX10_in) := goodIn_app (goodIn_of _ (by decide +kernel)) ggX10_pace_X10_in
set_option maxRecDepth 20000 in
theorem ggX10_pace_X10_brokenAt : GoodIn wsX10_pace wsX10_brokenAt := goodIn_r _ [9, 10, 11, 12, 13, 4, 14, 15, 16, 17, 18, 19, 20, 21, 22, 23, 24, 25, 26, 27, 28, 29, 30, 31, 32, 33, 34, 35, 36, 37, 38, 39, 40, 41, 42, 43, 44, 45, 46, 47, 48, 49, 50, 51, 52, 53, 54, 55, 56, 57, 58, 59, 60, 61, 62, 63, 64, 65, 66, 67, 68, 69, 70, 71, 72, 73] (by decide +kernel) (by decide +kernel)
set_option maxRecDepth 20000 in
theorem gX10_pace_X10_brokenAt : GoodIn wsX10_pace (wsV RX10 153 RX10 yX10_brokenAt wsX10_brokenAt) := goodIn_app (goodIn_of _ (by decide +kernel)) ggX10_pace_X10_brokenAt
theorem dX10_pace_0 : decode cX10_pace 0 = .ok (.iload_n 1, 1) := by decide +kernel
theorem dX10_pace_1 : decode cX10_pace 1 = .ok (.iconst 1, 1) := by decide +kernel
theorem dX10_pace_2 : decode cX10_pace 2 = .ok (.bipush 60, 2) := by decide +kernel
theorem dX10_pace_4 : decode cX10_pace 4 = .ok (.invokestatic 117, 3) := by decide +kernel
theorem dX10_pace_7 : decode cX10_pace 7 = .ok (.ifCond .ne 5, 3) := by decide +kernel
theorem dX10_pace_10 : decode cX10_pace 10 = .ok (.iconst (-1), 1) := by decide +kernel
theorem dX10_pace_11 : decode cX10_pace 11 = .ok (.ireturn, 1) := by decide +kernel
theorem dX10_pace_12 : decode cX10_pace 12 = .ok (.aload_n 0, 1) := by decide +kernel
theorem dX10_pace_13 : decode cX10_pace 13 = .ok (.iload_n 1, 1) := by decide +kernel
theorem dX10_pace_14 : decode cX10_pace 14 = .ok (.invokevirtual 153, 3) := by decide +kernel
theorem dX10_pace_17 : decode cX10_pace 17 = .ok (.istore_n 2, 1) := by decide +kernel
theorem dX10_pace_18 : decode cX10_pace 18 = .ok (.iload_n 2, 1) := by decide +kernel
theorem dX10_pace_19 : decode cX10_pace 19 = .ok (.ifCond .lt 8, 3) := by decide +kernel
theorem dX10_pace_22 : decode cX10_pace 22 = .ok (.bipush (-100), 2) := by decide +kernel
theorem dX10_pace_24 : decode cX10_pace 24 = .ok (.iload_n 2, 1) := by decide +kernel
theorem dX10_pace_25 : decode cX10_pace 25 = .ok (.isub, 1) := by decide +kernel
theorem dX10_pace_26 : decode cX10_pace 26 = .ok (.ireturn, 1) := by decide +kernel
theorem dX10_pace_27 : decode cX10_pace 27 = .ok (.aload_n 0, 1) := by decide +kernel
theorem dX10_pace_28 : decode cX10_pace 28 = .ok (.getfield 28, 3) := by decide +kernel
theorem dX10_pace_31 : decode cX10_pace 31 = .ok (.istore_n 3, 1) := by decide +kernel
theorem dX10_pace_32 : decode cX10_pace 32 = .ok (.aload_n 0, 1) := by decide +kernel
theorem dX10_pace_33 : decode cX10_pace 33 = .ok (.iload_n 1, 1) := by decide +kernel
theorem dX10_pace_34 : decode cX10_pace 34 = .ok (.putfield 28, 3) := by decide +kernel
theorem dX10_pace_37 : decode cX10_pace 37 = .ok (.iload_n 3, 1) := by decide +kernel
theorem dX10_pace_38 : decode cX10_pace 38 = .ok (.ireturn, 1) := by decide +kernel
set_option maxRecDepth 20000 in
theorem ggX10_fastest_X10_brokenAt : GoodIn wsX10_fastest wsX10_brokenAt := goodIn_r _ [5, 6, 7, 8, 9, 4, 10, 11, 12, 13, 14, 15, 16, 17, 18, 19, 20, 21, 22, 23, 24, 25, 26, 27, 28, 29, 30, 31, 32, 33, 34, 35, 36, 37, 38, 39, 40, 41, 42, 43, 44, 45, 46, 47, 48, 49, 50, 51, 52, 53, 54, 55, 56, 57, 58, 59, 60, 61, 62, 63, 64, 65, 66, 67, 68, 69] (by decide +kernel) (by decide +kernel)
set_option maxRecDepth 20000 in
theorem gX10_fastest_X10_brokenAt : GoodIn wsX10_fastest (wsV RX10 153 RX10 yX10_brokenAt wsX10_brokenAt) := goodIn_app (goodIn_of _ (by decide +kernel)) ggX10_fastest_X10_brokenAt
theorem dX10_fastest_0 : decode cX10_fastest 0 = .ok (.bipush 60, 2) := by decide +kernel
theorem dX10_fastest_2 : decode cX10_fastest 2 = .ok (.istore_n 1, 1) := by decide +kernel
theorem dX10_fastest_3 : decode cX10_fastest 3 = .ok (.aload_n 0, 1) := by decide +kernel
theorem dX10_fastest_4 : decode cX10_fastest 4 = .ok (.iload_n 1, 1) := by decide +kernel
theorem dX10_fastest_5 : decode cX10_fastest 5 = .ok (.invokevirtual 153, 3) := by decide +kernel
theorem dX10_fastest_8 : decode cX10_fastest 8 = .ok (.ifCond .lt 9, 3) := by decide +kernel
theorem dX10_fastest_11 : decode cX10_fastest 11 = .ok (.iinc 1 (-1), 3) := by decide +kernel
theorem dX10_fastest_14 : decode cX10_fastest 14 = .ok (.goto (-11), 3) := by decide +kernel
theorem dX10_fastest_17 : decode cX10_fastest 17 = .ok (.iload_n 1, 1) := by decide +kernel
theorem dX10_fastest_18 : decode cX10_fastest 18 = .ok (.ireturn, 1) := by decide +kernel
set_option maxRecDepth 20000 in
theorem ggX10_act_X10_isSection : GoodIn wsX10_act wsX10_isSection := goodIn_r _ [6, 7, 8, 5, 9] (by decide +kernel) (by decide +kernel)
set_option maxRecDepth 20000 in
theorem gX10_act_X10_isSection : GoodIn wsX10_act (va_wsS RX10 134 yX10_isSection wsX10_isSection) := goodIn_app (goodIn_of _ (by decide +kernel)) ggX10_act_X10_isSection
set_option maxRecDepth 20000 in
theorem ggX10_act_X10_isAct : GoodIn wsX10_act wsX10_isAct := goodIn_r _ [12, 7, 8, 5, 9] (by decide +kernel) (by decide +kernel)
set_option maxRecDepth 20000 in
theorem gX10_act_X10_isAct : GoodIn wsX10_act (va_wsS RX10 138 yX10_isAct wsX10_isAct) := goodIn_app (goodIn_of _ (by decide +kernel)) ggX10_act_X10_isAct
set_option maxRecDepth 20000 in
theorem ggX10_act_X10_in : GoodIn wsX10_act wsX10_in := goodIn_r _ [9] (by decide +kernel) (by decide +kernel)
set_option maxRecDepth 20000 in
theorem gX10_act_X10_in : GoodIn wsX10_act (va_wsS RX10 117 yX10_in wsX10_in) := goodIn_app (goodIn_of _ (by decide +kernel)) ggX10_act_X10_in
set_option maxRecDepth 20000 in
theorem ggX10_act_X10_isDegree : GoodIn wsX10_act wsX10_isDegree := goodIn_r _ [15, 7, 8, 5, 9] (by decide +kernel) (by decide +kernel)
set_option maxRecDepth 20000 in
theorem gX10_act_X10_isDegree : GoodIn wsX10_act (va_wsS RX10 141 yX10_isDegree wsX10_isDegree) := goodIn_app (goodIn_of _ (by decide +kernel)) ggX10_act_X10_isDegree
set_option maxRecDepth 20000 in
theorem ggX10_act_X10_lengthOf : GoodIn wsX10_act wsX10_lengthOf := goodIn_r _ [19, 2, 1, 24, 25, 26, 27, 28, 29, 30, 31, 32, 33, 34, 35, 36, 37, 38, 39, 40, 41, 42, 43, 44, 45, 46, 47, 48, 49, 50, 51, 52, 53, 54, 55, 56, 57, 58, 59, 60, 61, 62, 63, 64, 65, 66, 67, 68] (by decide +kernel) (by decide +kernel)
set_option maxRecDepth 20000 in
theorem gX10_act_X10_lengthOf : GoodIn wsX10_act (wsV RX10 121 RX10 yX10_lengthOf wsX10_lengthOf) := goodIn_app (goodIn_of _ (by decide +kernel)) ggX10_act_X10_lengthOf
set_option maxRecDepth 20000 in
theorem ggX10_act_X10_isDone : GoodIn wsX10_act wsX10_isDone := goodIn_r _ [23, 1, 16, 17, 18, 5, 19, 2, 24, 25, 26, 27, 28, 29, 30, 31, 32, 33, 34, 35, 36, 37, 38, 39, 40, 41, 42, 43, 44, 45, 46, 47, 48, 49, 50, 51, 52, 53, 54, 55, 56, 57, 58, 59, 60, 61, 62, 63, 64, 65, 66, 67, 68] (by decide +kernel) (by decide +kernel)
set_option maxRecDepth 20000 in
theorem gX10_act_X10_isDone : GoodIn wsX10_act (wsV RX10 125 RX10 yX10_isDone wsX10_isDone) := goodIn_app (goodIn_of _ (by decide +kernel)) ggX10_act_X10_isDone
theorem dX10_act_0 : decode cX10_act 0 = .ok (.iload_n 1, 1) := by decide +kernel
theorem dX10_act_1 : decode cX10_act 1 = .ok (.invokestatic 134, 3) := by decide +kernel
theorem dX10_act_4 : decode cX10_act 4 = .ok (.ifCond .eq 32, 3) := by decide +kernel
theorem dX10_act_7 : decode cX10_act 7 = .ok (.iload_n 2, 1) := by decide +kernel
theorem dX10_act_8 : decode cX10_act 8 = .ok (.invokestatic 138, 3) := by decide +kernel
theorem dX10_act_11 : decode cX10_act 11 = .ok (.ifCond .eq 25, 3) := by decide +kernel
theorem dX10_act_14 : decode cX10_act 14 = .ok (.iload_n 3, 1) := by decide +kernel
theorem dX10_act_15 : decode cX10_act 15 = .ok (.iconst 0, 1) := by decide +kernel
theorem dX10_act_16 : decode cX10_act 16 = .ok (.iconst 3, 1) := by decide +kernel
theorem dX10_act_17 : decode cX10_act 17 = .ok (.invokestatic 117, 3) := by decide +kernel
theorem dX10_act_20 : decode cX10_act 20 = .ok (.ifCond .eq 16, 3) := by decide +kernel
theorem dX10_act_23 : decode cX10_act 23 = .ok (.iload_n 3, 1) := by decide +kernel
theorem dX10_act_24 : decode cX10_act 24 = .ok (.iconst 3, 1) := by decide +kernel
theorem dX10_act_25 : decode cX10_act 25 = .ok (.if_icmp .ne 13, 3) := by decide +kernel
theorem dX10_act_28 : decode cX10_act 28 = .ok (.iload 4, 2) := by decide +kernel
theorem dX10_act_30 : decode cX10_act 30 = .ok (.invokestatic 141, 3) := by decide +kernel
theorem dX10_act_33 : decode cX10_act 33 = .ok (.ifCond .ne 5, 3) := by decide +kernel
theorem dX10_act_36 : decode cX10_act 36 = .ok (.iconst (-1), 1) := by decide +kernel
theorem dX10_act_37 : decode cX10_act 37 = .ok (.ireturn, 1) := by decide +kernel
theorem dX10_act_38 : decode cX10_act 38 = .ok (.iload_n 3, 1) := by decide +kernel
theorem dX10_act_39 : decode cX10_act 39 = .ok (.tableswitch 56 0 2 #[25, 37, 49], 25) := by decide +kernel
theorem dX10_act_64 : decode cX10_act 64 = .ok (.aload_n 0, 1) := by decide +kernel
theorem dX10_act_65 : decode cX10_act 65 = .ok (.getfield 7, 3) := by decide +kernel
theorem dX10_act_68 : decode cX10_act 68 = .ok (.bipush 8, 2) := by decide +kernel
theorem dX10_act_70 : decode cX10_act 70 = .ok (.iload_n 1, 1) := by decide +kernel
theorem dX10_act_71 : decode cX10_act 71 = .ok (.imul, 1) := by decide +kernel
theorem dX10_act_72 : decode cX10_act 72 = .ok (.iload_n 2, 1) := by decide +kernel
theorem dX10_act_73 : decode cX10_act 73 = .ok (.iadd, 1) := by decide +kernel
theorem dX10_act_74 : decode cX10_act 74 = .ok (.iaload, 1) := by decide +kernel
theorem dX10_act_75 : decode cX10_act 75 = .ok (.ireturn, 1) := by decide +kernel
theorem dX10_act_76 : decode cX10_act 76 = .ok (.aload_n 0, 1) := by decide +kernel
theorem dX10_act_77 : decode cX10_act 77 = .ok (.getfield 13, 3) := by decide +kernel
theorem dX10_act_80 : decode cX10_act 80 = .ok (.bipush 8, 2) := by decide +kernel
theorem dX10_act_82 : decode cX10_act 82 = .ok (.iload_n 1, 1) := by decide +kernel
theorem dX10_act_83 : decode cX10_act 83 = .ok (.imul, 1) := by decide +kernel
theorem dX10_act_84 : decode cX10_act 84 = .ok (.iload_n 2, 1) := by decide +kernel
theorem dX10_act_85 : decode cX10_act 85 = .ok (.iadd, 1) := by decide +kernel
theorem dX10_act_86 : decode cX10_act 86 = .ok (.iaload, 1) := by decide +kernel
theorem dX10_act_87 : decode cX10_act 87 = .ok (.ireturn, 1) := by decide +kernel
theorem dX10_act_88 : decode cX10_act 88 = .ok (.aload_n 0, 1) := by decide +kernel
theorem dX10_act_89 : decode cX10_act 89 = .ok (.iload_n 1, 1) := by decide +kernel
theorem dX10_act_90 : decode cX10_act 90 = .ok (.iload_n 2, 1) := by decide +kernel
theorem dX10_act_91 : decode cX10_act 91 = .ok (.invokevirtual 121, 3) := by decide +kernel
theorem dX10_act_94 : decode cX10_act 94 = .ok (.ireturn, 1) := by decide +kernel
theorem dX10_act_95 : decode cX10_act 95 = .ok (.aload_n 0, 1) := by decide +kernel
theorem dX10_act_96 : decode cX10_act 96 = .ok (.iload_n 1, 1) := by decide +kernel
theorem dX10_act_97 : decode cX10_act 97 = .ok (.iload_n 2, 1) := by decide +kernel
theorem dX10_act_98 : decode cX10_act 98 = .ok (.iload 4, 2) := by decide +kernel
theorem dX10_act_100 : decode cX10_act 100 = .ok (.invokevirtual 125, 3) := by decide +kernel
theorem dX10_act_103 : decode cX10_act 103 = .ok (.ifCond .eq 7, 3) := by decide +kernel
theorem dX10_act_106 : decode cX10_act 106 = .ok (.iconst 1, 1) := by decide +kernel
theorem dX10_act_107 : decode cX10_act 107 = .ok (.goto 4, 3) := by decide +kernel
theorem dX10_act_110 : decode cX10_act 110 = .ok (.iconst 0, 1) := by decide +kernel
theorem dX10_act_111 : decode cX10_act 111 = .ok (.ireturn, 1) := by decide +kernel
theorem dX10_find_0 : decode cX10_find 0 = .ok (.aload_n 0, 1) := by decide +kernel
theorem dX10_find_1 : decode cX10_find 1 = .ok (.getfield 32, 3) := by decide +kernel
theorem dX10_find_4 : decode cX10_find 4 = .ok (.iload_n 1, 1) := by decide +kernel
theorem dX10_find_5 : decode cX10_find 5 = .ok (.iaload, 1) := by decide +kernel
theorem dX10_find_6 : decode cX10_find 6 = .ok (.istore_n 3, 1) := by decide +kernel
theorem dX10_find_7 : decode cX10_find 7 = .ok (.iload_n 3, 1) := by decide +kernel
theorem dX10_find_8 : decode cX10_find 8 = .ok (.iconst 1, 1) := by decide +kernel
theorem dX10_find_9 : decode cX10_find 9 = .ok (.isub, 1) := by decide +kernel
theorem dX10_find_10 : decode cX10_find 10 = .ok (.istore 4, 2) := by decide +kernel
theorem dX10_find_12 : decode cX10_find 12 = .ok (.iconst 0, 1) := by decide +kernel
theorem dX10_find_13 : decode cX10_find 13 = .ok (.istore 5, 2) := by decide +kernel
theorem dX10_find_15 : decode cX10_find 15 = .ok (.iload 5, 2) := by decide +kernel
theorem dX10_find_17 : decode cX10_find 17 = .ok (.iload_n 3, 1) := by decide +kernel
theorem dX10_find_18 : decode cX10_find 18 = .ok (.if_icmp .ge 34, 3) := by decide +kernel
theorem dX10_find_21 : decode cX10_find 21 = .ok (.aload_n 0, 1) := by decide +kernel
theorem dX10_find_22 : decode cX10_find 22 = .ok (.getfield 35, 3) := by decide +kernel
theorem dX10_find_25 : decode cX10_find 25 = .ok (.bipush 6, 2) := by decide +kernel
theorem dX10_find_27 : decode cX10_find 27 = .ok (.iload_n 1, 1) := by decide +kernel
theorem dX10_find_28 : decode cX10_find 28 = .ok (.imul, 1) := by decide +kernel
theorem dX10_find_29 : decode cX10_find 29 = .ok (.iload 5, 2) := by decide +kernel
theorem dX10_find_31 : decode cX10_find 31 = .ok (.iadd, 1) := by decide +kernel
theorem dX10_find_32 : decode cX10_find 32 = .ok (.iaload, 1) := by decide +kernel
theorem dX10_find_33 : decode cX10_find 33 = .ok (.iload_n 2, 1) := by decide +kernel
theorem dX10_find_34 : decode cX10_find 34 = .ok (.if_icmp .gt 8, 3) := by decide +kernel
theorem dX10_find_37 : decode cX10_find 37 = .ok (.iload 5, 2) := by decide +kernel
theorem dX10_find_39 : decode cX10_find 39 = .ok (.goto 5, 3) := by decide +kernel
theorem dX10_find_42 : decode cX10_find 42 = .ok (.iload 4, 2) := by decide +kernel
theorem dX10_find_44 : decode cX10_find 44 = .ok (.istore 4, 2) := by decide +kernel
theorem dX10_find_46 : decode cX10_find 46 = .ok (.iinc 5 1, 3) := by decide +kernel
theorem dX10_find_49 : decode cX10_find 49 = .ok (.goto (-34), 3) := by decide +kernel
theorem dX10_find_52 : decode cX10_find 52 = .ok (.iload 4, 2) := by decide +kernel
theorem dX10_find_54 : decode cX10_find 54 = .ok (.iconst 1, 1) := by decide +kernel
theorem dX10_find_55 : decode cX10_find 55 = .ok (.iadd, 1) := by decide +kernel
theorem dX10_find_56 : decode cX10_find 56 = .ok (.iload_n 3, 1) := by decide +kernel
theorem dX10_find_57 : decode cX10_find 57 = .ok (.irem, 1) := by decide +kernel
theorem dX10_find_58 : decode cX10_find 58 = .ok (.istore 5, 2) := by decide +kernel
theorem dX10_find_60 : decode cX10_find 60 = .ok (.aload_n 0, 1) := by decide +kernel
theorem dX10_find_61 : decode cX10_find 61 = .ok (.getfield 35, 3) := by decide +kernel
theorem dX10_find_64 : decode cX10_find 64 = .ok (.bipush 6, 2) := by decide +kernel
theorem dX10_find_66 : decode cX10_find 66 = .ok (.iload_n 1, 1) := by decide +kernel
theorem dX10_find_67 : decode cX10_find 67 = .ok (.imul, 1) := by decide +kernel
theorem dX10_find_68 : decode cX10_find 68 = .ok (.iload 4, 2) := by decide +kernel
theorem dX10_find_70 : decode cX10_find 70 = .ok (.iadd, 1) := by decide +kernel
theorem dX10_find_71 : decode cX10_find 71 = .ok (.iaload, 1) := by decide +kernel
theorem dX10_find_72 : decode cX10_find 72 = .ok (.istore 6, 2) := by decide +kernel
theorem dX10_find_74 : decode cX10_find 74 = .ok (.aload_n 0, 1) := by decide +kernel
theorem dX10_find_75 : decode cX10_find 75 = .ok (.getfield 35, 3) := by decide +kernel
theorem dX10_find_78 : decode cX10_find 78 = .ok (.bipush 6, 2) := by decide +kernel
theorem dX10_find_80 : decode cX10_find 80 = .ok (.iload_n 1, 1) := by decide +kernel
theorem dX10_find_81 : decode cX10_find 81 = .ok (.imul, 1) := by decide +kernel
theorem dX10_find_82 : decode cX10_find 82 = .ok (.iload 5, 2) := by decide +kernel
theorem dX10_find_84 : decode cX10_find 84 = .ok (.iadd, 1) := by decide +kernel
theorem dX10_find_85 : decode cX10_find 85 = .ok (.iaload, 1) := by decide +kernel
theorem dX10_find_86 : decode cX10_find 86 = .ok (.iload 6, 2) := by decide +kernel
theorem dX10_find_88 : decode cX10_find 88 = .ok (.isub, 1) := by decide +kernel
theorem dX10_find_89 : decode cX10_find 89 = .ok (.sipush 360, 3) := by decide +kernel
theorem dX10_find_92 : decode cX10_find 92 = .ok (.iadd, 1) := by decide +kernel
theorem dX10_find_93 : decode cX10_find 93 = .ok (.sipush 360, 3) := by decide +kernel
theorem dX10_find_96 : decode cX10_find 96 = .ok (.irem, 1) := by decide +kernel
theorem dX10_find_97 : decode cX10_find 97 = .ok (.istore 7, 2) := by decide +kernel
theorem dX10_find_99 : decode cX10_find 99 = .ok (.iload 7, 2) := by decide +kernel
theorem dX10_find_101 : decode cX10_find 101 = .ok (.ifCond .ne 9, 3) := by decide +kernel
theorem dX10_find_104 : decode cX10_find 104 = .ok (.sipush 360, 3) := by decide +kernel
theorem dX10_find_107 : decode cX10_find 107 = .ok (.goto 5, 3) := by decide +kernel
theorem dX10_find_110 : decode cX10_find 110 = .ok (.iload 7, 2) := by decide +kernel
theorem dX10_find_112 : decode cX10_find 112 = .ok (.istore 7, 2) := by decide +kernel
theorem dX10_find_114 : decode cX10_find 114 = .ok (.iload_n 2, 1) := by decide +kernel
theorem dX10_find_115 : decode cX10_find 115 = .ok (.iload 6, 2) := by decide +kernel
theorem dX10_find_117 : decode cX10_find 117 = .ok (.isub, 1) := by decide +kernel
theorem dX10_find_118 : decode cX10_find 118 = .ok (.sipush 360, 3) := by decide +kernel
theorem dX10_find_121 : decode cX10_find 121 = .ok (.iadd, 1) := by decide +kernel
theorem dX10_find_122 : decode cX10_find 122 = .ok (.sipush 360, 3) := by decide +kernel
theorem dX10_find_125 : decode cX10_find 125 = .ok (.irem, 1) := by decide +kernel
theorem dX10_find_126 : decode cX10_find 126 = .ok (.istore 8, 2) := by decide +kernel
theorem dX10_find_128 : decode cX10_find 128 = .ok (.aload_n 0, 1) := by decide +kernel
theorem dX10_find_129 : decode cX10_find 129 = .ok (.getfield 38, 3) := by decide +kernel
theorem dX10_find_132 : decode cX10_find 132 = .ok (.bipush 6, 2) := by decide +kernel
theorem dX10_find_134 : decode cX10_find 134 = .ok (.iload_n 1, 1) := by decide +kernel
theorem dX10_find_135 : decode cX10_find 135 = .ok (.imul, 1) := by decide +kernel
theorem dX10_find_136 : decode cX10_find 136 = .ok (.iload 4, 2) := by decide +kernel
theorem dX10_find_138 : decode cX10_find 138 = .ok (.iadd, 1) := by decide +kernel
theorem dX10_find_139 : decode cX10_find 139 = .ok (.iaload, 1) := by decide +kernel
theorem dX10_find_140 : decode cX10_find 140 = .ok (.istore 9, 2) := by decide +kernel
theorem dX10_find_142 : decode cX10_find 142 = .ok (.aload_n 0, 1) := by decide +kernel
theorem dX10_find_143 : decode cX10_find 143 = .ok (.iload 9, 2) := by decide +kernel
theorem dX10_find_145 : decode cX10_find 145 = .ok (.iload 7, 2) := by decide +kernel
theorem dX10_find_147 : decode cX10_find 147 = .ok (.imul, 1) := by decide +kernel
theorem dX10_find_148 : decode cX10_find 148 = .ok (.aload_n 0, 1) := by decide +kernel
theorem dX10_find_149 : decode cX10_find 149 = .ok (.getfield 38, 3) := by decide +kernel
theorem dX10_find_152 : decode cX10_find 152 = .ok (.bipush 6, 2) := by decide +kernel
theorem dX10_find_154 : decode cX10_find 154 = .ok (.iload_n 1, 1) := by decide +kernel
theorem dX10_find_155 : decode cX10_find 155 = .ok (.imul, 1) := by decide +kernel
theorem dX10_find_156 : decode cX10_find 156 = .ok (.iload 5, 2) := by decide +kernel
theorem dX10_find_158 : decode cX10_find 158 = .ok (.iadd, 1) := by decide +kernel
theorem dX10_find_159 : decode cX10_find 159 = .ok (.iaload, 1) := by decide +kernel
theorem dX10_find_160 : decode cX10_find 160 = .ok (.iload 9, 2) := by decide +kernel
theorem dX10_find_162 : decode cX10_find 162 = .ok (.isub, 1) := by decide +kernel
theorem dX10_find_163 : decode cX10_find 163 = .ok (.iload 8, 2) := by decide +kernel
theorem dX10_find_165 : decode cX10_find 165 = .ok (.imul, 1) := by decide +kernel
theorem dX10_find_166 : decode cX10_find 166 = .ok (.iadd, 1) := by decide +kernel
theorem dX10_find_167 : decode cX10_find 167 = .ok (.putfield 156, 3) := by decide +kernel
theorem dX10_find_170 : decode cX10_find 170 = .ok (.aload_n 0, 1) := by decide +kernel
theorem dX10_find_171 : decode cX10_find 171 = .ok (.iload 7, 2) := by decide +kernel
theorem dX10_find_173 : decode cX10_find 173 = .ok (.putfield 159, 3) := by decide +kernel
theorem dX10_find_176 : decode cX10_find 176 = .ok (.return_, 1) := by decide +kernel
set_option maxRecDepth 20000 in
theorem ggX10_areClear_X10_find : GoodIn wsX10_areClear wsX10_find := goodIn_r _ [8, 9, 10, 11, 1, 3, 12, 13, 14, 15, 16, 17, 18, 19, 20, 21, 22, 23, 24, 25, 26, 27, 28, 29, 30, 31, 32, 33, 34, 35, 36, 37, 38, 39, 40, 41, 42, 43, 44, 45, 46, 47, 48, 49, 50, 51, 52, 53, 54, 55, 56] (by decide +kernel) (by decide +kernel)
set_option maxRecDepth 20000 in
theorem gX10_areClear_X10_find : GoodIn wsX10_areClear (wsV RX10 162 RX10 yX10_find wsX10_find) := goodIn_app (goodIn_of _ (by decide +kernel)) ggX10_areClear_X10_find
theorem dX10_areClear_0 : decode cX10_areClear 0 = .ok (.iconst 0, 1) := by decide +kernel
theorem dX10_areClear_1 : decode cX10_areClear 1 = .ok (.istore_n 1, 1) := by decide +kernel
theorem dX10_areClear_2 : decode cX10_areClear 2 = .ok (.iload_n 1, 1) := by decide +kernel
theorem dX10_areClear_3 : decode cX10_areClear 3 = .ok (.iconst 3, 1) := by decide +kernel
theorem dX10_areClear_4 : decode cX10_areClear 4 = .ok (.if_icmp .ge 97, 3) := by decide +kernel
theorem dX10_areClear_7 : decode cX10_areClear 7 = .ok (.iload_n 1, 1) := by decide +kernel
theorem dX10_areClear_8 : decode cX10_areClear 8 = .ok (.iconst 1, 1) := by decide +kernel
theorem dX10_areClear_9 : decode cX10_areClear 9 = .ok (.iadd, 1) := by decide +kernel
theorem dX10_areClear_10 : decode cX10_areClear 10 = .ok (.istore_n 2, 1) := by decide +kernel
theorem dX10_areClear_11 : decode cX10_areClear 11 = .ok (.iload_n 2, 1) := by decide +kernel
theorem dX10_areClear_12 : decode cX10_areClear 12 = .ok (.iconst 3, 1) := by decide +kernel
theorem dX10_areClear_13 : decode cX10_areClear 13 = .ok (.if_icmp .ge 82, 3) := by decide +kernel
theorem dX10_areClear_16 : decode cX10_areClear 16 = .ok (.iconst 0, 1) := by decide +kernel
theorem dX10_areClear_17 : decode cX10_areClear 17 = .ok (.istore_n 3, 1) := by decide +kernel
theorem dX10_areClear_18 : decode cX10_areClear 18 = .ok (.iload_n 3, 1) := by decide +kernel
theorem dX10_areClear_19 : decode cX10_areClear 19 = .ok (.sipush 360, 3) := by decide +kernel
theorem dX10_areClear_22 : decode cX10_areClear 22 = .ok (.if_icmp .ge 67, 3) := by decide +kernel
theorem dX10_areClear_25 : decode cX10_areClear 25 = .ok (.aload_n 0, 1) := by decide +kernel
theorem dX10_areClear_26 : decode cX10_areClear 26 = .ok (.iload_n 1, 1) := by decide +kernel
theorem dX10_areClear_27 : decode cX10_areClear 27 = .ok (.iload_n 3, 1) := by decide +kernel
theorem dX10_areClear_28 : decode cX10_areClear 28 = .ok (.invokevirtual 162, 3) := by decide +kernel
theorem dX10_areClear_31 : decode cX10_areClear 31 = .ok (.aload_n 0, 1) := by decide +kernel
theorem dX10_areClear_32 : decode cX10_areClear 32 = .ok (.getfield 156, 3) := by decide +kernel
theorem dX10_areClear_35 : decode cX10_areClear 35 = .ok (.i2l, 1) := by decide +kernel
theorem dX10_areClear_36 : decode cX10_areClear 36 = .ok (.ldc2_w 166, 3) := by decide +kernel
theorem dX10_areClear_39 : decode cX10_areClear 39 = .ok (.aload_n 0, 1) := by decide +kernel
theorem dX10_areClear_40 : decode cX10_areClear 40 = .ok (.getfield 159, 3) := by decide +kernel
theorem dX10_areClear_43 : decode cX10_areClear 43 = .ok (.i2l, 1) := by decide +kernel
theorem dX10_areClear_44 : decode cX10_areClear 44 = .ok (.lmul, 1) := by decide +kernel
theorem dX10_areClear_45 : decode cX10_areClear 45 = .ok (.ladd, 1) := by decide +kernel
theorem dX10_areClear_46 : decode cX10_areClear 46 = .ok (.lstore 4, 2) := by decide +kernel
theorem dX10_areClear_48 : decode cX10_areClear 48 = .ok (.aload_n 0, 1) := by decide +kernel
theorem dX10_areClear_49 : decode cX10_areClear 49 = .ok (.getfield 159, 3) := by decide +kernel
theorem dX10_areClear_52 : decode cX10_areClear 52 = .ok (.i2l, 1) := by decide +kernel
theorem dX10_areClear_53 : decode cX10_areClear 53 = .ok (.lstore 6, 2) := by decide +kernel
theorem dX10_areClear_55 : decode cX10_areClear 55 = .ok (.aload_n 0, 1) := by decide +kernel
theorem dX10_areClear_56 : decode cX10_areClear 56 = .ok (.iload_n 2, 1) := by decide +kernel
theorem dX10_areClear_57 : decode cX10_areClear 57 = .ok (.iload_n 3, 1) := by decide +kernel
theorem dX10_areClear_58 : decode cX10_areClear 58 = .ok (.invokevirtual 162, 3) := by decide +kernel
theorem dX10_areClear_61 : decode cX10_areClear 61 = .ok (.lload 4, 2) := by decide +kernel
theorem dX10_areClear_63 : decode cX10_areClear 63 = .ok (.aload_n 0, 1) := by decide +kernel
theorem dX10_areClear_64 : decode cX10_areClear 64 = .ok (.getfield 159, 3) := by decide +kernel
theorem dX10_areClear_67 : decode cX10_areClear 67 = .ok (.i2l, 1) := by decide +kernel
theorem dX10_areClear_68 : decode cX10_areClear 68 = .ok (.lmul, 1) := by decide +kernel
theorem dX10_areClear_69 : decode cX10_areClear 69 = .ok (.aload_n 0, 1) := by decide +kernel
theorem dX10_areClear_70 : decode cX10_areClear 70 = .ok (.getfield 156, 3) := by decide +kernel
theorem dX10_areClear_73 : decode cX10_areClear 73 = .ok (.i2l, 1) := by decide +kernel
theorem dX10_areClear_74 : decode cX10_areClear 74 = .ok (.lload 6, 2) := by decide +kernel
theorem dX10_areClear_76 : decode cX10_areClear 76 = .ok (.lmul, 1) := by decide +kernel
theorem dX10_areClear_77 : decode cX10_areClear 77 = .ok (.lcmp, 1) := by decide +kernel
theorem dX10_areClear_78 : decode cX10_areClear 78 = .ok (.ifCond .le 5, 3) := by decide +kernel
theorem dX10_areClear_81 : decode cX10_areClear 81 = .ok (.iconst 0, 1) := by decide +kernel
theorem dX10_areClear_82 : decode cX10_areClear 82 = .ok (.ireturn, 1) := by decide +kernel
theorem dX10_areClear_83 : decode cX10_areClear 83 = .ok (.iinc 3 1, 3) := by decide +kernel
theorem dX10_areClear_86 : decode cX10_areClear 86 = .ok (.goto (-68), 3) := by decide +kernel
theorem dX10_areClear_89 : decode cX10_areClear 89 = .ok (.iinc 2 1, 3) := by decide +kernel
theorem dX10_areClear_92 : decode cX10_areClear 92 = .ok (.goto (-81), 3) := by decide +kernel
theorem dX10_areClear_95 : decode cX10_areClear 95 = .ok (.iinc 1 1, 3) := by decide +kernel
theorem dX10_areClear_98 : decode cX10_areClear 98 = .ok (.goto (-96), 3) := by decide +kernel
theorem dX10_areClear_101 : decode cX10_areClear 101 = .ok (.iconst 1, 1) := by decide +kernel
theorem dX10_areClear_102 : decode cX10_areClear 102 = .ok (.ireturn, 1) := by decide +kernel
set_option maxRecDepth 20000 in
theorem ggX10_arm_X10_isArm : GoodIn wsX10_arm wsX10_isArm := goodIn_r _ [12, 13, 14, 11, 15] (by decide +kernel) (by decide +kernel)
set_option maxRecDepth 20000 in
theorem gX10_arm_X10_isArm : GoodIn wsX10_arm (va_wsS RX10 168 yX10_isArm wsX10_isArm) := goodIn_app (goodIn_of _ (by decide +kernel)) ggX10_arm_X10_isArm
set_option maxRecDepth 20000 in
theorem ggX10_arm_X10_areClear : GoodIn wsX10_arm wsX10_areClear := goodIn_r _ [19, 20, 21, 22, 23, 24, 25, 11, 26, 2, 4, 6, 27, 28, 29, 30, 31, 32, 33, 34, 35, 36, 37, 38, 39, 40, 41, 42, 43, 44, 45, 46, 47, 48, 49, 50, 51, 52, 53, 54, 55, 56, 57, 58, 59, 60, 61, 62, 63, 64, 65, 66, 67, 68, 69, 70, 71] (by decide +kernel) (by decide +kernel)
set_option maxRecDepth 20000 in
theorem gX10_arm_X10_areClear : GoodIn wsX10_arm (wsV RX10 174 RX10 yX10_areClear wsX10_areClear) := goodIn_app (goodIn_of _ (by decide +kernel)) ggX10_arm_X10_areClear
theorem dX10_arm_0 : decode cX10_arm 0 = .ok (.iload_n 1, 1) := by decide +kernel
theorem dX10_arm_1 : decode cX10_arm 1 = .ok (.invokestatic 168, 3) := by decide +kernel
theorem dX10_arm_4 : decode cX10_arm 4 = .ok (.ifCond .ne 5, 3) := by decide +kernel
theorem dX10_arm_7 : decode cX10_arm 7 = .ok (.iconst (-1), 1) := by decide +kernel
theorem dX10_arm_8 : decode cX10_arm 8 = .ok (.ireturn, 1) := by decide +kernel
theorem dX10_arm_9 : decode cX10_arm 9 = .ok (.aload_n 0, 1) := by decide +kernel
theorem dX10_arm_10 : decode cX10_arm 10 = .ok (.getfield 171, 3) := by decide +kernel
theorem dX10_arm_13 : decode cX10_arm 13 = .ok (.ifCond .ne 6, 3) := by decide +kernel
theorem dX10_arm_16 : decode cX10_arm 16 = .ok (.bipush (-4), 2) := by decide +kernel
theorem dX10_arm_18 : decode cX10_arm 18 = .ok (.ireturn, 1) := by decide +kernel
theorem dX10_arm_19 : decode cX10_arm 19 = .ok (.aload_n 0, 1) := by decide +kernel
theorem dX10_arm_20 : decode cX10_arm 20 = .ok (.getfield 32, 3) := by decide +kernel
theorem dX10_arm_23 : decode cX10_arm 23 = .ok (.iload_n 1, 1) := by decide +kernel
theorem dX10_arm_24 : decode cX10_arm 24 = .ok (.iaload, 1) := by decide +kernel
theorem dX10_arm_25 : decode cX10_arm 25 = .ok (.istore_n 2, 1) := by decide +kernel
theorem dX10_arm_26 : decode cX10_arm 26 = .ok (.iconst 0, 1) := by decide +kernel
theorem dX10_arm_27 : decode cX10_arm 27 = .ok (.istore_n 3, 1) := by decide +kernel
theorem dX10_arm_28 : decode cX10_arm 28 = .ok (.iload_n 3, 1) := by decide +kernel
theorem dX10_arm_29 : decode cX10_arm 29 = .ok (.bipush 6, 2) := by decide +kernel
theorem dX10_arm_31 : decode cX10_arm 31 = .ok (.if_icmp .ge 77, 3) := by decide +kernel
theorem dX10_arm_34 : decode cX10_arm 34 = .ok (.aload_n 0, 1) := by decide +kernel
theorem dX10_arm_35 : decode cX10_arm 35 = .ok (.getfield 111, 3) := by decide +kernel
theorem dX10_arm_38 : decode cX10_arm 38 = .ok (.iload_n 3, 1) := by decide +kernel
theorem dX10_arm_39 : decode cX10_arm 39 = .ok (.aload_n 0, 1) := by decide +kernel
theorem dX10_arm_40 : decode cX10_arm 40 = .ok (.getfield 35, 3) := by decide +kernel
theorem dX10_arm_43 : decode cX10_arm 43 = .ok (.bipush 6, 2) := by decide +kernel
theorem dX10_arm_45 : decode cX10_arm 45 = .ok (.iload_n 1, 1) := by decide +kernel
theorem dX10_arm_46 : decode cX10_arm 46 = .ok (.imul, 1) := by decide +kernel
theorem dX10_arm_47 : decode cX10_arm 47 = .ok (.iload_n 3, 1) := by decide +kernel
theorem dX10_arm_48 : decode cX10_arm 48 = .ok (.iadd, 1) := by decide +kernel
theorem dX10_arm_49 : decode cX10_arm 49 = .ok (.iaload, 1) := by decide +kernel
theorem dX10_arm_50 : decode cX10_arm 50 = .ok (.iastore, 1) := by decide +kernel
theorem dX10_arm_51 : decode cX10_arm 51 = .ok (.aload_n 0, 1) := by decide +kernel
theorem dX10_arm_52 : decode cX10_arm 52 = .ok (.getfield 114, 3) := by decide +kernel
theorem dX10_arm_55 : decode cX10_arm 55 = .ok (.iload_n 3, 1) := by decide +kernel
theorem dX10_arm_56 : decode cX10_arm 56 = .ok (.aload_n 0, 1) := by decide +kernel
theorem dX10_arm_57 : decode cX10_arm 57 = .ok (.getfield 38, 3) := by decide +kernel
theorem dX10_arm_60 : decode cX10_arm 60 = .ok (.bipush 6, 2) := by decide +kernel
theorem dX10_arm_62 : decode cX10_arm 62 = .ok (.iload_n 1, 1) := by decide +kernel
theorem dX10_arm_63 : decode cX10_arm 63 = .ok (.imul, 1) := by decide +kernel
theorem dX10_arm_64 : decode cX10_arm 64 = .ok (.iload_n 3, 1) := by decide +kernel
theorem dX10_arm_65 : decode cX10_arm 65 = .ok (.iadd, 1) := by decide +kernel
theorem dX10_arm_66 : decode cX10_arm 66 = .ok (.iaload, 1) := by decide +kernel
theorem dX10_arm_67 : decode cX10_arm 67 = .ok (.iastore, 1) := by decide +kernel
theorem dX10_arm_68 : decode cX10_arm 68 = .ok (.aload_n 0, 1) := by decide +kernel
theorem dX10_arm_69 : decode cX10_arm 69 = .ok (.getfield 35, 3) := by decide +kernel
theorem dX10_arm_72 : decode cX10_arm 72 = .ok (.bipush 6, 2) := by decide +kernel
theorem dX10_arm_74 : decode cX10_arm 74 = .ok (.iload_n 1, 1) := by decide +kernel
theorem dX10_arm_75 : decode cX10_arm 75 = .ok (.imul, 1) := by decide +kernel
theorem dX10_arm_76 : decode cX10_arm 76 = .ok (.iload_n 3, 1) := by decide +kernel
theorem dX10_arm_77 : decode cX10_arm 77 = .ok (.iadd, 1) := by decide +kernel
theorem dX10_arm_78 : decode cX10_arm 78 = .ok (.aload_n 0, 1) := by decide +kernel
theorem dX10_arm_79 : decode cX10_arm 79 = .ok (.getfield 41, 3) := by decide +kernel
theorem dX10_arm_82 : decode cX10_arm 82 = .ok (.iload_n 3, 1) := by decide +kernel
theorem dX10_arm_83 : decode cX10_arm 83 = .ok (.iaload, 1) := by decide +kernel
theorem dX10_arm_84 : decode cX10_arm 84 = .ok (.iastore, 1) := by decide +kernel
theorem dX10_arm_85 : decode cX10_arm 85 = .ok (.aload_n 0, 1) := by decide +kernel
theorem dX10_arm_86 : decode cX10_arm 86 = .ok (.getfield 38, 3) := by decide +kernel
theorem dX10_arm_89 : decode cX10_arm 89 = .ok (.bipush 6, 2) := by decide +kernel
theorem dX10_arm_91 : decode cX10_arm 91 = .ok (.iload_n 1, 1) := by decide +kernel
theorem dX10_arm_92 : decode cX10_arm 92 = .ok (.imul, 1) := by decide +kernel
theorem dX10_arm_93 : decode cX10_arm 93 = .ok (.iload_n 3, 1) := by decide +kernel
theorem dX10_arm_94 : decode cX10_arm 94 = .ok (.iadd, 1) := by decide +kernel
theorem dX10_arm_95 : decode cX10_arm 95 = .ok (.aload_n 0, 1) := by decide +kernel
theorem dX10_arm_96 : decode cX10_arm 96 = .ok (.getfield 44, 3) := by decide +kernel
theorem dX10_arm_99 : decode cX10_arm 99 = .ok (.iload_n 3, 1) := by decide +kernel
theorem dX10_arm_100 : decode cX10_arm 100 = .ok (.iaload, 1) := by decide +kernel
theorem dX10_arm_101 : decode cX10_arm 101 = .ok (.iastore, 1) := by decide +kernel
theorem dX10_arm_102 : decode cX10_arm 102 = .ok (.iinc 3 1, 3) := by decide +kernel
theorem dX10_arm_105 : decode cX10_arm 105 = .ok (.goto (-77), 3) := by decide +kernel
theorem dX10_arm_108 : decode cX10_arm 108 = .ok (.aload_n 0, 1) := by decide +kernel
theorem dX10_arm_109 : decode cX10_arm 109 = .ok (.getfield 32, 3) := by decide +kernel
theorem dX10_arm_112 : decode cX10_arm 112 = .ok (.iload_n 1, 1) := by decide +kernel
theorem dX10_arm_113 : decode cX10_arm 113 = .ok (.aload_n 0, 1) := by decide +kernel
theorem dX10_arm_114 : decode cX10_arm 114 = .ok (.getfield 171, 3) := by decide +kernel
theorem dX10_arm_117 : decode cX10_arm 117 = .ok (.iastore, 1) := by decide +kernel
theorem dX10_arm_118 : decode cX10_arm 118 = .ok (.aload_n 0, 1) := by decide +kernel
theorem dX10_arm_119 : decode cX10_arm 119 = .ok (.invokevirtual 174, 3) := by decide +kernel
theorem dX10_arm_122 : decode cX10_arm 122 = .ok (.ifCond .ne 61, 3) := by decide +kernel
theorem dX10_arm_125 : decode cX10_arm 125 = .ok (.aload_n 0, 1) := by decide +kernel
theorem dX10_arm_126 : decode cX10_arm 126 = .ok (.getfield 32, 3) := by decide +kernel
theorem dX10_arm_129 : decode cX10_arm 129 = .ok (.iload_n 1, 1) := by decide +kernel
theorem dX10_arm_130 : decode cX10_arm 130 = .ok (.iload_n 2, 1) := by decide +kernel
theorem dX10_arm_131 : decode cX10_arm 131 = .ok (.iastore, 1) := by decide +kernel
theorem dX10_arm_132 : decode cX10_arm 132 = .ok (.iconst 0, 1) := by decide +kernel
theorem dX10_arm_133 : decode cX10_arm 133 = .ok (.istore_n 3, 1) := by decide +kernel
theorem dX10_arm_134 : decode cX10_arm 134 = .ok (.iload_n 3, 1) := by decide +kernel
theorem dX10_arm_135 : decode cX10_arm 135 = .ok (.bipush 6, 2) := by decide +kernel
theorem dX10_arm_137 : decode cX10_arm 137 = .ok (.if_icmp .ge 43, 3) := by decide +kernel
theorem dX10_arm_140 : decode cX10_arm 140 = .ok (.aload_n 0, 1) := by decide +kernel
theorem dX10_arm_141 : decode cX10_arm 141 = .ok (.getfield 35, 3) := by decide +kernel
theorem dX10_arm_144 : decode cX10_arm 144 = .ok (.bipush 6, 2) := by decide +kernel
theorem dX10_arm_146 : decode cX10_arm 146 = .ok (.iload_n 1, 1) := by decide +kernel
theorem dX10_arm_147 : decode cX10_arm 147 = .ok (.imul, 1) := by decide +kernel
theorem dX10_arm_148 : decode cX10_arm 148 = .ok (.iload_n 3, 1) := by decide +kernel
theorem dX10_arm_149 : decode cX10_arm 149 = .ok (.iadd, 1) := by decide +kernel
theorem dX10_arm_150 : decode cX10_arm 150 = .ok (.aload_n 0, 1) := by decide +kernel
theorem dX10_arm_151 : decode cX10_arm 151 = .ok (.getfield 111, 3) := by decide +kernel
theorem dX10_arm_154 : decode cX10_arm 154 = .ok (.iload_n 3, 1) := by decide +kernel
theorem dX10_arm_155 : decode cX10_arm 155 = .ok (.iaload, 1) := by decide +kernel
theorem dX10_arm_156 : decode cX10_arm 156 = .ok (.iastore, 1) := by decide +kernel
theorem dX10_arm_157 : decode cX10_arm 157 = .ok (.aload_n 0, 1) := by decide +kernel
theorem dX10_arm_158 : decode cX10_arm 158 = .ok (.getfield 38, 3) := by decide +kernel
theorem dX10_arm_161 : decode cX10_arm 161 = .ok (.bipush 6, 2) := by decide +kernel
theorem dX10_arm_163 : decode cX10_arm 163 = .ok (.iload_n 1, 1) := by decide +kernel
theorem dX10_arm_164 : decode cX10_arm 164 = .ok (.imul, 1) := by decide +kernel
theorem dX10_arm_165 : decode cX10_arm 165 = .ok (.iload_n 3, 1) := by decide +kernel
theorem dX10_arm_166 : decode cX10_arm 166 = .ok (.iadd, 1) := by decide +kernel
theorem dX10_arm_167 : decode cX10_arm 167 = .ok (.aload_n 0, 1) := by decide +kernel
theorem dX10_arm_168 : decode cX10_arm 168 = .ok (.getfield 114, 3) := by decide +kernel
theorem dX10_arm_171 : decode cX10_arm 171 = .ok (.iload_n 3, 1) := by decide +kernel
theorem dX10_arm_172 : decode cX10_arm 172 = .ok (.iaload, 1) := by decide +kernel
theorem dX10_arm_173 : decode cX10_arm 173 = .ok (.iastore, 1) := by decide +kernel
theorem dX10_arm_174 : decode cX10_arm 174 = .ok (.iinc 3 1, 3) := by decide +kernel
theorem dX10_arm_177 : decode cX10_arm 177 = .ok (.goto (-43), 3) := by decide +kernel
theorem dX10_arm_180 : decode cX10_arm 180 = .ok (.bipush (-5), 2) := by decide +kernel
theorem dX10_arm_182 : decode cX10_arm 182 = .ok (.ireturn, 1) := by decide +kernel
theorem dX10_arm_183 : decode cX10_arm 183 = .ok (.aload_n 0, 1) := by decide +kernel
theorem dX10_arm_184 : decode cX10_arm 184 = .ok (.iconst 0, 1) := by decide +kernel
theorem dX10_arm_185 : decode cX10_arm 185 = .ok (.putfield 171, 3) := by decide +kernel
theorem dX10_arm_188 : decode cX10_arm 188 = .ok (.aload_n 0, 1) := by decide +kernel
theorem dX10_arm_189 : decode cX10_arm 189 = .ok (.getfield 32, 3) := by decide +kernel
theorem dX10_arm_192 : decode cX10_arm 192 = .ok (.iload_n 1, 1) := by decide +kernel
theorem dX10_arm_193 : decode cX10_arm 193 = .ok (.iaload, 1) := by decide +kernel
theorem dX10_arm_194 : decode cX10_arm 194 = .ok (.ireturn, 1) := by decide +kernel
set_option maxRecDepth 20000 in
theorem ggX10_knot_X10_isDegree : GoodIn wsX10_knot wsX10_isDegree := goodIn_r _ [7, 8, 9, 6, 10] (by decide +kernel) (by decide +kernel)
set_option maxRecDepth 20000 in
theorem gX10_knot_X10_isDegree : GoodIn wsX10_knot (va_wsS RX10 141 yX10_isDegree wsX10_isDegree) := goodIn_app (goodIn_of _ (by decide +kernel)) ggX10_knot_X10_isDegree
set_option maxRecDepth 20000 in
theorem ggX10_knot_X10_in : GoodIn wsX10_knot wsX10_in := goodIn_r _ [10] (by decide +kernel) (by decide +kernel)
set_option maxRecDepth 20000 in
theorem gX10_knot_X10_in : GoodIn wsX10_knot (va_wsS RX10 117 yX10_in wsX10_in) := goodIn_app (goodIn_of _ (by decide +kernel)) ggX10_knot_X10_in
theorem dX10_knot_0 : decode cX10_knot 0 = .ok (.iload_n 1, 1) := by decide +kernel
theorem dX10_knot_1 : decode cX10_knot 1 = .ok (.invokestatic 141, 3) := by decide +kernel
theorem dX10_knot_4 : decode cX10_knot 4 = .ok (.ifCond .eq 36, 3) := by decide +kernel
theorem dX10_knot_7 : decode cX10_knot 7 = .ok (.iload_n 2, 1) := by decide +kernel
theorem dX10_knot_8 : decode cX10_knot 8 = .ok (.iconst 0, 1) := by decide +kernel
theorem dX10_knot_9 : decode cX10_knot 9 = .ok (.sipush 1000, 3) := by decide +kernel
theorem dX10_knot_12 : decode cX10_knot 12 = .ok (.invokestatic 117, 3) := by decide +kernel
theorem dX10_knot_15 : decode cX10_knot 15 = .ok (.ifCond .eq 25, 3) := by decide +kernel
theorem dX10_knot_18 : decode cX10_knot 18 = .ok (.aload_n 0, 1) := by decide +kernel
theorem dX10_knot_19 : decode cX10_knot 19 = .ok (.getfield 171, 3) := by decide +kernel
theorem dX10_knot_22 : decode cX10_knot 22 = .ok (.ifCond .le 20, 3) := by decide +kernel
theorem dX10_knot_25 : decode cX10_knot 25 = .ok (.iload_n 1, 1) := by decide +kernel
theorem dX10_knot_26 : decode cX10_knot 26 = .ok (.aload_n 0, 1) := by decide +kernel
theorem dX10_knot_27 : decode cX10_knot 27 = .ok (.getfield 41, 3) := by decide +kernel
theorem dX10_knot_30 : decode cX10_knot 30 = .ok (.aload_n 0, 1) := by decide +kernel
theorem dX10_knot_31 : decode cX10_knot 31 = .ok (.getfield 171, 3) := by decide +kernel
theorem dX10_knot_34 : decode cX10_knot 34 = .ok (.iconst 1, 1) := by decide +kernel
theorem dX10_knot_35 : decode cX10_knot 35 = .ok (.isub, 1) := by decide +kernel
theorem dX10_knot_36 : decode cX10_knot 36 = .ok (.iaload, 1) := by decide +kernel
theorem dX10_knot_37 : decode cX10_knot 37 = .ok (.if_icmp .gt 5, 3) := by decide +kernel
theorem dX10_knot_40 : decode cX10_knot 40 = .ok (.iconst (-1), 1) := by decide +kernel
theorem dX10_knot_41 : decode cX10_knot 41 = .ok (.ireturn, 1) := by decide +kernel
theorem dX10_knot_42 : decode cX10_knot 42 = .ok (.aload_n 0, 1) := by decide +kernel
theorem dX10_knot_43 : decode cX10_knot 43 = .ok (.getfield 171, 3) := by decide +kernel
theorem dX10_knot_46 : decode cX10_knot 46 = .ok (.bipush 6, 2) := by decide +kernel
theorem dX10_knot_48 : decode cX10_knot 48 = .ok (.if_icmp .ne 6, 3) := by decide +kernel
theorem dX10_knot_51 : decode cX10_knot 51 = .ok (.bipush (-2), 2) := by decide +kernel
theorem dX10_knot_53 : decode cX10_knot 53 = .ok (.ireturn, 1) := by decide +kernel
theorem dX10_knot_54 : decode cX10_knot 54 = .ok (.aload_n 0, 1) := by decide +kernel
theorem dX10_knot_55 : decode cX10_knot 55 = .ok (.getfield 41, 3) := by decide +kernel
theorem dX10_knot_58 : decode cX10_knot 58 = .ok (.aload_n 0, 1) := by decide +kernel
theorem dX10_knot_59 : decode cX10_knot 59 = .ok (.getfield 171, 3) := by decide +kernel
theorem dX10_knot_62 : decode cX10_knot 62 = .ok (.iload_n 1, 1) := by decide +kernel
theorem dX10_knot_63 : decode cX10_knot 63 = .ok (.iastore, 1) := by decide +kernel
theorem dX10_knot_64 : decode cX10_knot 64 = .ok (.aload_n 0, 1) := by decide +kernel
theorem dX10_knot_65 : decode cX10_knot 65 = .ok (.getfield 44, 3) := by decide +kernel
theorem dX10_knot_68 : decode cX10_knot 68 = .ok (.aload_n 0, 1) := by decide +kernel
theorem dX10_knot_69 : decode cX10_knot 69 = .ok (.getfield 171, 3) := by decide +kernel
theorem dX10_knot_72 : decode cX10_knot 72 = .ok (.iload_n 2, 1) := by decide +kernel
theorem dX10_knot_73 : decode cX10_knot 73 = .ok (.iastore, 1) := by decide +kernel
theorem dX10_knot_74 : decode cX10_knot 74 = .ok (.aload_n 0, 1) := by decide +kernel
theorem dX10_knot_75 : decode cX10_knot 75 = .ok (.dup, 1) := by decide +kernel
theorem dX10_knot_76 : decode cX10_knot 76 = .ok (.getfield 171, 3) := by decide +kernel
theorem dX10_knot_79 : decode cX10_knot 79 = .ok (.iconst 1, 1) := by decide +kernel
theorem dX10_knot_80 : decode cX10_knot 80 = .ok (.iadd, 1) := by decide +kernel
theorem dX10_knot_81 : decode cX10_knot 81 = .ok (.putfield 171, 3) := by decide +kernel
theorem dX10_knot_84 : decode cX10_knot 84 = .ok (.aload_n 0, 1) := by decide +kernel
theorem dX10_knot_85 : decode cX10_knot 85 = .ok (.getfield 171, 3) := by decide +kernel
theorem dX10_knot_88 : decode cX10_knot 88 = .ok (.ireturn, 1) := by decide +kernel
theorem dX10_forget_0 : decode cX10_forget 0 = .ok (.aload_n 0, 1) := by decide +kernel
theorem dX10_forget_1 : decode cX10_forget 1 = .ok (.getfield 171, 3) := by decide +kernel
theorem dX10_forget_4 : decode cX10_forget 4 = .ok (.istore_n 1, 1) := by decide +kernel
theorem dX10_forget_5 : decode cX10_forget 5 = .ok (.aload_n 0, 1) := by decide +kernel
theorem dX10_forget_6 : decode cX10_forget 6 = .ok (.iconst 0, 1) := by decide +kernel
theorem dX10_forget_7 : decode cX10_forget 7 = .ok (.putfield 171, 3) := by decide +kernel
theorem dX10_forget_10 : decode cX10_forget 10 = .ok (.iload_n 1, 1) := by decide +kernel
theorem dX10_forget_11 : decode cX10_forget 11 = .ok (.ireturn, 1) := by decide +kernel
theorem dX10_common_0 : decode cX10_common 0 = .ok (.iload_n 0, 1) := by decide +kernel
theorem dX10_common_1 : decode cX10_common 1 = .ok (.istore_n 2, 1) := by decide +kernel
theorem dX10_common_2 : decode cX10_common 2 = .ok (.iload_n 1, 1) := by decide +kernel
theorem dX10_common_3 : decode cX10_common 3 = .ok (.istore_n 3, 1) := by decide +kernel
theorem dX10_common_4 : decode cX10_common 4 = .ok (.iload_n 3, 1) := by decide +kernel
theorem dX10_common_5 : decode cX10_common 5 = .ok (.ifCond .eq 16, 3) := by decide +kernel
theorem dX10_common_8 : decode cX10_common 8 = .ok (.iload_n 2, 1) := by decide +kernel
theorem dX10_common_9 : decode cX10_common 9 = .ok (.iload_n 3, 1) := by decide +kernel
theorem dX10_common_10 : decode cX10_common 10 = .ok (.irem, 1) := by decide +kernel
theorem dX10_common_11 : decode cX10_common 11 = .ok (.istore 4, 2) := by decide +kernel
theorem dX10_common_13 : decode cX10_common 13 = .ok (.iload_n 3, 1) := by decide +kernel
theorem dX10_common_14 : decode cX10_common 14 = .ok (.istore_n 2, 1) := by decide +kernel
theorem dX10_common_15 : decode cX10_common 15 = .ok (.iload 4, 2) := by decide +kernel
theorem dX10_common_17 : decode cX10_common 17 = .ok (.istore_n 3, 1) := by decide +kernel
theorem dX10_common_18 : decode cX10_common 18 = .ok (.goto (-14), 3) := by decide +kernel
theorem dX10_common_21 : decode cX10_common 21 = .ok (.iload_n 2, 1) := by decide +kernel
theorem dX10_common_22 : decode cX10_common 22 = .ok (.ireturn, 1) := by decide +kernel
set_option maxRecDepth 20000 in
theorem ggX10_place_X10_isArm : GoodIn wsX10_place wsX10_isArm := goodIn_r _ [6, 7, 8, 5, 9] (by decide +kernel) (by decide +kernel)
set_option maxRecDepth 20000 in
theorem gX10_place_X10_isArm : GoodIn wsX10_place (va_wsS RX10 168 yX10_isArm wsX10_isArm) := goodIn_app (goodIn_of _ (by decide +kernel)) ggX10_place_X10_isArm
set_option maxRecDepth 20000 in
theorem ggX10_place_X10_isDegree : GoodIn wsX10_place wsX10_isDegree := goodIn_r _ [12, 7, 8, 5, 9] (by decide +kernel) (by decide +kernel)
set_option maxRecDepth 20000 in
theorem gX10_place_X10_isDegree : GoodIn wsX10_place (va_wsS RX10 141 yX10_isDegree wsX10_isDegree) := goodIn_app (goodIn_of _ (by decide +kernel)) ggX10_place_X10_isDegree
set_option maxRecDepth 20000 in
theorem ggX10_place_X10_in : GoodIn wsX10_place wsX10_in := goodIn_r _ [9] (by decide +kernel) (by decide +kernel)
set_option maxRecDepth 20000 in
theorem gX10_place_X10_in : GoodIn wsX10_place (va_wsS RX10 117 yX10_in wsX10_in) := goodIn_app (goodIn_of _ (by decide +kernel)) ggX10_place_X10_in
set_option maxRecDepth 20000 in
theorem ggX10_place_X10_find : GoodIn wsX10_place wsX10_find := goodIn_r _ [16, 17, 18, 19, 1, 2, 23, 24, 25, 26, 27, 28, 29, 30, 31, 32, 33, 34, 35, 36, 37, 38, 39, 40, 41, 42, 43, 44, 45, 46, 47, 48, 49, 50, 51, 52, 53, 54, 55, 56, 57, 58, 59, 60, 61, 62, 63, 64, 65, 66, 67] (by decide +kernel) (by decide +kernel)
set_option maxRecDepth 20000 in
theorem gX10_place_X10_find : GoodIn wsX10_place (wsV RX10 162 RX10 yX10_find wsX10_find) := goodIn_app (goodIn_of _ (by decide +kernel)) ggX10_place_X10_find
set_option maxRecDepth 20000 in
theorem ggX10_place_X10_common : GoodIn wsX10_place wsX10_common := goodIn_r _ [22] (by decide +kernel) (by decide +kernel)
set_option maxRecDepth 20000 in
theorem gX10_place_X10_common : GoodIn wsX10_place (va_wsS RX10 178 yX10_common wsX10_common) := goodIn_app (goodIn_of _ (by decide +kernel)) ggX10_place_X10_common
theorem dX10_place_0 : decode cX10_place 0 = .ok (.iload_n 1, 1) := by decide +kernel
theorem dX10_place_1 : decode cX10_place 1 = .ok (.invokestatic 168, 3) := by decide +kernel
theorem dX10_place_4 : decode cX10_place 4 = .ok (.ifCond .eq 19, 3) := by decide +kernel
theorem dX10_place_7 : decode cX10_place 7 = .ok (.iload_n 2, 1) := by decide +kernel
theorem dX10_place_8 : decode cX10_place 8 = .ok (.invokestatic 141, 3) := by decide +kernel
theorem dX10_place_11 : decode cX10_place 11 = .ok (.ifCond .eq 12, 3) := by decide +kernel
theorem dX10_place_14 : decode cX10_place 14 = .ok (.iload_n 3, 1) := by decide +kernel
theorem dX10_place_15 : decode cX10_place 15 = .ok (.iconst 0, 1) := by decide +kernel
theorem dX10_place_16 : decode cX10_place 16 = .ok (.iconst 1, 1) := by decide +kernel
theorem dX10_place_17 : decode cX10_place 17 = .ok (.invokestatic 117, 3) := by decide +kernel
theorem dX10_place_20 : decode cX10_place 20 = .ok (.ifCond .ne 5, 3) := by decide +kernel
theorem dX10_place_23 : decode cX10_place 23 = .ok (.iconst (-1), 1) := by decide +kernel
theorem dX10_place_24 : decode cX10_place 24 = .ok (.ireturn, 1) := by decide +kernel
theorem dX10_place_25 : decode cX10_place 25 = .ok (.aload_n 0, 1) := by decide +kernel
theorem dX10_place_26 : decode cX10_place 26 = .ok (.iload_n 1, 1) := by decide +kernel
theorem dX10_place_27 : decode cX10_place 27 = .ok (.iload_n 2, 1) := by decide +kernel
theorem dX10_place_28 : decode cX10_place 28 = .ok (.invokevirtual 162, 3) := by decide +kernel
theorem dX10_place_31 : decode cX10_place 31 = .ok (.aload_n 0, 1) := by decide +kernel
theorem dX10_place_32 : decode cX10_place 32 = .ok (.getfield 156, 3) := by decide +kernel
theorem dX10_place_35 : decode cX10_place 35 = .ok (.aload_n 0, 1) := by decide +kernel
theorem dX10_place_36 : decode cX10_place 36 = .ok (.getfield 159, 3) := by decide +kernel
theorem dX10_place_39 : decode cX10_place 39 = .ok (.invokestatic 178, 3) := by decide +kernel
theorem dX10_place_42 : decode cX10_place 42 = .ok (.istore 4, 2) := by decide +kernel
theorem dX10_place_44 : decode cX10_place 44 = .ok (.iload_n 3, 1) := by decide +kernel
theorem dX10_place_45 : decode cX10_place 45 = .ok (.ifCond .ne 10, 3) := by decide +kernel
theorem dX10_place_48 : decode cX10_place 48 = .ok (.aload_n 0, 1) := by decide +kernel
theorem dX10_place_49 : decode cX10_place 49 = .ok (.getfield 156, 3) := by decide +kernel
theorem dX10_place_52 : decode cX10_place 52 = .ok (.goto 7, 3) := by decide +kernel
theorem dX10_place_55 : decode cX10_place 55 = .ok (.aload_n 0, 1) := by decide +kernel
theorem dX10_place_56 : decode cX10_place 56 = .ok (.getfield 159, 3) := by decide +kernel
theorem dX10_place_59 : decode cX10_place 59 = .ok (.iload 4, 2) := by decide +kernel
theorem dX10_place_61 : decode cX10_place 61 = .ok (.idiv, 1) := by decide +kernel
theorem dX10_place_62 : decode cX10_place 62 = .ok (.ireturn, 1) := by decide +kernel
set_option maxRecDepth 20000 in
theorem ggX10_nearest_X10_isArm : GoodIn wsX10_nearest wsX10_isArm := goodIn_r _ [6, 7, 8, 5, 9] (by decide +kernel) (by decide +kernel)
set_option maxRecDepth 20000 in
theorem gX10_nearest_X10_isArm : GoodIn wsX10_nearest (va_wsS RX10 168 yX10_isArm wsX10_isArm) := goodIn_app (goodIn_of _ (by decide +kernel)) ggX10_nearest_X10_isArm
set_option maxRecDepth 20000 in
theorem ggX10_nearest_X10_find : GoodIn wsX10_nearest wsX10_find := goodIn_r _ [13, 14, 15, 16, 1, 2, 17, 18, 19, 20, 21, 22, 23, 24, 25, 26, 27, 28, 29, 30, 31, 32, 33, 34, 35, 36, 37, 38, 39, 40, 41, 42, 43, 44, 45, 46, 47, 48, 49, 50, 51, 52, 53, 54, 55, 56, 57, 58, 59, 60, 61] (by decide +kernel) (by decide +kernel)
set_option maxRecDepth 20000 in
theorem gX10_nearest_X10_find : GoodIn wsX10_nearest (wsV RX10 162 RX10 yX10_find wsX10_find) := goodIn_app (goodIn_of _ (by decide +kernel)) ggX10_nearest_X10_find
theorem dX10_nearest_0 : decode cX10_nearest 0 = .ok (.iload_n 1, 1) := by decide +kernel
theorem dX10_nearest_1 : decode cX10_nearest 1 = .ok (.invokestatic 168, 3) := by decide +kernel
theorem dX10_nearest_4 : decode cX10_nearest 4 = .ok (.ifCond .eq 15, 3) := by decide +kernel
theorem dX10_nearest_7 : decode cX10_nearest 7 = .ok (.iload_n 2, 1) := by decide +kernel
theorem dX10_nearest_8 : decode cX10_nearest 8 = .ok (.invokestatic 168, 3) := by decide +kernel
theorem dX10_nearest_11 : decode cX10_nearest 11 = .ok (.ifCond .eq 8, 3) := by decide +kernel
theorem dX10_nearest_14 : decode cX10_nearest 14 = .ok (.iload_n 1, 1) := by decide +kernel
theorem dX10_nearest_15 : decode cX10_nearest 15 = .ok (.iload_n 2, 1) := by decide +kernel
theorem dX10_nearest_16 : decode cX10_nearest 16 = .ok (.if_icmp .lt 5, 3) := by decide +kernel
theorem dX10_nearest_19 : decode cX10_nearest 19 = .ok (.iconst (-1), 1) := by decide +kernel
theorem dX10_nearest_20 : decode cX10_nearest 20 = .ok (.ireturn, 1) := by decide +kernel
theorem dX10_nearest_21 : decode cX10_nearest 21 = .ok (.iconst (-1), 1) := by decide +kernel
theorem dX10_nearest_22 : decode cX10_nearest 22 = .ok (.istore_n 3, 1) := by decide +kernel
theorem dX10_nearest_23 : decode cX10_nearest 23 = .ok (.lconst 0, 1) := by decide +kernel
theorem dX10_nearest_24 : decode cX10_nearest 24 = .ok (.lstore 4, 2) := by decide +kernel
theorem dX10_nearest_26 : decode cX10_nearest 26 = .ok (.lconst 1, 1) := by decide +kernel
theorem dX10_nearest_27 : decode cX10_nearest 27 = .ok (.lstore 6, 2) := by decide +kernel
theorem dX10_nearest_29 : decode cX10_nearest 29 = .ok (.iconst 0, 1) := by decide +kernel
theorem dX10_nearest_30 : decode cX10_nearest 30 = .ok (.istore 8, 2) := by decide +kernel
theorem dX10_nearest_32 : decode cX10_nearest 32 = .ok (.iload 8, 2) := by decide +kernel
theorem dX10_nearest_34 : decode cX10_nearest 34 = .ok (.sipush 360, 3) := by decide +kernel
theorem dX10_nearest_37 : decode cX10_nearest 37 = .ok (.if_icmp .ge 95, 3) := by decide +kernel
theorem dX10_nearest_40 : decode cX10_nearest 40 = .ok (.aload_n 0, 1) := by decide +kernel
theorem dX10_nearest_41 : decode cX10_nearest 41 = .ok (.iload_n 1, 1) := by decide +kernel
theorem dX10_nearest_42 : decode cX10_nearest 42 = .ok (.iload 8, 2) := by decide +kernel
theorem dX10_nearest_44 : decode cX10_nearest 44 = .ok (.invokevirtual 162, 3) := by decide +kernel
theorem dX10_nearest_47 : decode cX10_nearest 47 = .ok (.aload_n 0, 1) := by decide +kernel
theorem dX10_nearest_48 : decode cX10_nearest 48 = .ok (.getfield 156, 3) := by decide +kernel
theorem dX10_nearest_51 : decode cX10_nearest 51 = .ok (.i2l, 1) := by decide +kernel
theorem dX10_nearest_52 : decode cX10_nearest 52 = .ok (.lstore 9, 2) := by decide +kernel
theorem dX10_nearest_54 : decode cX10_nearest 54 = .ok (.aload_n 0, 1) := by decide +kernel
theorem dX10_nearest_55 : decode cX10_nearest 55 = .ok (.getfield 159, 3) := by decide +kernel
theorem dX10_nearest_58 : decode cX10_nearest 58 = .ok (.i2l, 1) := by decide +kernel
theorem dX10_nearest_59 : decode cX10_nearest 59 = .ok (.lstore 11, 2) := by decide +kernel
theorem dX10_nearest_61 : decode cX10_nearest 61 = .ok (.aload_n 0, 1) := by decide +kernel
theorem dX10_nearest_62 : decode cX10_nearest 62 = .ok (.iload_n 2, 1) := by decide +kernel
theorem dX10_nearest_63 : decode cX10_nearest 63 = .ok (.iload 8, 2) := by decide +kernel
theorem dX10_nearest_65 : decode cX10_nearest 65 = .ok (.invokevirtual 162, 3) := by decide +kernel
theorem dX10_nearest_68 : decode cX10_nearest 68 = .ok (.aload_n 0, 1) := by decide +kernel
theorem dX10_nearest_69 : decode cX10_nearest 69 = .ok (.getfield 156, 3) := by decide +kernel
theorem dX10_nearest_72 : decode cX10_nearest 72 = .ok (.i2l, 1) := by decide +kernel
theorem dX10_nearest_73 : decode cX10_nearest 73 = .ok (.lload 11, 2) := by decide +kernel
theorem dX10_nearest_75 : decode cX10_nearest 75 = .ok (.lmul, 1) := by decide +kernel
theorem dX10_nearest_76 : decode cX10_nearest 76 = .ok (.lload 9, 2) := by decide +kernel
theorem dX10_nearest_78 : decode cX10_nearest 78 = .ok (.aload_n 0, 1) := by decide +kernel
theorem dX10_nearest_79 : decode cX10_nearest 79 = .ok (.getfield 159, 3) := by decide +kernel
theorem dX10_nearest_82 : decode cX10_nearest 82 = .ok (.i2l, 1) := by decide +kernel
theorem dX10_nearest_83 : decode cX10_nearest 83 = .ok (.lmul, 1) := by decide +kernel
theorem dX10_nearest_84 : decode cX10_nearest 84 = .ok (.lsub, 1) := by decide +kernel
theorem dX10_nearest_85 : decode cX10_nearest 85 = .ok (.lstore 13, 2) := by decide +kernel
theorem dX10_nearest_87 : decode cX10_nearest 87 = .ok (.lload 11, 2) := by decide +kernel
theorem dX10_nearest_89 : decode cX10_nearest 89 = .ok (.aload_n 0, 1) := by decide +kernel
theorem dX10_nearest_90 : decode cX10_nearest 90 = .ok (.getfield 159, 3) := by decide +kernel
theorem dX10_nearest_93 : decode cX10_nearest 93 = .ok (.i2l, 1) := by decide +kernel
theorem dX10_nearest_94 : decode cX10_nearest 94 = .ok (.lmul, 1) := by decide +kernel
theorem dX10_nearest_95 : decode cX10_nearest 95 = .ok (.lstore 15, 2) := by decide +kernel
theorem dX10_nearest_97 : decode cX10_nearest 97 = .ok (.iload_n 3, 1) := by decide +kernel
theorem dX10_nearest_98 : decode cX10_nearest 98 = .ok (.ifCond .lt 17, 3) := by decide +kernel
theorem dX10_nearest_101 : decode cX10_nearest 101 = .ok (.lload 13, 2) := by decide +kernel
theorem dX10_nearest_103 : decode cX10_nearest 103 = .ok (.lload 6, 2) := by decide +kernel
theorem dX10_nearest_105 : decode cX10_nearest 105 = .ok (.lmul, 1) := by decide +kernel
theorem dX10_nearest_106 : decode cX10_nearest 106 = .ok (.lload 4, 2) := by decide +kernel
theorem dX10_nearest_108 : decode cX10_nearest 108 = .ok (.lload 15, 2) := by decide +kernel
theorem dX10_nearest_110 : decode cX10_nearest 110 = .ok (.lmul, 1) := by decide +kernel
theorem dX10_nearest_111 : decode cX10_nearest 111 = .ok (.lcmp, 1) := by decide +kernel
theorem dX10_nearest_112 : decode cX10_nearest 112 = .ok (.ifCond .ge 14, 3) := by decide +kernel
theorem dX10_nearest_115 : decode cX10_nearest 115 = .ok (.iload 8, 2) := by decide +kernel
theorem dX10_nearest_117 : decode cX10_nearest 117 = .ok (.istore_n 3, 1) := by decide +kernel
theorem dX10_nearest_118 : decode cX10_nearest 118 = .ok (.lload 13, 2) := by decide +kernel
theorem dX10_nearest_120 : decode cX10_nearest 120 = .ok (.lstore 4, 2) := by decide +kernel
theorem dX10_nearest_122 : decode cX10_nearest 122 = .ok (.lload 15, 2) := by decide +kernel
theorem dX10_nearest_124 : decode cX10_nearest 124 = .ok (.lstore 6, 2) := by decide +kernel
theorem dX10_nearest_126 : decode cX10_nearest 126 = .ok (.iinc 8 1, 3) := by decide +kernel
theorem dX10_nearest_129 : decode cX10_nearest 129 = .ok (.goto (-97), 3) := by decide +kernel
theorem dX10_nearest_132 : decode cX10_nearest 132 = .ok (.iload_n 3, 1) := by decide +kernel
theorem dX10_nearest_133 : decode cX10_nearest 133 = .ok (.ireturn, 1) := by decide +kernel
theorem dX10_placeInOrder_0 : decode cX10_placeInOrder 0 = .ok (.iconst 0, 1) := by decide +kernel
theorem dX10_placeInOrder_1 : decode cX10_placeInOrder 1 = .ok (.istore_n 2, 1) := by decide +kernel
theorem dX10_placeInOrder_2 : decode cX10_placeInOrder 2 = .ok (.iload_n 2, 1) := by decide +kernel
theorem dX10_placeInOrder_3 : decode cX10_placeInOrder 3 = .ok (.aload_n 0, 1) := by decide +kernel
theorem dX10_placeInOrder_4 : decode cX10_placeInOrder 4 = .ok (.getfield 47, 3) := by decide +kernel
theorem dX10_placeInOrder_7 : decode cX10_placeInOrder 7 = .ok (.if_icmp .ge 21, 3) := by decide +kernel
theorem dX10_placeInOrder_10 : decode cX10_placeInOrder 10 = .ok (.aload_n 0, 1) := by decide +kernel
theorem dX10_placeInOrder_11 : decode cX10_placeInOrder 11 = .ok (.getfield 50, 3) := by decide +kernel
theorem dX10_placeInOrder_14 : decode cX10_placeInOrder 14 = .ok (.iload_n 2, 1) := by decide +kernel
theorem dX10_placeInOrder_15 : decode cX10_placeInOrder 15 = .ok (.iaload, 1) := by decide +kernel
theorem dX10_placeInOrder_16 : decode cX10_placeInOrder 16 = .ok (.iload_n 1, 1) := by decide +kernel
theorem dX10_placeInOrder_17 : decode cX10_placeInOrder 17 = .ok (.if_icmp .ne 5, 3) := by decide +kernel
theorem dX10_placeInOrder_20 : decode cX10_placeInOrder 20 = .ok (.iload_n 2, 1) := by decide +kernel
theorem dX10_placeInOrder_21 : decode cX10_placeInOrder 21 = .ok (.ireturn, 1) := by decide +kernel
theorem dX10_placeInOrder_22 : decode cX10_placeInOrder 22 = .ok (.iinc 2 1, 3) := by decide +kernel
theorem dX10_placeInOrder_25 : decode cX10_placeInOrder 25 = .ok (.goto (-23), 3) := by decide +kernel
theorem dX10_placeInOrder_28 : decode cX10_placeInOrder 28 = .ok (.iconst (-1), 1) := by decide +kernel
theorem dX10_placeInOrder_29 : decode cX10_placeInOrder 29 = .ok (.ireturn, 1) := by decide +kernel
set_option maxRecDepth 20000 in
theorem ggX10_stop_X10_isSection : GoodIn wsX10_stop wsX10_isSection := goodIn_r _ [7, 8, 9, 6, 10] (by decide +kernel) (by decide +kernel)
set_option maxRecDepth 20000 in
theorem gX10_stop_X10_isSection : GoodIn wsX10_stop (va_wsS RX10 134 yX10_isSection wsX10_isSection) := goodIn_app (goodIn_of _ (by decide +kernel)) ggX10_stop_X10_isSection
set_option maxRecDepth 20000 in
theorem ggX10_stop_X10_placeInOrder : GoodIn wsX10_stop wsX10_placeInOrder := goodIn_r _ [14, 1, 2, 15, 16, 17, 18, 19, 20, 21, 22, 23, 24, 25, 26, 27, 28, 29, 30, 31, 32, 33, 34, 35, 36, 37, 38, 39, 40, 41, 42, 43, 44, 45, 46, 47, 48, 49, 50, 51, 52, 53, 54, 55, 56, 57, 58, 59] (by decide +kernel) (by decide +kernel)
set_option maxRecDepth 20000 in
theorem gX10_stop_X10_placeInOrder : GoodIn wsX10_stop (wsV RX10 181 RX10 yX10_placeInOrder wsX10_placeInOrder) := goodIn_app (goodIn_of _ (by decide +kernel)) ggX10_stop_X10_placeInOrder
theorem dX10_stop_0 : decode cX10_stop 0 = .ok (.iload_n 1, 1) := by decide +kernel
theorem dX10_stop_1 : decode cX10_stop 1 = .ok (.invokestatic 134, 3) := by decide +kernel
theorem dX10_stop_4 : decode cX10_stop 4 = .ok (.ifCond .ne 5, 3) := by decide +kernel
theorem dX10_stop_7 : decode cX10_stop 7 = .ok (.iconst (-1), 1) := by decide +kernel
theorem dX10_stop_8 : decode cX10_stop 8 = .ok (.ireturn, 1) := by decide +kernel
theorem dX10_stop_9 : decode cX10_stop 9 = .ok (.aload_n 0, 1) := by decide +kernel
theorem dX10_stop_10 : decode cX10_stop 10 = .ok (.iload_n 1, 1) := by decide +kernel
theorem dX10_stop_11 : decode cX10_stop 11 = .ok (.invokevirtual 181, 3) := by decide +kernel
theorem dX10_stop_14 : decode cX10_stop 14 = .ok (.istore_n 2, 1) := by decide +kernel
theorem dX10_stop_15 : decode cX10_stop 15 = .ok (.iload_n 2, 1) := by decide +kernel
theorem dX10_stop_16 : decode cX10_stop 16 = .ok (.ifCond .ge 6, 3) := by decide +kernel
theorem dX10_stop_19 : decode cX10_stop 19 = .ok (.bipush (-3), 2) := by decide +kernel
theorem dX10_stop_21 : decode cX10_stop 21 = .ok (.ireturn, 1) := by decide +kernel
theorem dX10_stop_22 : decode cX10_stop 22 = .ok (.aload_n 0, 1) := by decide +kernel
theorem dX10_stop_23 : decode cX10_stop 23 = .ok (.dup, 1) := by decide +kernel
theorem dX10_stop_24 : decode cX10_stop 24 = .ok (.getfield 47, 3) := by decide +kernel
theorem dX10_stop_27 : decode cX10_stop 27 = .ok (.iconst 1, 1) := by decide +kernel
theorem dX10_stop_28 : decode cX10_stop 28 = .ok (.isub, 1) := by decide +kernel
theorem dX10_stop_29 : decode cX10_stop 29 = .ok (.putfield 47, 3) := by decide +kernel
theorem dX10_stop_32 : decode cX10_stop 32 = .ok (.iload_n 2, 1) := by decide +kernel
theorem dX10_stop_33 : decode cX10_stop 33 = .ok (.istore_n 3, 1) := by decide +kernel
theorem dX10_stop_34 : decode cX10_stop 34 = .ok (.iload_n 3, 1) := by decide +kernel
theorem dX10_stop_35 : decode cX10_stop 35 = .ok (.aload_n 0, 1) := by decide +kernel
theorem dX10_stop_36 : decode cX10_stop 36 = .ok (.getfield 47, 3) := by decide +kernel
theorem dX10_stop_39 : decode cX10_stop 39 = .ok (.if_icmp .ge 23, 3) := by decide +kernel
theorem dX10_stop_42 : decode cX10_stop 42 = .ok (.aload_n 0, 1) := by decide +kernel
theorem dX10_stop_43 : decode cX10_stop 43 = .ok (.getfield 50, 3) := by decide +kernel
theorem dX10_stop_46 : decode cX10_stop 46 = .ok (.iload_n 3, 1) := by decide +kernel
theorem dX10_stop_47 : decode cX10_stop 47 = .ok (.aload_n 0, 1) := by decide +kernel
theorem dX10_stop_48 : decode cX10_stop 48 = .ok (.getfield 50, 3) := by decide +kernel
theorem dX10_stop_51 : decode cX10_stop 51 = .ok (.iload_n 3, 1) := by decide +kernel
theorem dX10_stop_52 : decode cX10_stop 52 = .ok (.iconst 1, 1) := by decide +kernel
theorem dX10_stop_53 : decode cX10_stop 53 = .ok (.iadd, 1) := by decide +kernel
theorem dX10_stop_54 : decode cX10_stop 54 = .ok (.iaload, 1) := by decide +kernel
theorem dX10_stop_55 : decode cX10_stop 55 = .ok (.iastore, 1) := by decide +kernel
theorem dX10_stop_56 : decode cX10_stop 56 = .ok (.iinc 3 1, 3) := by decide +kernel
theorem dX10_stop_59 : decode cX10_stop 59 = .ok (.goto (-25), 3) := by decide +kernel
theorem dX10_stop_62 : decode cX10_stop 62 = .ok (.aload_n 0, 1) := by decide +kernel
theorem dX10_stop_63 : decode cX10_stop 63 = .ok (.iload_n 2, 1) := by decide +kernel
theorem dX10_stop_64 : decode cX10_stop 64 = .ok (.aload_n 0, 1) := by decide +kernel
theorem dX10_stop_65 : decode cX10_stop 65 = .ok (.getfield 184, 3) := by decide +kernel
theorem dX10_stop_68 : decode cX10_stop 68 = .ok (.if_icmp .ge 12, 3) := by decide +kernel
theorem dX10_stop_71 : decode cX10_stop 71 = .ok (.aload_n 0, 1) := by decide +kernel
theorem dX10_stop_72 : decode cX10_stop 72 = .ok (.getfield 184, 3) := by decide +kernel
theorem dX10_stop_75 : decode cX10_stop 75 = .ok (.iconst 1, 1) := by decide +kernel
theorem dX10_stop_76 : decode cX10_stop 76 = .ok (.isub, 1) := by decide +kernel
theorem dX10_stop_77 : decode cX10_stop 77 = .ok (.goto 7, 3) := by decide +kernel
theorem dX10_stop_80 : decode cX10_stop 80 = .ok (.aload_n 0, 1) := by decide +kernel
theorem dX10_stop_81 : decode cX10_stop 81 = .ok (.getfield 184, 3) := by decide +kernel
theorem dX10_stop_84 : decode cX10_stop 84 = .ok (.putfield 184, 3) := by decide +kernel
theorem dX10_stop_87 : decode cX10_stop 87 = .ok (.aload_n 0, 1) := by decide +kernel
theorem dX10_stop_88 : decode cX10_stop 88 = .ok (.aload_n 0, 1) := by decide +kernel
theorem dX10_stop_89 : decode cX10_stop 89 = .ok (.getfield 184, 3) := by decide +kernel
theorem dX10_stop_92 : decode cX10_stop 92 = .ok (.aload_n 0, 1) := by decide +kernel
theorem dX10_stop_93 : decode cX10_stop 93 = .ok (.getfield 47, 3) := by decide +kernel
theorem dX10_stop_96 : decode cX10_stop 96 = .ok (.if_icmp .lt 7, 3) := by decide +kernel
theorem dX10_stop_99 : decode cX10_stop 99 = .ok (.iconst 0, 1) := by decide +kernel
theorem dX10_stop_100 : decode cX10_stop 100 = .ok (.goto 7, 3) := by decide +kernel
theorem dX10_stop_103 : decode cX10_stop 103 = .ok (.aload_n 0, 1) := by decide +kernel
theorem dX10_stop_104 : decode cX10_stop 104 = .ok (.getfield 184, 3) := by decide +kernel
theorem dX10_stop_107 : decode cX10_stop 107 = .ok (.putfield 184, 3) := by decide +kernel
theorem dX10_stop_110 : decode cX10_stop 110 = .ok (.aload_n 0, 1) := by decide +kernel
theorem dX10_stop_111 : decode cX10_stop 111 = .ok (.getfield 47, 3) := by decide +kernel
theorem dX10_stop_114 : decode cX10_stop 114 = .ok (.ireturn, 1) := by decide +kernel
set_option maxRecDepth 20000 in
theorem ggX10_start_X10_isSection : GoodIn wsX10_start wsX10_isSection := goodIn_r _ [6, 7, 8, 5, 9] (by decide +kernel) (by decide +kernel)
set_option maxRecDepth 20000 in
theorem gX10_start_X10_isSection : GoodIn wsX10_start (va_wsS RX10 134 yX10_isSection wsX10_isSection) := goodIn_app (goodIn_of _ (by decide +kernel)) ggX10_start_X10_isSection
set_option maxRecDepth 20000 in
theorem ggX10_start_X10_placeInOrder : GoodIn wsX10_start wsX10_placeInOrder := goodIn_r _ [13, 2, 1, 14, 15, 16, 17, 18, 19, 20, 21, 22, 23, 24, 25, 26, 27, 28, 29, 30, 31, 32, 33, 34, 35, 36, 37, 38, 39, 40, 41, 42, 43, 44, 45, 46, 47, 48, 49, 50, 51, 52, 53, 54, 55, 56, 57, 58] (by decide +kernel) (by decide +kernel)
set_option maxRecDepth 20000 in
theorem gX10_start_X10_placeInOrder : GoodIn wsX10_start (wsV RX10 181 RX10 yX10_placeInOrder wsX10_placeInOrder) := goodIn_app (goodIn_of _ (by decide +kernel)) ggX10_start_X10_placeInOrder
theorem dX10_start_0 : decode cX10_start 0 = .ok (.iload_n 1, 1) := by decide +kernel
theorem dX10_start_1 : decode cX10_start 1 = .ok (.invokestatic 134, 3) := by decide +kernel
theorem dX10_start_4 : decode cX10_start 4 = .ok (.ifCond .ne 5, 3) := by decide +kernel
theorem dX10_start_7 : decode cX10_start 7 = .ok (.iconst (-1), 1) := by decide +kernel
theorem dX10_start_8 : decode cX10_start 8 = .ok (.ireturn, 1) := by decide +kernel
theorem dX10_start_9 : decode cX10_start 9 = .ok (.aload_n 0, 1) := by decide +kernel
theorem dX10_start_10 : decode cX10_start 10 = .ok (.iload_n 1, 1) := by decide +kernel
theorem dX10_start_11 : decode cX10_start 11 = .ok (.invokevirtual 181, 3) := by decide +kernel
theorem dX10_start_14 : decode cX10_start 14 = .ok (.ifCond .lt 6, 3) := by decide +kernel
theorem dX10_start_17 : decode cX10_start 17 = .ok (.bipush (-3), 2) := by decide +kernel
theorem dX10_start_19 : decode cX10_start 19 = .ok (.ireturn, 1) := by decide +kernel
theorem dX10_start_20 : decode cX10_start 20 = .ok (.aload_n 0, 1) := by decide +kernel
theorem dX10_start_21 : decode cX10_start 21 = .ok (.getfield 50, 3) := by decide +kernel
theorem dX10_start_24 : decode cX10_start 24 = .ok (.aload_n 0, 1) := by decide +kernel
theorem dX10_start_25 : decode cX10_start 25 = .ok (.getfield 47, 3) := by decide +kernel
theorem dX10_start_28 : decode cX10_start 28 = .ok (.iload_n 1, 1) := by decide +kernel
theorem dX10_start_29 : decode cX10_start 29 = .ok (.iastore, 1) := by decide +kernel
theorem dX10_start_30 : decode cX10_start 30 = .ok (.aload_n 0, 1) := by decide +kernel
theorem dX10_start_31 : decode cX10_start 31 = .ok (.dup, 1) := by decide +kernel
theorem dX10_start_32 : decode cX10_start 32 = .ok (.getfield 47, 3) := by decide +kernel
theorem dX10_start_35 : decode cX10_start 35 = .ok (.iconst 1, 1) := by decide +kernel
theorem dX10_start_36 : decode cX10_start 36 = .ok (.iadd, 1) := by decide +kernel
theorem dX10_start_37 : decode cX10_start 37 = .ok (.putfield 47, 3) := by decide +kernel
theorem dX10_start_40 : decode cX10_start 40 = .ok (.aload_n 0, 1) := by decide +kernel
theorem dX10_start_41 : decode cX10_start 41 = .ok (.getfield 47, 3) := by decide +kernel
theorem dX10_start_44 : decode cX10_start 44 = .ok (.ireturn, 1) := by decide +kernel
set_option maxRecDepth 20000 in
theorem ggX10_job_X10_isSection : GoodIn wsX10_job wsX10_isSection := goodIn_r _ [5, 6, 7, 4, 8] (by decide +kernel) (by decide +kernel)
set_option maxRecDepth 20000 in
theorem gX10_job_X10_isSection : GoodIn wsX10_job (va_wsS RX10 134 yX10_isSection wsX10_isSection) := goodIn_app (goodIn_of _ (by decide +kernel)) ggX10_job_X10_isSection
set_option maxRecDepth 20000 in
theorem ggX10_job_X10_isJob : GoodIn wsX10_job wsX10_isJob := goodIn_r _ [11, 6, 7, 4, 8] (by decide +kernel) (by decide +kernel)
set_option maxRecDepth 20000 in
theorem gX10_job_X10_isJob : GoodIn wsX10_job (va_wsS RX10 187 yX10_isJob wsX10_isJob) := goodIn_app (goodIn_of _ (by decide +kernel)) ggX10_job_X10_isJob
theorem dX10_job_0 : decode cX10_job 0 = .ok (.iload_n 1, 1) := by decide +kernel
theorem dX10_job_1 : decode cX10_job 1 = .ok (.invokestatic 134, 3) := by decide +kernel
theorem dX10_job_4 : decode cX10_job 4 = .ok (.ifCond .eq 10, 3) := by decide +kernel
theorem dX10_job_7 : decode cX10_job 7 = .ok (.iload_n 2, 1) := by decide +kernel
theorem dX10_job_8 : decode cX10_job 8 = .ok (.invokestatic 187, 3) := by decide +kernel
theorem dX10_job_11 : decode cX10_job 11 = .ok (.ifCond .ne 5, 3) := by decide +kernel
theorem dX10_job_14 : decode cX10_job 14 = .ok (.iconst (-1), 1) := by decide +kernel
theorem dX10_job_15 : decode cX10_job 15 = .ok (.ireturn, 1) := by decide +kernel
theorem dX10_job_16 : decode cX10_job 16 = .ok (.aload_n 0, 1) := by decide +kernel
theorem dX10_job_17 : decode cX10_job 17 = .ok (.getfield 53, 3) := by decide +kernel
theorem dX10_job_20 : decode cX10_job 20 = .ok (.iload_n 1, 1) := by decide +kernel
theorem dX10_job_21 : decode cX10_job 21 = .ok (.iaload, 1) := by decide +kernel
theorem dX10_job_22 : decode cX10_job 22 = .ok (.istore_n 3, 1) := by decide +kernel
theorem dX10_job_23 : decode cX10_job 23 = .ok (.aload_n 0, 1) := by decide +kernel
theorem dX10_job_24 : decode cX10_job 24 = .ok (.getfield 53, 3) := by decide +kernel
theorem dX10_job_27 : decode cX10_job 27 = .ok (.iload_n 1, 1) := by decide +kernel
theorem dX10_job_28 : decode cX10_job 28 = .ok (.iload_n 2, 1) := by decide +kernel
theorem dX10_job_29 : decode cX10_job 29 = .ok (.iastore, 1) := by decide +kernel
theorem dX10_job_30 : decode cX10_job 30 = .ok (.iload_n 3, 1) := by decide +kernel
theorem dX10_job_31 : decode cX10_job 31 = .ok (.ireturn, 1) := by decide +kernel
set_option maxRecDepth 20000 in
theorem ggX10_aim_X10_isJob : GoodIn wsX10_aim wsX10_isJob := goodIn_r _ [6, 7, 8, 5, 9] (by decide +kernel) (by decide +kernel)
set_option maxRecDepth 20000 in
theorem gX10_aim_X10_isJob : GoodIn wsX10_aim (va_wsS RX10 187 yX10_isJob wsX10_isJob) := goodIn_app (goodIn_of _ (by decide +kernel)) ggX10_aim_X10_isJob
set_option maxRecDepth 20000 in
theorem ggX10_aim_X10_in : GoodIn wsX10_aim wsX10_in := goodIn_r _ [9] (by decide +kernel) (by decide +kernel)
set_option maxRecDepth 20000 in
theorem gX10_aim_X10_in : GoodIn wsX10_aim (va_wsS RX10 117 yX10_in wsX10_in) := goodIn_app (goodIn_of _ (by decide +kernel)) ggX10_aim_X10_in
theorem dX10_aim_0 : decode cX10_aim 0 = .ok (.iload_n 1, 1) := by decide +kernel
theorem dX10_aim_1 : decode cX10_aim 1 = .ok (.invokestatic 187, 3) := by decide +kernel
theorem dX10_aim_4 : decode cX10_aim 4 = .ok (.ifCond .eq 24, 3) := by decide +kernel
theorem dX10_aim_7 : decode cX10_aim 7 = .ok (.iload_n 2, 1) := by decide +kernel
theorem dX10_aim_8 : decode cX10_aim 8 = .ok (.bipush 100, 2) := by decide +kernel
theorem dX10_aim_10 : decode cX10_aim 10 = .ok (.sipush 900, 3) := by decide +kernel
theorem dX10_aim_13 : decode cX10_aim 13 = .ok (.invokestatic 117, 3) := by decide +kernel
theorem dX10_aim_16 : decode cX10_aim 16 = .ok (.ifCond .eq 12, 3) := by decide +kernel
theorem dX10_aim_19 : decode cX10_aim 19 = .ok (.iload_n 3, 1) := by decide +kernel
theorem dX10_aim_20 : decode cX10_aim 20 = .ok (.iconst 0, 1) := by decide +kernel
theorem dX10_aim_21 : decode cX10_aim 21 = .ok (.iconst 3, 1) := by decide +kernel
theorem dX10_aim_22 : decode cX10_aim 22 = .ok (.invokestatic 117, 3) := by decide +kernel
theorem dX10_aim_25 : decode cX10_aim 25 = .ok (.ifCond .ne 5, 3) := by decide +kernel
theorem dX10_aim_28 : decode cX10_aim 28 = .ok (.iconst (-1), 1) := by decide +kernel
theorem dX10_aim_29 : decode cX10_aim 29 = .ok (.ireturn, 1) := by decide +kernel
theorem dX10_aim_30 : decode cX10_aim 30 = .ok (.aload_n 0, 1) := by decide +kernel
theorem dX10_aim_31 : decode cX10_aim 31 = .ok (.getfield 59, 3) := by decide +kernel
theorem dX10_aim_34 : decode cX10_aim 34 = .ok (.iload_n 1, 1) := by decide +kernel
theorem dX10_aim_35 : decode cX10_aim 35 = .ok (.iload_n 2, 1) := by decide +kernel
theorem dX10_aim_36 : decode cX10_aim 36 = .ok (.iastore, 1) := by decide +kernel
theorem dX10_aim_37 : decode cX10_aim 37 = .ok (.aload_n 0, 1) := by decide +kernel
theorem dX10_aim_38 : decode cX10_aim 38 = .ok (.getfield 62, 3) := by decide +kernel
theorem dX10_aim_41 : decode cX10_aim 41 = .ok (.iload_n 1, 1) := by decide +kernel
theorem dX10_aim_42 : decode cX10_aim 42 = .ok (.iload_n 3, 1) := by decide +kernel
theorem dX10_aim_43 : decode cX10_aim 43 = .ok (.iastore, 1) := by decide +kernel
theorem dX10_aim_44 : decode cX10_aim 44 = .ok (.iconst 1, 1) := by decide +kernel
theorem dX10_aim_45 : decode cX10_aim 45 = .ok (.ireturn, 1) := by decide +kernel
set_option maxRecDepth 20000 in
theorem ggX10_glass_X10_in : GoodIn wsX10_glass wsX10_in := goodIn_r _ [6] (by decide +kernel) (by decide +kernel)
set_option maxRecDepth 20000 in
theorem gX10_glass_X10_in : GoodIn wsX10_glass (va_wsS RX10 117 yX10_in wsX10_in) := goodIn_app (goodIn_of _ (by decide +kernel)) ggX10_glass_X10_in
theorem dX10_glass_0 : decode cX10_glass 0 = .ok (.iload_n 1, 1) := by decide +kernel
theorem dX10_glass_1 : decode cX10_glass 1 = .ok (.iconst 0, 1) := by decide +kernel
theorem dX10_glass_2 : decode cX10_glass 2 = .ok (.iconst 3, 1) := by decide +kernel
theorem dX10_glass_3 : decode cX10_glass 3 = .ok (.invokestatic 117, 3) := by decide +kernel
theorem dX10_glass_6 : decode cX10_glass 6 = .ok (.ifCond .eq 13, 3) := by decide +kernel
theorem dX10_glass_9 : decode cX10_glass 9 = .ok (.iload_n 2, 1) := by decide +kernel
theorem dX10_glass_10 : decode cX10_glass 10 = .ok (.iconst 0, 1) := by decide +kernel
theorem dX10_glass_11 : decode cX10_glass 11 = .ok (.bipush 50, 2) := by decide +kernel
theorem dX10_glass_13 : decode cX10_glass 13 = .ok (.invokestatic 117, 3) := by decide +kernel
theorem dX10_glass_16 : decode cX10_glass 16 = .ok (.ifCond .ne 5, 3) := by decide +kernel
theorem dX10_glass_19 : decode cX10_glass 19 = .ok (.iconst (-1), 1) := by decide +kernel
theorem dX10_glass_20 : decode cX10_glass 20 = .ok (.ireturn, 1) := by decide +kernel
theorem dX10_glass_21 : decode cX10_glass 21 = .ok (.iload_n 1, 1) := by decide +kernel
theorem dX10_glass_22 : decode cX10_glass 22 = .ok (.aload_n 0, 1) := by decide +kernel
theorem dX10_glass_23 : decode cX10_glass 23 = .ok (.getfield 190, 3) := by decide +kernel
theorem dX10_glass_26 : decode cX10_glass 26 = .ok (.if_icmp .ne 6, 3) := by decide +kernel
theorem dX10_glass_29 : decode cX10_glass 29 = .ok (.bipush (-3), 2) := by decide +kernel
theorem dX10_glass_31 : decode cX10_glass 31 = .ok (.ireturn, 1) := by decide +kernel
theorem dX10_glass_32 : decode cX10_glass 32 = .ok (.aload_n 0, 1) := by decide +kernel
theorem dX10_glass_33 : decode cX10_glass 33 = .ok (.iload_n 1, 1) := by decide +kernel
theorem dX10_glass_34 : decode cX10_glass 34 = .ok (.putfield 190, 3) := by decide +kernel
theorem dX10_glass_37 : decode cX10_glass 37 = .ok (.aload_n 0, 1) := by decide +kernel
theorem dX10_glass_38 : decode cX10_glass 38 = .ok (.iload_n 2, 1) := by decide +kernel
theorem dX10_glass_39 : decode cX10_glass 39 = .ok (.putfield 193, 3) := by decide +kernel
theorem dX10_glass_42 : decode cX10_glass 42 = .ok (.iconst 1, 1) := by decide +kernel
theorem dX10_glass_43 : decode cX10_glass 43 = .ok (.ireturn, 1) := by decide +kernel
theorem dX10_sectionOf_0 : decode cX10_sectionOf 0 = .ok (.iconst 0, 1) := by decide +kernel
theorem dX10_sectionOf_1 : decode cX10_sectionOf 1 = .ok (.istore_n 2, 1) := by decide +kernel
theorem dX10_sectionOf_2 : decode cX10_sectionOf 2 = .ok (.iload_n 2, 1) := by decide +kernel
theorem dX10_sectionOf_3 : decode cX10_sectionOf 3 = .ok (.bipush 6, 2) := by decide +kernel
theorem dX10_sectionOf_5 : decode cX10_sectionOf 5 = .ok (.if_icmp .ge 21, 3) := by decide +kernel
theorem dX10_sectionOf_8 : decode cX10_sectionOf 8 = .ok (.aload_n 0, 1) := by decide +kernel
theorem dX10_sectionOf_9 : decode cX10_sectionOf 9 = .ok (.getfield 56, 3) := by decide +kernel
theorem dX10_sectionOf_12 : decode cX10_sectionOf 12 = .ok (.iload_n 2, 1) := by decide +kernel
theorem dX10_sectionOf_13 : decode cX10_sectionOf 13 = .ok (.iaload, 1) := by decide +kernel
theorem dX10_sectionOf_14 : decode cX10_sectionOf 14 = .ok (.iload_n 1, 1) := by decide +kernel
theorem dX10_sectionOf_15 : decode cX10_sectionOf 15 = .ok (.if_icmp .ne 5, 3) := by decide +kernel
theorem dX10_sectionOf_18 : decode cX10_sectionOf 18 = .ok (.iload_n 2, 1) := by decide +kernel
theorem dX10_sectionOf_19 : decode cX10_sectionOf 19 = .ok (.ireturn, 1) := by decide +kernel
theorem dX10_sectionOf_20 : decode cX10_sectionOf 20 = .ok (.iinc 2 1, 3) := by decide +kernel
theorem dX10_sectionOf_23 : decode cX10_sectionOf 23 = .ok (.goto (-21), 3) := by decide +kernel
theorem dX10_sectionOf_26 : decode cX10_sectionOf 26 = .ok (.iconst (-1), 1) := by decide +kernel
theorem dX10_sectionOf_27 : decode cX10_sectionOf 27 = .ok (.ireturn, 1) := by decide +kernel
set_option maxRecDepth 20000 in
theorem ggX10_mould_X10_isSection : GoodIn wsX10_mould wsX10_isSection := goodIn_r _ [5, 6, 7, 4, 8] (by decide +kernel) (by decide +kernel)
set_option maxRecDepth 20000 in
theorem gX10_mould_X10_isSection : GoodIn wsX10_mould (va_wsS RX10 134 yX10_isSection wsX10_isSection) := goodIn_app (goodIn_of _ (by decide +kernel)) ggX10_mould_X10_isSection
set_option maxRecDepth 20000 in
theorem ggX10_mould_X10_isMould : GoodIn wsX10_mould wsX10_isMould := goodIn_r _ [11, 6, 7, 4, 8] (by decide +kernel) (by decide +kernel)
set_option maxRecDepth 20000 in
theorem gX10_mould_X10_isMould : GoodIn wsX10_mould (va_wsS RX10 196 yX10_isMould wsX10_isMould) := goodIn_app (goodIn_of _ (by decide +kernel)) ggX10_mould_X10_isMould
set_option maxRecDepth 20000 in
theorem ggX10_mould_X10_sectionOf : GoodIn wsX10_mould wsX10_sectionOf := goodIn_r _ [15, 1, 16, 17, 18, 19, 20, 21, 22, 23, 24, 25, 26, 27, 28, 29, 30, 31, 32, 33, 34, 35, 36, 37, 38, 39, 40, 41, 42, 43, 44, 45, 46, 47, 48, 49, 50, 51, 52, 53, 54, 55, 56, 57, 58, 59, 60] (by decide +kernel) (by decide +kernel)
set_option maxRecDepth 20000 in
theorem gX10_mould_X10_sectionOf : GoodIn wsX10_mould (wsV RX10 199 RX10 yX10_sectionOf wsX10_sectionOf) := goodIn_app (goodIn_of _ (by decide +kernel)) ggX10_mould_X10_sectionOf
theorem dX10_mould_0 : decode cX10_mould 0 = .ok (.iload_n 1, 1) := by decide +kernel
theorem dX10_mould_1 : decode cX10_mould 1 = .ok (.invokestatic 134, 3) := by decide +kernel
theorem dX10_mould_4 : decode cX10_mould 4 = .ok (.ifCond .eq 10, 3) := by decide +kernel
theorem dX10_mould_7 : decode cX10_mould 7 = .ok (.iload_n 2, 1) := by decide +kernel
theorem dX10_mould_8 : decode cX10_mould 8 = .ok (.invokestatic 196, 3) := by decide +kernel
theorem dX10_mould_11 : decode cX10_mould 11 = .ok (.ifCond .ne 5, 3) := by decide +kernel
theorem dX10_mould_14 : decode cX10_mould 14 = .ok (.iconst (-1), 1) := by decide +kernel
theorem dX10_mould_15 : decode cX10_mould 15 = .ok (.ireturn, 1) := by decide +kernel
theorem dX10_mould_16 : decode cX10_mould 16 = .ok (.aload_n 0, 1) := by decide +kernel
theorem dX10_mould_17 : decode cX10_mould 17 = .ok (.iload_n 2, 1) := by decide +kernel
theorem dX10_mould_18 : decode cX10_mould 18 = .ok (.invokevirtual 199, 3) := by decide +kernel
theorem dX10_mould_21 : decode cX10_mould 21 = .ok (.ifCond .lt 6, 3) := by decide +kernel
theorem dX10_mould_24 : decode cX10_mould 24 = .ok (.bipush (-3), 2) := by decide +kernel
theorem dX10_mould_26 : decode cX10_mould 26 = .ok (.ireturn, 1) := by decide +kernel
theorem dX10_mould_27 : decode cX10_mould 27 = .ok (.aload_n 0, 1) := by decide +kernel
theorem dX10_mould_28 : decode cX10_mould 28 = .ok (.getfield 56, 3) := by decide +kernel
theorem dX10_mould_31 : decode cX10_mould 31 = .ok (.iload_n 1, 1) := by decide +kernel
theorem dX10_mould_32 : decode cX10_mould 32 = .ok (.iaload, 1) := by decide +kernel
theorem dX10_mould_33 : decode cX10_mould 33 = .ok (.istore_n 3, 1) := by decide +kernel
theorem dX10_mould_34 : decode cX10_mould 34 = .ok (.aload_n 0, 1) := by decide +kernel
theorem dX10_mould_35 : decode cX10_mould 35 = .ok (.getfield 56, 3) := by decide +kernel
theorem dX10_mould_38 : decode cX10_mould 38 = .ok (.iload_n 1, 1) := by decide +kernel
theorem dX10_mould_39 : decode cX10_mould 39 = .ok (.iload_n 2, 1) := by decide +kernel
theorem dX10_mould_40 : decode cX10_mould 40 = .ok (.iastore, 1) := by decide +kernel
theorem dX10_mould_41 : decode cX10_mould 41 = .ok (.iload_n 3, 1) := by decide +kernel
theorem dX10_mould_42 : decode cX10_mould 42 = .ok (.ireturn, 1) := by decide +kernel
set_option maxRecDepth 20000 in
theorem ggX10_swab_X10_isMould : GoodIn wsX10_swab wsX10_isMould := goodIn_r _ [5, 6, 7, 4, 8] (by decide +kernel) (by decide +kernel)
set_option maxRecDepth 20000 in
theorem gX10_swab_X10_isMould : GoodIn wsX10_swab (va_wsS RX10 196 yX10_isMould wsX10_isMould) := goodIn_app (goodIn_of _ (by decide +kernel)) ggX10_swab_X10_isMould
theorem dX10_swab_0 : decode cX10_swab 0 = .ok (.iload_n 1, 1) := by decide +kernel
theorem dX10_swab_1 : decode cX10_swab 1 = .ok (.invokestatic 196, 3) := by decide +kernel
theorem dX10_swab_4 : decode cX10_swab 4 = .ok (.ifCond .ne 5, 3) := by decide +kernel
theorem dX10_swab_7 : decode cX10_swab 7 = .ok (.iconst (-1), 1) := by decide +kernel
theorem dX10_swab_8 : decode cX10_swab 8 = .ok (.ireturn, 1) := by decide +kernel
theorem dX10_swab_9 : decode cX10_swab 9 = .ok (.aload_n 0, 1) := by decide +kernel
theorem dX10_swab_10 : decode cX10_swab 10 = .ok (.getfield 68, 3) := by decide +kernel
theorem dX10_swab_13 : decode cX10_swab 13 = .ok (.iload_n 1, 1) := by decide +kernel
theorem dX10_swab_14 : decode cX10_swab 14 = .ok (.iaload, 1) := by decide +kernel
theorem dX10_swab_15 : decode cX10_swab 15 = .ok (.istore_n 2, 1) := by decide +kernel
theorem dX10_swab_16 : decode cX10_swab 16 = .ok (.aload_n 0, 1) := by decide +kernel
theorem dX10_swab_17 : decode cX10_swab 17 = .ok (.getfield 68, 3) := by decide +kernel
theorem dX10_swab_20 : decode cX10_swab 20 = .ok (.iload_n 1, 1) := by decide +kernel
theorem dX10_swab_21 : decode cX10_swab 21 = .ok (.iconst 0, 1) := by decide +kernel
theorem dX10_swab_22 : decode cX10_swab 22 = .ok (.iastore, 1) := by decide +kernel
theorem dX10_swab_23 : decode cX10_swab 23 = .ok (.iload_n 2, 1) := by decide +kernel
theorem dX10_swab_24 : decode cX10_swab 24 = .ok (.ireturn, 1) := by decide +kernel
set_option maxRecDepth 20000 in
theorem ggX10_repair_X10_isMould : GoodIn wsX10_repair wsX10_isMould := goodIn_r _ [7, 8, 9, 6, 10] (by decide +kernel) (by decide +kernel)
set_option maxRecDepth 20000 in
theorem gX10_repair_X10_isMould : GoodIn wsX10_repair (va_wsS RX10 196 yX10_isMould wsX10_isMould) := goodIn_app (goodIn_of _ (by decide +kernel)) ggX10_repair_X10_isMould
theorem dX10_repair_0 : decode cX10_repair 0 = .ok (.iload_n 1, 1) := by decide +kernel
theorem dX10_repair_1 : decode cX10_repair 1 = .ok (.invokestatic 196, 3) := by decide +kernel
theorem dX10_repair_4 : decode cX10_repair 4 = .ok (.ifCond .ne 5, 3) := by decide +kernel
theorem dX10_repair_7 : decode cX10_repair 7 = .ok (.iconst (-1), 1) := by decide +kernel
theorem dX10_repair_8 : decode cX10_repair 8 = .ok (.ireturn, 1) := by decide +kernel
theorem dX10_repair_9 : decode cX10_repair 9 = .ok (.aload_n 0, 1) := by decide +kernel
theorem dX10_repair_10 : decode cX10_repair 10 = .ok (.getfield 65, 3) := by decide +kernel
theorem dX10_repair_13 : decode cX10_repair 13 = .ok (.iload_n 1, 1) := by decide +kernel
theorem dX10_repair_14 : decode cX10_repair 14 = .ok (.iaload, 1) := by decide +kernel
theorem dX10_repair_15 : decode cX10_repair 15 = .ok (.istore_n 2, 1) := by decide +kernel
theorem dX10_repair_16 : decode cX10_repair 16 = .ok (.aload_n 0, 1) := by decide +kernel
theorem dX10_repair_17 : decode cX10_repair 17 = .ok (.getfield 65, 3) := by decide +kernel
theorem dX10_repair_20 : decode cX10_repair 20 = .ok (.iload_n 1, 1) := by decide +kernel
theorem dX10_repair_21 : decode cX10_repair 21 = .ok (.iconst 0, 1) := by decide +kernel
theorem dX10_repair_22 : decode cX10_repair 22 = .ok (.iastore, 1) := by decide +kernel
theorem dX10_repair_23 : decode cX10_repair 23 = .ok (.aload_n 0, 1) := by decide +kernel
theorem dX10_repair_24 : decode cX10_repair 24 = .ok (.getfield 68, 3) := by decide +kernel
theorem dX10_repair_27 : decode cX10_repair 27 = .ok (.iload_n 1, 1) := by decide +kernel
theorem dX10_repair_28 : decode cX10_repair 28 = .ok (.iconst 0, 1) := by decide +kernel
theorem dX10_repair_29 : decode cX10_repair 29 = .ok (.iastore, 1) := by decide +kernel
theorem dX10_repair_30 : decode cX10_repair 30 = .ok (.aload_n 0, 1) := by decide +kernel
theorem dX10_repair_31 : decode cX10_repair 31 = .ok (.getfield 71, 3) := by decide +kernel
theorem dX10_repair_34 : decode cX10_repair 34 = .ok (.iload_n 1, 1) := by decide +kernel
theorem dX10_repair_35 : decode cX10_repair 35 = .ok (.iconst 0, 1) := by decide +kernel
theorem dX10_repair_36 : decode cX10_repair 36 = .ok (.bastore, 1) := by decide +kernel
theorem dX10_repair_37 : decode cX10_repair 37 = .ok (.iload_n 2, 1) := by decide +kernel
theorem dX10_repair_38 : decode cX10_repair 38 = .ok (.ireturn, 1) := by decide +kernel
set_option maxRecDepth 20000 in
theorem ggX10_pull_X10_isMould : GoodIn wsX10_pull wsX10_isMould := goodIn_r _ [5, 6, 7, 4, 8] (by decide +kernel) (by decide +kernel)
set_option maxRecDepth 20000 in
theorem gX10_pull_X10_isMould : GoodIn wsX10_pull (va_wsS RX10 196 yX10_isMould wsX10_isMould) := goodIn_app (goodIn_of _ (by decide +kernel)) ggX10_pull_X10_isMould
theorem dX10_pull_0 : decode cX10_pull 0 = .ok (.iload_n 1, 1) := by decide +kernel
theorem dX10_pull_1 : decode cX10_pull 1 = .ok (.invokestatic 196, 3) := by decide +kernel
