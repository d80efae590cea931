theorem dX8_become_11 : decode cX8_become 11 = .ok (.iload_n 3, 1) := by decide +kernel
theorem dX8_become_12 : decode cX8_become 12 = .ok (.putfield 18, 3) := by decide +kernel
theorem dX8_become_15 : decode cX8_become 15 = .ok (.aload_n 0, 1) := by decide +kernel
theorem dX8_become_16 : decode cX8_become 16 = .ok (.iload 4, 2) := by decide +kernel
theorem dX8_become_18 : decode cX8_become 18 = .ok (.putfield 21, 3) := by decide +kernel
theorem dX8_become_21 : decode cX8_become 21 = .ok (.return_, 1) := by decide +kernel
set_option maxRecDepth 20000 in
theorem ggX8_isBroken_X9_wayUp : GoodIn wsX8_isBroken wsX9_wayUp := goodIn_r _ [9] (by decide +kernel) (by decide +kernel)
set_option maxRecDepth 20000 in
theorem gX8_isBroken_X9_wayUp_n33 : GoodIn wsX8_isBroken (wsX9_wayUp) := ggX8_isBroken_X9_wayUp
set_option maxRecDepth 20000 in
theorem ggX8_isBroken_X2_isDone : GoodIn wsX8_isBroken wsX2_isDone := goodIn_r _ [14, 15, 7, 8, 9, 16, 17, 18, 13, 19, 20, 30, 31] (by decide +kernel) (by decide +kernel)
set_option maxRecDepth 20000 in
theorem gX8_isBroken_X2_isDone : GoodIn wsX8_isBroken (wsV RX8 37 RX2 yX2_isDone wsX2_isDone) := goodIn_app (goodIn_of _ (by decide +kernel)) ggX8_isBroken_X2_isDone
set_option maxRecDepth 20000 in
theorem ggX8_isBroken_X2_length : GoodIn wsX8_isBroken wsX2_length := goodIn_r _ [19, 15, 20, 7, 8, 9, 30, 31] (by decide +kernel) (by decide +kernel)
set_option maxRecDepth 20000 in
theorem gX8_isBroken_X2_length : GoodIn wsX8_isBroken (wsV RX8 41 RX2 yX2_length wsX2_length) := goodIn_app (goodIn_of _ (by decide +kernel)) ggX8_isBroken_X2_length
set_option maxRecDepth 20000 in
theorem ggX8_isBroken_X2_isInside : GoodIn wsX8_isBroken wsX2_isInside := goodIn_r _ [25, 15, 7, 8, 9, 16, 17, 18, 13, 19, 20, 30, 31] (by decide +kernel) (by decide +kernel)
set_option maxRecDepth 20000 in
theorem gX8_isBroken_X2_isInside : GoodIn wsX8_isBroken (wsV RX8 45 RX2 yX2_isInside wsX2_isInside) := goodIn_app (goodIn_of _ (by decide +kernel)) ggX8_isBroken_X2_isInside
theorem dX8_isBroken_0 : decode cX8_isBroken 0 = .ok (.aload_n 0, 1) := by decide +kernel
theorem dX8_isBroken_1 : decode cX8_isBroken 1 = .ok (.getfield 9, 3) := by decide +kernel
theorem dX8_isBroken_4 : decode cX8_isBroken 4 = .ok (.tableswitch 137 0 2 #[28, 62, 108], 28) := by decide +kernel
theorem dX8_isBroken_32 : decode cX8_isBroken 32 = .ok (.aload_n 1, 1) := by decide +kernel
theorem dX8_isBroken_33 : decode cX8_isBroken 33 = .ok (.getfield 24, 3) := by decide +kernel
theorem dX8_isBroken_36 : decode cX8_isBroken 36 = .ok (.aload_n 0, 1) := by decide +kernel
theorem dX8_isBroken_37 : decode cX8_isBroken 37 = .ok (.getfield 15, 3) := by decide +kernel
theorem dX8_isBroken_40 : decode cX8_isBroken 40 = .ok (.iaload, 1) := by decide +kernel
theorem dX8_isBroken_41 : decode cX8_isBroken 41 = .ok (.aload_n 1, 1) := by decide +kernel
theorem dX8_isBroken_42 : decode cX8_isBroken 42 = .ok (.getfield 30, 3) := by decide +kernel
theorem dX8_isBroken_45 : decode cX8_isBroken 45 = .ok (.aload_n 0, 1) := by decide +kernel
theorem dX8_isBroken_46 : decode cX8_isBroken 46 = .ok (.getfield 18, 3) := by decide +kernel
theorem dX8_isBroken_49 : decode cX8_isBroken 49 = .ok (.iaload, 1) := by decide +kernel
theorem dX8_isBroken_50 : decode cX8_isBroken 50 = .ok (.invokestatic 33, 3) := by decide +kernel
theorem dX8_isBroken_53 : decode cX8_isBroken 53 = .ok (.aload_n 0, 1) := by decide +kernel
theorem dX8_isBroken_54 : decode cX8_isBroken 54 = .ok (.getfield 21, 3) := by decide +kernel
theorem dX8_isBroken_57 : decode cX8_isBroken 57 = .ok (.if_icmp .ge 7, 3) := by decide +kernel
theorem dX8_isBroken_60 : decode cX8_isBroken 60 = .ok (.iconst 1, 1) := by decide +kernel
theorem dX8_isBroken_61 : decode cX8_isBroken 61 = .ok (.goto 4, 3) := by decide +kernel
theorem dX8_isBroken_64 : decode cX8_isBroken 64 = .ok (.iconst 0, 1) := by decide +kernel
theorem dX8_isBroken_65 : decode cX8_isBroken 65 = .ok (.ireturn, 1) := by decide +kernel
theorem dX8_isBroken_66 : decode cX8_isBroken 66 = .ok (.aload_n 1, 1) := by decide +kernel
theorem dX8_isBroken_67 : decode cX8_isBroken 67 = .ok (.aload_n 0, 1) := by decide +kernel
theorem dX8_isBroken_68 : decode cX8_isBroken 68 = .ok (.getfield 15, 3) := by decide +kernel
theorem dX8_isBroken_71 : decode cX8_isBroken 71 = .ok (.aload_n 1, 1) := by decide +kernel
theorem dX8_isBroken_72 : decode cX8_isBroken 72 = .ok (.getfield 30, 3) := by decide +kernel
theorem dX8_isBroken_75 : decode cX8_isBroken 75 = .ok (.aload_n 0, 1) := by decide +kernel
theorem dX8_isBroken_76 : decode cX8_isBroken 76 = .ok (.getfield 18, 3) := by decide +kernel
theorem dX8_isBroken_79 : decode cX8_isBroken 79 = .ok (.iaload, 1) := by decide +kernel
theorem dX8_isBroken_80 : decode cX8_isBroken 80 = .ok (.invokevirtual 37, 3) := by decide +kernel
theorem dX8_isBroken_83 : decode cX8_isBroken 83 = .ok (.ifCond .ne 23, 3) := by decide +kernel
theorem dX8_isBroken_86 : decode cX8_isBroken 86 = .ok (.aload_n 1, 1) := by decide +kernel
theorem dX8_isBroken_87 : decode cX8_isBroken 87 = .ok (.aload_n 0, 1) := by decide +kernel
theorem dX8_isBroken_88 : decode cX8_isBroken 88 = .ok (.getfield 18, 3) := by decide +kernel
theorem dX8_isBroken_91 : decode cX8_isBroken 91 = .ok (.aload_n 1, 1) := by decide +kernel
theorem dX8_isBroken_92 : decode cX8_isBroken 92 = .ok (.getfield 30, 3) := by decide +kernel
theorem dX8_isBroken_95 : decode cX8_isBroken 95 = .ok (.aload_n 0, 1) := by decide +kernel
theorem dX8_isBroken_96 : decode cX8_isBroken 96 = .ok (.getfield 15, 3) := by decide +kernel
theorem dX8_isBroken_99 : decode cX8_isBroken 99 = .ok (.iaload, 1) := by decide +kernel
theorem dX8_isBroken_100 : decode cX8_isBroken 100 = .ok (.invokevirtual 37, 3) := by decide +kernel
theorem dX8_isBroken_103 : decode cX8_isBroken 103 = .ok (.ifCond .eq 7, 3) := by decide +kernel
theorem dX8_isBroken_106 : decode cX8_isBroken 106 = .ok (.iconst 1, 1) := by decide +kernel
theorem dX8_isBroken_107 : decode cX8_isBroken 107 = .ok (.goto 4, 3) := by decide +kernel
theorem dX8_isBroken_110 : decode cX8_isBroken 110 = .ok (.iconst 0, 1) := by decide +kernel
theorem dX8_isBroken_111 : decode cX8_isBroken 111 = .ok (.ireturn, 1) := by decide +kernel
theorem dX8_isBroken_112 : decode cX8_isBroken 112 = .ok (.aload_n 1, 1) := by decide +kernel
theorem dX8_isBroken_113 : decode cX8_isBroken 113 = .ok (.aload_n 0, 1) := by decide +kernel
theorem dX8_isBroken_114 : decode cX8_isBroken 114 = .ok (.getfield 15, 3) := by decide +kernel
theorem dX8_isBroken_117 : decode cX8_isBroken 117 = .ok (.invokevirtual 41, 3) := by decide +kernel
theorem dX8_isBroken_120 : decode cX8_isBroken 120 = .ok (.sipush 500, 3) := by decide +kernel
theorem dX8_isBroken_123 : decode cX8_isBroken 123 = .ok (.imul, 1) := by decide +kernel
theorem dX8_isBroken_124 : decode cX8_isBroken 124 = .ok (.iconst 3, 1) := by decide +kernel
theorem dX8_isBroken_125 : decode cX8_isBroken 125 = .ok (.iload_n 2, 1) := by decide +kernel
theorem dX8_isBroken_126 : decode cX8_isBroken 126 = .ok (.imul, 1) := by decide +kernel
theorem dX8_isBroken_127 : decode cX8_isBroken 127 = .ok (.aload_n 0, 1) := by decide +kernel
theorem dX8_isBroken_128 : decode cX8_isBroken 128 = .ok (.getfield 21, 3) := by decide +kernel
theorem dX8_isBroken_131 : decode cX8_isBroken 131 = .ok (.imul, 1) := by decide +kernel
theorem dX8_isBroken_132 : decode cX8_isBroken 132 = .ok (.if_icmp .ge 7, 3) := by decide +kernel
theorem dX8_isBroken_135 : decode cX8_isBroken 135 = .ok (.iconst 1, 1) := by decide +kernel
theorem dX8_isBroken_136 : decode cX8_isBroken 136 = .ok (.goto 4, 3) := by decide +kernel
theorem dX8_isBroken_139 : decode cX8_isBroken 139 = .ok (.iconst 0, 1) := by decide +kernel
theorem dX8_isBroken_140 : decode cX8_isBroken 140 = .ok (.ireturn, 1) := by decide +kernel
theorem dX8_isBroken_141 : decode cX8_isBroken 141 = .ok (.aload_n 1, 1) := by decide +kernel
theorem dX8_isBroken_142 : decode cX8_isBroken 142 = .ok (.aload_n 0, 1) := by decide +kernel
theorem dX8_isBroken_143 : decode cX8_isBroken 143 = .ok (.getfield 15, 3) := by decide +kernel
theorem dX8_isBroken_146 : decode cX8_isBroken 146 = .ok (.aload_n 0, 1) := by decide +kernel
theorem dX8_isBroken_147 : decode cX8_isBroken 147 = .ok (.getfield 18, 3) := by decide +kernel
theorem dX8_isBroken_150 : decode cX8_isBroken 150 = .ok (.invokevirtual 45, 3) := by decide +kernel
theorem dX8_isBroken_153 : decode cX8_isBroken 153 = .ok (.ifCond .ne 7, 3) := by decide +kernel
theorem dX8_isBroken_156 : decode cX8_isBroken 156 = .ok (.iconst 1, 1) := by decide +kernel
theorem dX8_isBroken_157 : decode cX8_isBroken 157 = .ok (.goto 4, 3) := by decide +kernel
theorem dX8_isBroken_160 : decode cX8_isBroken 160 = .ok (.iconst 0, 1) := by decide +kernel
theorem dX8_isBroken_161 : decode cX8_isBroken 161 = .ok (.ireturn, 1) := by decide +kernel
set_option maxRecDepth 20000 in
theorem ggX8_greatestPace_X2_length : GoodIn wsX8_greatestPace wsX2_length := goodIn_r _ [8, 9, 10, 11, 12, 13, 18, 19] (by decide +kernel) (by decide +kernel)
set_option maxRecDepth 20000 in
theorem gX8_greatestPace_X2_length : GoodIn wsX8_greatestPace (wsV RX8 41 RX2 yX2_length wsX2_length) := goodIn_app (goodIn_of _ (by decide +kernel)) ggX8_greatestPace_X2_length
theorem dX8_greatestPace_0 : decode cX8_greatestPace 0 = .ok (.aload_n 0, 1) := by decide +kernel
theorem dX8_greatestPace_1 : decode cX8_greatestPace 1 = .ok (.getfield 9, 3) := by decide +kernel
theorem dX8_greatestPace_4 : decode cX8_greatestPace 4 = .ok (.iconst 2, 1) := by decide +kernel
theorem dX8_greatestPace_5 : decode cX8_greatestPace 5 = .ok (.if_icmp .ne 11, 3) := by decide +kernel
theorem dX8_greatestPace_8 : decode cX8_greatestPace 8 = .ok (.aload_n 0, 1) := by decide +kernel
theorem dX8_greatestPace_9 : decode cX8_greatestPace 9 = .ok (.getfield 21, 3) := by decide +kernel
theorem dX8_greatestPace_12 : decode cX8_greatestPace 12 = .ok (.iconst 1, 1) := by decide +kernel
theorem dX8_greatestPace_13 : decode cX8_greatestPace 13 = .ok (.if_icmp .ge 6, 3) := by decide +kernel
theorem dX8_greatestPace_16 : decode cX8_greatestPace 16 = .ok (.bipush 60, 2) := by decide +kernel
theorem dX8_greatestPace_18 : decode cX8_greatestPace 18 = .ok (.ireturn, 1) := by decide +kernel
theorem dX8_greatestPace_19 : decode cX8_greatestPace 19 = .ok (.aload_n 1, 1) := by decide +kernel
theorem dX8_greatestPace_20 : decode cX8_greatestPace 20 = .ok (.aload_n 0, 1) := by decide +kernel
theorem dX8_greatestPace_21 : decode cX8_greatestPace 21 = .ok (.getfield 15, 3) := by decide +kernel
theorem dX8_greatestPace_24 : decode cX8_greatestPace 24 = .ok (.invokevirtual 41, 3) := by decide +kernel
theorem dX8_greatestPace_27 : decode cX8_greatestPace 27 = .ok (.sipush 500, 3) := by decide +kernel
theorem dX8_greatestPace_30 : decode cX8_greatestPace 30 = .ok (.imul, 1) := by decide +kernel
theorem dX8_greatestPace_31 : decode cX8_greatestPace 31 = .ok (.iconst 3, 1) := by decide +kernel
theorem dX8_greatestPace_32 : decode cX8_greatestPace 32 = .ok (.aload_n 0, 1) := by decide +kernel
theorem dX8_greatestPace_33 : decode cX8_greatestPace 33 = .ok (.getfield 21, 3) := by decide +kernel
theorem dX8_greatestPace_36 : decode cX8_greatestPace 36 = .ok (.imul, 1) := by decide +kernel
theorem dX8_greatestPace_37 : decode cX8_greatestPace 37 = .ok (.idiv, 1) := by decide +kernel
theorem dX8_greatestPace_38 : decode cX8_greatestPace 38 = .ok (.ireturn, 1) := by decide +kernel
set_option maxRecDepth 20000 in
theorem ggX9_init_X3_init : GoodIn wsX9_init wsX3_init := goodIn_r _ [37, 38, 2, 3, 39, 40, 41, 42, 43, 44, 45, 46, 47, 48, 49, 50, 51, 52, 53, 24, 54, 55, 56, 57, 58, 59, 60, 61, 62, 120, 121, 122, 123, 124, 154, 155, 156, 157, 158, 159] (by decide +kernel) (by decide +kernel)
set_option maxRecDepth 20000 in
theorem gX9_init_X3_init : GoodIn wsX9_init (wsX3_init) := ggX9_init_X3_init
set_option maxRecDepth 20000 in
theorem ggX9_init_X7_init : GoodIn wsX9_init wsX7_init := goodIn_r _ [65, 66, 2, 3, 67, 68, 69, 70, 71, 72, 73, 74, 24, 75, 76, 77, 78, 79, 80, 81, 140, 141, 160, 161, 162] (by decide +kernel) (by decide +kernel)
set_option maxRecDepth 20000 in
theorem gX9_init_X7_init : GoodIn wsX9_init (wsX7_init) := ggX9_init_X7_init
set_option maxRecDepth 20000 in
theorem ggX9_init_X6_init : GoodIn wsX9_init wsX6_init := goodIn_r _ [84, 85, 2, 3, 24, 86, 87, 88, 142, 143, 144] (by decide +kernel) (by decide +kernel)
set_option maxRecDepth 20000 in
theorem gX9_init_X6_init : GoodIn wsX9_init (wsX6_init) := ggX9_init_X6_init
set_option maxRecDepth 20000 in
theorem ggX9_init_X5_init : GoodIn wsX9_init wsX5_init := goodIn_r _ [91, 92, 2, 3, 24, 93, 94, 95, 96, 97, 98, 99, 145, 146, 147, 148, 149, 150] (by decide +kernel) (by decide +kernel)
set_option maxRecDepth 20000 in
theorem gX9_init_X5_init : GoodIn wsX9_init (wsX5_init) := ggX9_init_X5_init
set_option maxRecDepth 20000 in
theorem ggX9_init_X0_init : GoodIn wsX9_init wsX0_init := goodIn_r _ [102, 103, 2, 3, 104, 105, 106, 107, 108, 109, 110, 111, 112, 113, 114, 115, 116, 117, 118, 119, 151, 152, 153, 163, 164, 165, 166, 167, 168, 169] (by decide +kernel) (by decide +kernel)
set_option maxRecDepth 20000 in
theorem gX9_init_X0_init : GoodIn wsX9_init (wsX0_init) := ggX9_init_X0_init
theorem dX9_init_0 : decode cX9_init 0 = .ok (.aload_n 0, 1) := by decide +kernel
theorem dX9_init_1 : decode cX9_init 1 = .ok (.invokespecial 1, 3) := by decide +kernel
theorem dX9_init_4 : decode cX9_init 4 = .ok (.aload_n 0, 1) := by decide +kernel
theorem dX9_init_5 : decode cX9_init 5 = .ok (.new 7, 3) := by decide +kernel
theorem dX9_init_8 : decode cX9_init 8 = .ok (.dup, 1) := by decide +kernel
theorem dX9_init_9 : decode cX9_init 9 = .ok (.invokespecial 9, 3) := by decide +kernel
theorem dX9_init_12 : decode cX9_init 12 = .ok (.putfield 10, 3) := by decide +kernel
theorem dX9_init_15 : decode cX9_init 15 = .ok (.aload_n 0, 1) := by decide +kernel
theorem dX9_init_16 : decode cX9_init 16 = .ok (.new 16, 3) := by decide +kernel
theorem dX9_init_19 : decode cX9_init 19 = .ok (.dup, 1) := by decide +kernel
theorem dX9_init_20 : decode cX9_init 20 = .ok (.invokespecial 18, 3) := by decide +kernel
theorem dX9_init_23 : decode cX9_init 23 = .ok (.putfield 19, 3) := by decide +kernel
theorem dX9_init_26 : decode cX9_init 26 = .ok (.aload_n 0, 1) := by decide +kernel
theorem dX9_init_27 : decode cX9_init 27 = .ok (.new 23, 3) := by decide +kernel
theorem dX9_init_30 : decode cX9_init 30 = .ok (.dup, 1) := by decide +kernel
theorem dX9_init_31 : decode cX9_init 31 = .ok (.invokespecial 25, 3) := by decide +kernel
theorem dX9_init_34 : decode cX9_init 34 = .ok (.putfield 26, 3) := by decide +kernel
theorem dX9_init_37 : decode cX9_init 37 = .ok (.aload_n 0, 1) := by decide +kernel
theorem dX9_init_38 : decode cX9_init 38 = .ok (.new 30, 3) := by decide +kernel
theorem dX9_init_41 : decode cX9_init 41 = .ok (.dup, 1) := by decide +kernel
theorem dX9_init_42 : decode cX9_init 42 = .ok (.invokespecial 32, 3) := by decide +kernel
theorem dX9_init_45 : decode cX9_init 45 = .ok (.putfield 33, 3) := by decide +kernel
theorem dX9_init_48 : decode cX9_init 48 = .ok (.aload_n 0, 1) := by decide +kernel
theorem dX9_init_49 : decode cX9_init 49 = .ok (.new 37, 3) := by decide +kernel
theorem dX9_init_52 : decode cX9_init 52 = .ok (.dup, 1) := by decide +kernel
theorem dX9_init_53 : decode cX9_init 53 = .ok (.invokespecial 39, 3) := by decide +kernel
theorem dX9_init_56 : decode cX9_init 56 = .ok (.putfield 40, 3) := by decide +kernel
theorem dX9_init_59 : decode cX9_init 59 = .ok (.aload_n 0, 1) := by decide +kernel
theorem dX9_init_60 : decode cX9_init 60 = .ok (.bipush 6, 2) := by decide +kernel
theorem dX9_init_62 : decode cX9_init 62 = .ok (.newarray .int, 2) := by decide +kernel
theorem dX9_init_64 : decode cX9_init 64 = .ok (.putfield 44, 3) := by decide +kernel
theorem dX9_init_67 : decode cX9_init 67 = .ok (.aload_n 0, 1) := by decide +kernel
theorem dX9_init_68 : decode cX9_init 68 = .ok (.iconst 4, 1) := by decide +kernel
theorem dX9_init_69 : decode cX9_init 69 = .ok (.newarray .int, 2) := by decide +kernel
theorem dX9_init_71 : decode cX9_init 71 = .ok (.putfield 48, 3) := by decide +kernel
theorem dX9_init_74 : decode cX9_init 74 = .ok (.aload_n 0, 1) := by decide +kernel
theorem dX9_init_75 : decode cX9_init 75 = .ok (.iconst 4, 1) := by decide +kernel
theorem dX9_init_76 : decode cX9_init 76 = .ok (.newarray .int, 2) := by decide +kernel
theorem dX9_init_78 : decode cX9_init 78 = .ok (.putfield 51, 3) := by decide +kernel
theorem dX9_init_81 : decode cX9_init 81 = .ok (.aload_n 0, 1) := by decide +kernel
theorem dX9_init_82 : decode cX9_init 82 = .ok (.bipush 7, 2) := by decide +kernel
theorem dX9_init_84 : decode cX9_init 84 = .ok (.newarray .int, 2) := by decide +kernel
theorem dX9_init_86 : decode cX9_init 86 = .ok (.putfield 54, 3) := by decide +kernel
theorem dX9_init_89 : decode cX9_init 89 = .ok (.aload_n 0, 1) := by decide +kernel
theorem dX9_init_90 : decode cX9_init 90 = .ok (.iconst 0, 1) := by decide +kernel
theorem dX9_init_91 : decode cX9_init 91 = .ok (.putfield 57, 3) := by decide +kernel
theorem dX9_init_94 : decode cX9_init 94 = .ok (.aload_n 0, 1) := by decide +kernel
theorem dX9_init_95 : decode cX9_init 95 = .ok (.iconst 0, 1) := by decide +kernel
theorem dX9_init_96 : decode cX9_init 96 = .ok (.putfield 61, 3) := by decide +kernel
theorem dX9_init_99 : decode cX9_init 99 = .ok (.aload_n 0, 1) := by decide +kernel
theorem dX9_init_100 : decode cX9_init 100 = .ok (.sipush 500, 3) := by decide +kernel
theorem dX9_init_103 : decode cX9_init 103 = .ok (.putfield 64, 3) := by decide +kernel
theorem dX9_init_106 : decode cX9_init 106 = .ok (.aload_n 0, 1) := by decide +kernel
theorem dX9_init_107 : decode cX9_init 107 = .ok (.iconst 0, 1) := by decide +kernel
theorem dX9_init_108 : decode cX9_init 108 = .ok (.putfield 67, 3) := by decide +kernel
theorem dX9_init_111 : decode cX9_init 111 = .ok (.aload_n 0, 1) := by decide +kernel
theorem dX9_init_112 : decode cX9_init 112 = .ok (.sipush 200, 3) := by decide +kernel
theorem dX9_init_115 : decode cX9_init 115 = .ok (.putfield 70, 3) := by decide +kernel
theorem dX9_init_118 : decode cX9_init 118 = .ok (.aload_n 0, 1) := by decide +kernel
theorem dX9_init_119 : decode cX9_init 119 = .ok (.iconst 0, 1) := by decide +kernel
theorem dX9_init_120 : decode cX9_init 120 = .ok (.putfield 73, 3) := by decide +kernel
theorem dX9_init_123 : decode cX9_init 123 = .ok (.iconst 0, 1) := by decide +kernel
theorem dX9_init_124 : decode cX9_init 124 = .ok (.istore_n 1, 1) := by decide +kernel
theorem dX9_init_125 : decode cX9_init 125 = .ok (.iload_n 1, 1) := by decide +kernel
theorem dX9_init_126 : decode cX9_init 126 = .ok (.iconst 4, 1) := by decide +kernel
theorem dX9_init_127 : decode cX9_init 127 = .ok (.if_icmp .ge 18, 3) := by decide +kernel
theorem dX9_init_130 : decode cX9_init 130 = .ok (.aload_n 0, 1) := by decide +kernel
theorem dX9_init_131 : decode cX9_init 131 = .ok (.getfield 48, 3) := by decide +kernel
theorem dX9_init_134 : decode cX9_init 134 = .ok (.iload_n 1, 1) := by decide +kernel
theorem dX9_init_135 : decode cX9_init 135 = .ok (.sipush 500, 3) := by decide +kernel
theorem dX9_init_138 : decode cX9_init 138 = .ok (.iastore, 1) := by decide +kernel
theorem dX9_init_139 : decode cX9_init 139 = .ok (.iinc 1 1, 3) := by decide +kernel
theorem dX9_init_142 : decode cX9_init 142 = .ok (.goto (-17), 3) := by decide +kernel
theorem dX9_init_145 : decode cX9_init 145 = .ok (.return_, 1) := by decide +kernel
set_option maxRecDepth 20000 in
theorem ggX9_set_X9_isSetting : GoodIn wsX9_set wsX9_isSetting := goodIn_r _ [6, 7, 8, 5, 9, 10, 11, 12, 13, 14, 15, 16, 17, 18] (by decide +kernel) (by decide +kernel)
set_option maxRecDepth 20000 in
theorem gX9_set_X9_isSetting : GoodIn wsX9_set (va_wsS RX9 76 yX9_isSetting wsX9_isSetting) := goodIn_app (goodIn_of _ (by decide +kernel)) ggX9_set_X9_isSetting
set_option maxRecDepth 20000 in
theorem ggX9_set_X3_brokenIf : GoodIn wsX9_set wsX3_brokenIf := goodIn_r _ [23, 24, 25, 26, 27, 28, 29, 30, 31, 32, 33, 34, 35, 36, 37, 38, 39, 40, 41, 42, 43, 44, 45, 46, 47, 48, 49, 50, 51, 5, 52, 53, 54, 55, 56, 57, 58, 59, 60, 61, 62, 63, 64, 65, 82, 83, 84, 85, 86, 87, 88, 89, 90, 91, 92] (by decide +kernel) (by decide +kernel)
set_option maxRecDepth 20000 in
theorem gX9_set_X3_brokenIf : GoodIn wsX9_set (wsV RX9 80 RX3 yX3_brokenIf wsX3_brokenIf) := goodIn_app (goodIn_of _ (by decide +kernel)) ggX9_set_X3_brokenIf
set_option maxRecDepth 20000 in
theorem ggX9_set_X2_change : GoodIn wsX9_set wsX2_change := goodIn_r _ [39, 34, 35, 87, 88] (by decide +kernel) (by decide +kernel)
set_option maxRecDepth 20000 in
theorem gX9_set_X2_change : GoodIn wsX9_set (wsV RX9 88 RX2 yX2_change wsX2_change) := goodIn_app (goodIn_of _ (by decide +kernel)) ggX9_set_X2_change
theorem dX9_set_0 : decode cX9_set 0 = .ok (.iload_n 1, 1) := by decide +kernel
theorem dX9_set_1 : decode cX9_set 1 = .ok (.iload_n 2, 1) := by decide +kernel
theorem dX9_set_2 : decode cX9_set 2 = .ok (.iload_n 3, 1) := by decide +kernel
theorem dX9_set_3 : decode cX9_set 3 = .ok (.iload 4, 2) := by decide +kernel
theorem dX9_set_5 : decode cX9_set 5 = .ok (.invokestatic 76, 3) := by decide +kernel
theorem dX9_set_8 : decode cX9_set 8 = .ok (.ifCond .ne 5, 3) := by decide +kernel
theorem dX9_set_11 : decode cX9_set 11 = .ok (.iconst (-1), 1) := by decide +kernel
theorem dX9_set_12 : decode cX9_set 12 = .ok (.ireturn, 1) := by decide +kernel
theorem dX9_set_13 : decode cX9_set 13 = .ok (.aload_n 0, 1) := by decide +kernel
theorem dX9_set_14 : decode cX9_set 14 = .ok (.getfield 10, 3) := by decide +kernel
theorem dX9_set_17 : decode cX9_set 17 = .ok (.iload_n 1, 1) := by decide +kernel
theorem dX9_set_18 : decode cX9_set 18 = .ok (.iload_n 2, 1) := by decide +kernel
theorem dX9_set_19 : decode cX9_set 19 = .ok (.iload_n 3, 1) := by decide +kernel
theorem dX9_set_20 : decode cX9_set 20 = .ok (.iload 4, 2) := by decide +kernel
theorem dX9_set_22 : decode cX9_set 22 = .ok (.invokevirtual 80, 3) := by decide +kernel
theorem dX9_set_25 : decode cX9_set 25 = .ok (.istore 5, 2) := by decide +kernel
theorem dX9_set_27 : decode cX9_set 27 = .ok (.iload 5, 2) := by decide +kernel
theorem dX9_set_29 : decode cX9_set 29 = .ok (.iconst (-1), 1) := by decide +kernel
theorem dX9_set_30 : decode cX9_set 30 = .ok (.if_icmp .eq 9, 3) := by decide +kernel
theorem dX9_set_33 : decode cX9_set 33 = .ok (.bipush (-100), 2) := by decide +kernel
theorem dX9_set_35 : decode cX9_set 35 = .ok (.iload 5, 2) := by decide +kernel
theorem dX9_set_37 : decode cX9_set 37 = .ok (.isub, 1) := by decide +kernel
theorem dX9_set_38 : decode cX9_set 38 = .ok (.ireturn, 1) := by decide +kernel
theorem dX9_set_39 : decode cX9_set 39 = .ok (.aload_n 0, 1) := by decide +kernel
theorem dX9_set_40 : decode cX9_set 40 = .ok (.getfield 10, 3) := by decide +kernel
theorem dX9_set_43 : decode cX9_set 43 = .ok (.getfield 84, 3) := by decide +kernel
theorem dX9_set_46 : decode cX9_set 46 = .ok (.iload_n 1, 1) := by decide +kernel
theorem dX9_set_47 : decode cX9_set 47 = .ok (.aaload, 1) := by decide +kernel
theorem dX9_set_48 : decode cX9_set 48 = .ok (.iload_n 2, 1) := by decide +kernel
theorem dX9_set_49 : decode cX9_set 49 = .ok (.iload_n 3, 1) := by decide +kernel
theorem dX9_set_50 : decode cX9_set 50 = .ok (.iload 4, 2) := by decide +kernel
theorem dX9_set_52 : decode cX9_set 52 = .ok (.invokevirtual 88, 3) := by decide +kernel
theorem dX9_set_55 : decode cX9_set 55 = .ok (.iconst 1, 1) := by decide +kernel
theorem dX9_set_56 : decode cX9_set 56 = .ok (.ireturn, 1) := by decide +kernel
set_option maxRecDepth 20000 in
theorem ggX9_turn_X9_isSection : GoodIn wsX9_turn wsX9_isSection := goodIn_r _ [6, 7, 8, 5, 9] (by decide +kernel) (by decide +kernel)
set_option maxRecDepth 20000 in
theorem gX9_turn_X9_isSection : GoodIn wsX9_turn (va_wsS RX9 94 yX9_isSection wsX9_isSection) := goodIn_app (goodIn_of _ (by decide +kernel)) ggX9_turn_X9_isSection
set_option maxRecDepth 20000 in
theorem ggX9_turn_X9_isBetween : GoodIn wsX9_turn wsX9_isBetween := goodIn_r _ [9] (by decide +kernel) (by decide +kernel)
set_option maxRecDepth 20000 in
theorem gX9_turn_X9_isBetween : GoodIn wsX9_turn (va_wsS RX9 98 yX9_isBetween wsX9_isBetween) := goodIn_app (goodIn_of _ (by decide +kernel)) ggX9_turn_X9_isBetween
set_option maxRecDepth 20000 in
theorem ggX9_turn_X2_shift : GoodIn wsX9_turn wsX2_shift := goodIn_r _ [14, 15, 16, 17, 18, 19, 20, 41, 42] (by decide +kernel) (by decide +kernel)
set_option maxRecDepth 20000 in
theorem gX9_turn_X2_shift : GoodIn wsX9_turn (wsV RX9 102 RX2 yX2_shift wsX2_shift) := goodIn_app (goodIn_of _ (by decide +kernel)) ggX9_turn_X2_shift
theorem dX9_turn_0 : decode cX9_turn 0 = .ok (.iload_n 1, 1) := by decide +kernel
theorem dX9_turn_1 : decode cX9_turn 1 = .ok (.invokestatic 94, 3) := by decide +kernel
theorem dX9_turn_4 : decode cX9_turn 4 = .ok (.ifCond .eq 16, 3) := by decide +kernel
theorem dX9_turn_7 : decode cX9_turn 7 = .ok (.iload_n 2, 1) := by decide +kernel
theorem dX9_turn_8 : decode cX9_turn 8 = .ok (.sipush (-359), 3) := by decide +kernel
theorem dX9_turn_11 : decode cX9_turn 11 = .ok (.sipush 359, 3) := by decide +kernel
theorem dX9_turn_14 : decode cX9_turn 14 = .ok (.invokestatic 98, 3) := by decide +kernel
theorem dX9_turn_17 : decode cX9_turn 17 = .ok (.ifCond .ne 5, 3) := by decide +kernel
theorem dX9_turn_20 : decode cX9_turn 20 = .ok (.iconst (-1), 1) := by decide +kernel
theorem dX9_turn_21 : decode cX9_turn 21 = .ok (.ireturn, 1) := by decide +kernel
theorem dX9_turn_22 : decode cX9_turn 22 = .ok (.aload_n 0, 1) := by decide +kernel
theorem dX9_turn_23 : decode cX9_turn 23 = .ok (.getfield 10, 3) := by decide +kernel
theorem dX9_turn_26 : decode cX9_turn 26 = .ok (.getfield 84, 3) := by decide +kernel
theorem dX9_turn_29 : decode cX9_turn 29 = .ok (.iload_n 1, 1) := by decide +kernel
theorem dX9_turn_30 : decode cX9_turn 30 = .ok (.aaload, 1) := by decide +kernel
theorem dX9_turn_31 : decode cX9_turn 31 = .ok (.iload_n 2, 1) := by decide +kernel
theorem dX9_turn_32 : decode cX9_turn 32 = .ok (.invokevirtual 102, 3) := by decide +kernel
theorem dX9_turn_35 : decode cX9_turn 35 = .ok (.iconst 1, 1) := by decide +kernel
theorem dX9_turn_36 : decode cX9_turn 36 = .ok (.ireturn, 1) := by decide +kernel
set_option maxRecDepth 20000 in
theorem ggX9_copy_X9_isSection : GoodIn wsX9_copy wsX9_isSection := goodIn_r _ [6, 7, 8, 5, 9] (by decide +kernel) (by decide +kernel)
set_option maxRecDepth 20000 in
theorem gX9_copy_X9_isSection : GoodIn wsX9_copy (va_wsS RX9 94 yX9_isSection wsX9_isSection) := goodIn_app (goodIn_of _ (by decide +kernel)) ggX9_copy_X9_isSection
set_option maxRecDepth 20000 in
theorem ggX9_copy_X2_become : GoodIn wsX9_copy wsX2_become := goodIn_r _ [14, 15, 16, 37, 38] (by decide +kernel) (by decide +kernel)
set_option maxRecDepth 20000 in
theorem gX9_copy_X2_become : GoodIn wsX9_copy (wsV RX9 106 RX2 yX2_become wsX2_become) := goodIn_app (goodIn_of _ (by decide +kernel)) ggX9_copy_X2_become
theorem dX9_copy_0 : decode cX9_copy 0 = .ok (.iload_n 1, 1) := by decide +kernel
theorem dX9_copy_1 : decode cX9_copy 1 = .ok (.invokestatic 94, 3) := by decide +kernel
theorem dX9_copy_4 : decode cX9_copy 4 = .ok (.ifCond .eq 10, 3) := by decide +kernel
theorem dX9_copy_7 : decode cX9_copy 7 = .ok (.iload_n 2, 1) := by decide +kernel
theorem dX9_copy_8 : decode cX9_copy 8 = .ok (.invokestatic 94, 3) := by decide +kernel
theorem dX9_copy_11 : decode cX9_copy 11 = .ok (.ifCond .ne 5, 3) := by decide +kernel
theorem dX9_copy_14 : decode cX9_copy 14 = .ok (.iconst (-1), 1) := by decide +kernel
theorem dX9_copy_15 : decode cX9_copy 15 = .ok (.ireturn, 1) := by decide +kernel
theorem dX9_copy_16 : decode cX9_copy 16 = .ok (.aload_n 0, 1) := by decide +kernel
theorem dX9_copy_17 : decode cX9_copy 17 = .ok (.getfield 10, 3) := by decide +kernel
theorem dX9_copy_20 : decode cX9_copy 20 = .ok (.getfield 84, 3) := by decide +kernel
theorem dX9_copy_23 : decode cX9_copy 23 = .ok (.iload_n 1, 1) := by decide +kernel
theorem dX9_copy_24 : decode cX9_copy 24 = .ok (.aaload, 1) := by decide +kernel
theorem dX9_copy_25 : decode cX9_copy 25 = .ok (.aload_n 0, 1) := by decide +kernel
theorem dX9_copy_26 : decode cX9_copy 26 = .ok (.getfield 10, 3) := by decide +kernel
theorem dX9_copy_29 : decode cX9_copy 29 = .ok (.getfield 84, 3) := by decide +kernel
theorem dX9_copy_32 : decode cX9_copy 32 = .ok (.iload_n 2, 1) := by decide +kernel
theorem dX9_copy_33 : decode cX9_copy 33 = .ok (.aaload, 1) := by decide +kernel
theorem dX9_copy_34 : decode cX9_copy 34 = .ok (.invokevirtual 106, 3) := by decide +kernel
theorem dX9_copy_37 : decode cX9_copy 37 = .ok (.iconst 1, 1) := by decide +kernel
theorem dX9_copy_38 : decode cX9_copy 38 = .ok (.ireturn, 1) := by decide +kernel
set_option maxRecDepth 20000 in
theorem ggX9_law_X9_isLaw : GoodIn wsX9_law wsX9_isLaw := goodIn_r _ [8, 9, 10, 11, 7, 12, 13, 14, 15] (by decide +kernel) (by decide +kernel)
set_option maxRecDepth 20000 in
theorem gX9_law_X9_isLaw : GoodIn wsX9_law (va_wsS RX9 110 yX9_isLaw wsX9_isLaw) := goodIn_app (goodIn_of _ (by decide +kernel)) ggX9_law_X9_isLaw
set_option maxRecDepth 20000 in
theorem ggX9_law_X8_become : GoodIn wsX9_law wsX8_become := goodIn_r _ [20, 21, 22, 23, 24, 76, 77, 78, 79] (by decide +kernel) (by decide +kernel)
set_option maxRecDepth 20000 in
theorem gX9_law_X8_become : GoodIn wsX9_law (wsV RX9 120 RX8 yX8_become wsX8_become) := goodIn_app (goodIn_of _ (by decide +kernel)) ggX9_law_X8_become
set_option maxRecDepth 20000 in
theorem ggX9_law_X3_anyBreaks : GoodIn wsX9_law wsX3_anyBreaks := goodIn_r _ [29, 30, 31, 32, 33, 34, 19, 35, 21, 36, 22, 37, 23, 24, 38, 7, 39, 40, 41, 42, 43, 44, 45, 46, 47, 48, 49, 50, 51, 52, 53, 54, 55, 71, 72, 73, 74, 75, 76, 77, 78, 79, 80, 81] (by decide +kernel) (by decide +kernel)
set_option maxRecDepth 20000 in
theorem gX9_law_X3_anyBreaks : GoodIn wsX9_law (wsV RX9 128 RX3 yX3_anyBreaks wsX3_anyBreaks) := goodIn_app (goodIn_of _ (by decide +kernel)) ggX9_law_X3_anyBreaks
theorem dX9_law_0 : decode cX9_law 0 = .ok (.iload_n 1, 1) := by decide +kernel
theorem dX9_law_1 : decode cX9_law 1 = .ok (.iload_n 2, 1) := by decide +kernel
theorem dX9_law_2 : decode cX9_law 2 = .ok (.iload_n 3, 1) := by decide +kernel
theorem dX9_law_3 : decode cX9_law 3 = .ok (.iload 4, 2) := by decide +kernel
theorem dX9_law_5 : decode cX9_law 5 = .ok (.invokestatic 110, 3) := by decide +kernel
theorem dX9_law_8 : decode cX9_law 8 = .ok (.ifCond .ne 5, 3) := by decide +kernel
theorem dX9_law_11 : decode cX9_law 11 = .ok (.iconst (-1), 1) := by decide +kernel
theorem dX9_law_12 : decode cX9_law 12 = .ok (.ireturn, 1) := by decide +kernel
theorem dX9_law_13 : decode cX9_law 13 = .ok (.aload_n 0, 1) := by decide +kernel
theorem dX9_law_14 : decode cX9_law 14 = .ok (.getfield 10, 3) := by decide +kernel
theorem dX9_law_17 : decode cX9_law 17 = .ok (.getfield 113, 3) := by decide +kernel
theorem dX9_law_20 : decode cX9_law 20 = .ok (.bipush 16, 2) := by decide +kernel
theorem dX9_law_22 : decode cX9_law 22 = .ok (.if_icmp .lt 6, 3) := by decide +kernel
theorem dX9_law_25 : decode cX9_law 25 = .ok (.bipush (-2), 2) := by decide +kernel
theorem dX9_law_27 : decode cX9_law 27 = .ok (.ireturn, 1) := by decide +kernel
theorem dX9_law_28 : decode cX9_law 28 = .ok (.aload_n 0, 1) := by decide +kernel
theorem dX9_law_29 : decode cX9_law 29 = .ok (.getfield 10, 3) := by decide +kernel
theorem dX9_law_32 : decode cX9_law 32 = .ok (.getfield 113, 3) := by decide +kernel
theorem dX9_law_35 : decode cX9_law 35 = .ok (.istore 5, 2) := by decide +kernel
theorem dX9_law_37 : decode cX9_law 37 = .ok (.aload_n 0, 1) := by decide +kernel
theorem dX9_law_38 : decode cX9_law 38 = .ok (.getfield 10, 3) := by decide +kernel
theorem dX9_law_41 : decode cX9_law 41 = .ok (.getfield 116, 3) := by decide +kernel
theorem dX9_law_44 : decode cX9_law 44 = .ok (.iload 5, 2) := by decide +kernel
theorem dX9_law_46 : decode cX9_law 46 = .ok (.aaload, 1) := by decide +kernel
theorem dX9_law_47 : decode cX9_law 47 = .ok (.iload_n 1, 1) := by decide +kernel
theorem dX9_law_48 : decode cX9_law 48 = .ok (.iload_n 2, 1) := by decide +kernel
theorem dX9_law_49 : decode cX9_law 49 = .ok (.iload_n 3, 1) := by decide +kernel
theorem dX9_law_50 : decode cX9_law 50 = .ok (.iload 4, 2) := by decide +kernel
theorem dX9_law_52 : decode cX9_law 52 = .ok (.invokevirtual 120, 3) := by decide +kernel
theorem dX9_law_55 : decode cX9_law 55 = .ok (.aload_n 0, 1) := by decide +kernel
theorem dX9_law_56 : decode cX9_law 56 = .ok (.getfield 10, 3) := by decide +kernel
theorem dX9_law_59 : decode cX9_law 59 = .ok (.iload 5, 2) := by decide +kernel
theorem dX9_law_61 : decode cX9_law 61 = .ok (.aload_n 0, 1) := by decide +kernel
theorem dX9_law_62 : decode cX9_law 62 = .ok (.getfield 10, 3) := by decide +kernel
theorem dX9_law_65 : decode cX9_law 65 = .ok (.getfield 125, 3) := by decide +kernel
theorem dX9_law_68 : decode cX9_law 68 = .ok (.invokevirtual 128, 3) := by decide +kernel
theorem dX9_law_71 : decode cX9_law 71 = .ok (.ifCond .eq 9, 3) := by decide +kernel
theorem dX9_law_74 : decode cX9_law 74 = .ok (.bipush (-100), 2) := by decide +kernel
theorem dX9_law_76 : decode cX9_law 76 = .ok (.iload 5, 2) := by decide +kernel
theorem dX9_law_78 : decode cX9_law 78 = .ok (.isub, 1) := by decide +kernel
theorem dX9_law_79 : decode cX9_law 79 = .ok (.ireturn, 1) := by decide +kernel
theorem dX9_law_80 : decode cX9_law 80 = .ok (.aload_n 0, 1) := by decide +kernel
theorem dX9_law_81 : decode cX9_law 81 = .ok (.getfield 10, 3) := by decide +kernel
theorem dX9_law_84 : decode cX9_law 84 = .ok (.iload 5, 2) := by decide +kernel
theorem dX9_law_86 : decode cX9_law 86 = .ok (.iconst 1, 1) := by decide +kernel
theorem dX9_law_87 : decode cX9_law 87 = .ok (.iadd, 1) := by decide +kernel
theorem dX9_law_88 : decode cX9_law 88 = .ok (.putfield 113, 3) := by decide +kernel
theorem dX9_law_91 : decode cX9_law 91 = .ok (.iload 5, 2) := by decide +kernel
theorem dX9_law_93 : decode cX9_law 93 = .ok (.ireturn, 1) := by decide +kernel
theorem dX9_repeal_0 : decode cX9_repeal 0 = .ok (.aload_n 0, 1) := by decide +kernel
theorem dX9_repeal_1 : decode cX9_repeal 1 = .ok (.getfield 10, 3) := by decide +kernel
theorem dX9_repeal_4 : decode cX9_repeal 4 = .ok (.getfield 113, 3) := by decide +kernel
theorem dX9_repeal_7 : decode cX9_repeal 7 = .ok (.ifCond .ne 6, 3) := by decide +kernel
theorem dX9_repeal_10 : decode cX9_repeal 10 = .ok (.bipush (-4), 2) := by decide +kernel
theorem dX9_repeal_12 : decode cX9_repeal 12 = .ok (.ireturn, 1) := by decide +kernel
theorem dX9_repeal_13 : decode cX9_repeal 13 = .ok (.aload_n 0, 1) := by decide +kernel
theorem dX9_repeal_14 : decode cX9_repeal 14 = .ok (.getfield 10, 3) := by decide +kernel
theorem dX9_repeal_17 : decode cX9_repeal 17 = .ok (.dup, 1) := by decide +kernel
theorem dX9_repeal_18 : decode cX9_repeal 18 = .ok (.getfield 113, 3) := by decide +kernel
theorem dX9_repeal_21 : decode cX9_repeal 21 = .ok (.iconst 1, 1) := by decide +kernel
theorem dX9_repeal_22 : decode cX9_repeal 22 = .ok (.isub, 1) := by decide +kernel
theorem dX9_repeal_23 : decode cX9_repeal 23 = .ok (.putfield 113, 3) := by decide +kernel
theorem dX9_repeal_26 : decode cX9_repeal 26 = .ok (.aload_n 0, 1) := by decide +kernel
theorem dX9_repeal_27 : decode cX9_repeal 27 = .ok (.getfield 10, 3) := by decide +kernel
theorem dX9_repeal_30 : decode cX9_repeal 30 = .ok (.getfield 113, 3) := by decide +kernel
theorem dX9_repeal_33 : decode cX9_repeal 33 = .ok (.ireturn, 1) := by decide +kernel
set_option maxRecDepth 20000 in
theorem ggX9_pace_X9_isBetween : GoodIn wsX9_pace wsX9_isBetween := goodIn_r _ [6] (by decide +kernel) (by decide +kernel)
set_option maxRecDepth 20000 in
theorem gX9_pace_X9_isBetween : GoodIn wsX9_pace (va_wsS RX9 98 yX9_isBetween wsX9_isBetween) := goodIn_app (goodIn_of _ (by decide +kernel)) ggX9_pace_X9_isBetween
set_option maxRecDepth 20000 in
theorem ggX9_pace_X3_brokenAt : GoodIn wsX9_pace wsX3_brokenAt := goodIn_r _ [11, 12, 13, 14, 15, 10, 16, 17, 18, 19, 20, 21, 22, 23, 24, 25, 26, 27, 28, 29, 30, 5, 31, 32, 33, 34, 35, 36, 37, 38, 39, 40, 41, 42, 43, 44, 45, 46, 47, 63, 64, 65, 66, 67, 68, 69, 70, 71, 72, 73] (by decide +kernel) (by decide +kernel)
set_option maxRecDepth 20000 in
theorem gX9_pace_X3_brokenAt : GoodIn wsX9_pace (wsV RX9 132 RX3 yX3_brokenAt wsX3_brokenAt) := goodIn_app (goodIn_of _ (by decide +kernel)) ggX9_pace_X3_brokenAt
theorem dX9_pace_0 : decode cX9_pace 0 = .ok (.iload_n 1, 1) := by decide +kernel
theorem dX9_pace_1 : decode cX9_pace 1 = .ok (.iconst 1, 1) := by decide +kernel
theorem dX9_pace_2 : decode cX9_pace 2 = .ok (.bipush 60, 2) := by decide +kernel
theorem dX9_pace_4 : decode cX9_pace 4 = .ok (.invokestatic 98, 3) := by decide +kernel
theorem dX9_pace_7 : decode cX9_pace 7 = .ok (.ifCond .ne 5, 3) := by decide +kernel
theorem dX9_pace_10 : decode cX9_pace 10 = .ok (.iconst (-1), 1) := by decide +kernel
theorem dX9_pace_11 : decode cX9_pace 11 = .ok (.ireturn, 1) := by decide +kernel
theorem dX9_pace_12 : decode cX9_pace 12 = .ok (.aload_n 0, 1) := by decide +kernel
theorem dX9_pace_13 : decode cX9_pace 13 = .ok (.getfield 10, 3) := by decide +kernel
theorem dX9_pace_16 : decode cX9_pace 16 = .ok (.iload_n 1, 1) := by decide +kernel
theorem dX9_pace_17 : decode cX9_pace 17 = .ok (.invokevirtual 132, 3) := by decide +kernel
theorem dX9_pace_20 : decode cX9_pace 20 = .ok (.istore_n 2, 1) := by decide +kernel
theorem dX9_pace_21 : decode cX9_pace 21 = .ok (.iload_n 2, 1) := by decide +kernel
theorem dX9_pace_22 : decode cX9_pace 22 = .ok (.iconst (-1), 1) := by decide +kernel
theorem dX9_pace_23 : decode cX9_pace 23 = .ok (.if_icmp .eq 8, 3) := by decide +kernel
theorem dX9_pace_26 : decode cX9_pace 26 = .ok (.bipush (-100), 2) := by decide +kernel
theorem dX9_pace_28 : decode cX9_pace 28 = .ok (.iload_n 2, 1) := by decide +kernel
theorem dX9_pace_29 : decode cX9_pace 29 = .ok (.isub, 1) := by decide +kernel
theorem dX9_pace_30 : decode cX9_pace 30 = .ok (.ireturn, 1) := by decide +kernel
theorem dX9_pace_31 : decode cX9_pace 31 = .ok (.aload_n 0, 1) := by decide +kernel
theorem dX9_pace_32 : decode cX9_pace 32 = .ok (.getfield 10, 3) := by decide +kernel
theorem dX9_pace_35 : decode cX9_pace 35 = .ok (.getfield 125, 3) := by decide +kernel
theorem dX9_pace_38 : decode cX9_pace 38 = .ok (.istore_n 3, 1) := by decide +kernel
theorem dX9_pace_39 : decode cX9_pace 39 = .ok (.aload_n 0, 1) := by decide +kernel
theorem dX9_pace_40 : decode cX9_pace 40 = .ok (.getfield 10, 3) := by decide +kernel
theorem dX9_pace_43 : decode cX9_pace 43 = .ok (.iload_n 1, 1) := by decide +kernel
theorem dX9_pace_44 : decode cX9_pace 44 = .ok (.putfield 125, 3) := by decide +kernel
theorem dX9_pace_47 : decode cX9_pace 47 = .ok (.iload_n 3, 1) := by decide +kernel
theorem dX9_pace_48 : decode cX9_pace 48 = .ok (.ireturn, 1) := by decide +kernel
set_option maxRecDepth 20000 in
theorem ggX9_fastest_X3_greatestPace : GoodIn wsX9_fastest wsX3_greatestPace := goodIn_r _ [6, 7, 8, 9, 10, 11, 12, 13, 14, 15, 16, 17, 18, 19, 20, 21, 22, 23, 24, 25, 26, 27, 28, 29, 30, 31, 47, 48, 49, 50, 51, 52, 53, 54, 55, 56, 57] (by decide +kernel) (by decide +kernel)
set_option maxRecDepth 20000 in
theorem gX9_fastest_X3_greatestPace : GoodIn wsX9_fastest (wsV RX9 136 RX3 yX3_greatestPace wsX3_greatestPace) := goodIn_app (goodIn_of _ (by decide +kernel)) ggX9_fastest_X3_greatestPace
theorem dX9_fastest_0 : decode cX9_fastest 0 = .ok (.aload_n 0, 1) := by decide +kernel
theorem dX9_fastest_1 : decode cX9_fastest 1 = .ok (.getfield 10, 3) := by decide +kernel
theorem dX9_fastest_4 : decode cX9_fastest 4 = .ok (.invokevirtual 136, 3) := by decide +kernel
theorem dX9_fastest_7 : decode cX9_fastest 7 = .ok (.ireturn, 1) := by decide +kernel
set_option maxRecDepth 20000 in
theorem ggX9_act_X9_isSection : GoodIn wsX9_act wsX9_isSection := goodIn_r _ [8, 9, 10, 7, 11] (by decide +kernel) (by decide +kernel)
set_option maxRecDepth 20000 in
theorem gX9_act_X9_isSection : GoodIn wsX9_act (va_wsS RX9 94 yX9_isSection wsX9_isSection) := goodIn_app (goodIn_of _ (by decide +kernel)) ggX9_act_X9_isSection
set_option maxRecDepth 20000 in
theorem ggX9_act_X9_isAct : GoodIn wsX9_act wsX9_isAct := goodIn_r _ [14, 9, 10, 7, 11] (by decide +kernel) (by decide +kernel)
set_option maxRecDepth 20000 in
theorem gX9_act_X9_isAct : GoodIn wsX9_act (va_wsS RX9 140 yX9_isAct wsX9_isAct) := goodIn_app (goodIn_of _ (by decide +kernel)) ggX9_act_X9_isAct
set_option maxRecDepth 20000 in
theorem ggX9_act_X2_length : GoodIn wsX9_act wsX2_length := goodIn_r _ [19, 20, 21, 22, 7, 23, 55, 56] (by decide +kernel) (by decide +kernel)
set_option maxRecDepth 20000 in
theorem gX9_act_X2_length : GoodIn wsX9_act (wsV RX9 149 RX2 yX2_length wsX2_length) := goodIn_app (goodIn_of _ (by decide +kernel)) ggX9_act_X2_length
set_option maxRecDepth 20000 in
theorem ggX9_act_X9_isDegree : GoodIn wsX9_act wsX9_isDegree := goodIn_r _ [26, 9, 10, 7, 11] (by decide +kernel) (by decide +kernel)
set_option maxRecDepth 20000 in
theorem gX9_act_X9_isDegree : GoodIn wsX9_act (va_wsS RX9 152 yX9_isDegree wsX9_isDegree) := goodIn_app (goodIn_of _ (by decide +kernel)) ggX9_act_X9_isDegree
set_option maxRecDepth 20000 in
theorem ggX9_act_X2_isDone : GoodIn wsX9_act wsX2_isDone := goodIn_r _ [30, 20, 22, 7, 23, 31, 16, 17, 18, 19, 21, 55, 56] (by decide +kernel) (by decide +kernel)
set_option maxRecDepth 20000 in
theorem gX9_act_X2_isDone : GoodIn wsX9_act (wsV RX9 155 RX2 yX2_isDone wsX2_isDone) := goodIn_app (goodIn_of _ (by decide +kernel)) ggX9_act_X2_isDone
set_option maxRecDepth 20000 in
theorem ggX9_act_X9_asNumber : GoodIn wsX9_act wsX9_asNumber := goodIn_r _ [34] (by decide +kernel) (by decide +kernel)
set_option maxRecDepth 20000 in
theorem gX9_act_X9_asNumber : GoodIn wsX9_act (va_wsS RX9 158 yX9_asNumber wsX9_asNumber) := goodIn_app (goodIn_of _ (by decide +kernel)) ggX9_act_X9_asNumber
theorem dX9_act_0 : decode cX9_act 0 = .ok (.iload_n 1, 1) := by decide +kernel
theorem dX9_act_1 : decode cX9_act 1 = .ok (.invokestatic 94, 3) := by decide +kernel
theorem dX9_act_4 : decode cX9_act 4 = .ok (.ifCond .eq 10, 3) := by decide +kernel
theorem dX9_act_7 : decode cX9_act 7 = .ok (.iload_n 2, 1) := by decide +kernel
theorem dX9_act_8 : decode cX9_act 8 = .ok (.invokestatic 140, 3) := by decide +kernel
theorem dX9_act_11 : decode cX9_act 11 = .ok (.ifCond .ne 5, 3) := by decide +kernel
theorem dX9_act_14 : decode cX9_act 14 = .ok (.iconst (-1), 1) := by decide +kernel
theorem dX9_act_15 : decode cX9_act 15 = .ok (.ireturn, 1) := by decide +kernel
theorem dX9_act_16 : decode cX9_act 16 = .ok (.aload_n 0, 1) := by decide +kernel
theorem dX9_act_17 : decode cX9_act 17 = .ok (.getfield 10, 3) := by decide +kernel
theorem dX9_act_20 : decode cX9_act 20 = .ok (.getfield 84, 3) := by decide +kernel
theorem dX9_act_23 : decode cX9_act 23 = .ok (.iload_n 1, 1) := by decide +kernel
theorem dX9_act_24 : decode cX9_act 24 = .ok (.aaload, 1) := by decide +kernel
theorem dX9_act_25 : decode cX9_act 25 = .ok (.astore 5, 2) := by decide +kernel
theorem dX9_act_27 : decode cX9_act 27 = .ok (.iload_n 3, 1) := by decide +kernel
theorem dX9_act_28 : decode cX9_act 28 = .ok (.tableswitch 79 0 3 #[32, 40, 48, 55], 32) := by decide +kernel
theorem dX9_act_60 : decode cX9_act 60 = .ok (.aload 5, 2) := by decide +kernel
theorem dX9_act_62 : decode cX9_act 62 = .ok (.getfield 143, 3) := by decide +kernel
theorem dX9_act_65 : decode cX9_act 65 = .ok (.iload_n 2, 1) := by decide +kernel
theorem dX9_act_66 : decode cX9_act 66 = .ok (.iaload, 1) := by decide +kernel
theorem dX9_act_67 : decode cX9_act 67 = .ok (.ireturn, 1) := by decide +kernel
theorem dX9_act_68 : decode cX9_act 68 = .ok (.aload 5, 2) := by decide +kernel
theorem dX9_act_70 : decode cX9_act 70 = .ok (.getfield 146, 3) := by decide +kernel
theorem dX9_act_73 : decode cX9_act 73 = .ok (.iload_n 2, 1) := by decide +kernel
theorem dX9_act_74 : decode cX9_act 74 = .ok (.iaload, 1) := by decide +kernel
theorem dX9_act_75 : decode cX9_act 75 = .ok (.ireturn, 1) := by decide +kernel
theorem dX9_act_76 : decode cX9_act 76 = .ok (.aload 5, 2) := by decide +kernel
theorem dX9_act_78 : decode cX9_act 78 = .ok (.iload_n 2, 1) := by decide +kernel
theorem dX9_act_79 : decode cX9_act 79 = .ok (.invokevirtual 149, 3) := by decide +kernel
theorem dX9_act_82 : decode cX9_act 82 = .ok (.ireturn, 1) := by decide +kernel
theorem dX9_act_83 : decode cX9_act 83 = .ok (.iload 4, 2) := by decide +kernel
theorem dX9_act_85 : decode cX9_act 85 = .ok (.invokestatic 152, 3) := by decide +kernel
theorem dX9_act_88 : decode cX9_act 88 = .ok (.ifCond .eq 17, 3) := by decide +kernel
theorem dX9_act_91 : decode cX9_act 91 = .ok (.aload 5, 2) := by decide +kernel
theorem dX9_act_93 : decode cX9_act 93 = .ok (.iload_n 2, 1) := by decide +kernel
theorem dX9_act_94 : decode cX9_act 94 = .ok (.iload 4, 2) := by decide +kernel
theorem dX9_act_96 : decode cX9_act 96 = .ok (.invokevirtual 155, 3) := by decide +kernel
theorem dX9_act_99 : decode cX9_act 99 = .ok (.invokestatic 158, 3) := by decide +kernel
theorem dX9_act_102 : decode cX9_act 102 = .ok (.goto 4, 3) := by decide +kernel
theorem dX9_act_105 : decode cX9_act 105 = .ok (.iconst (-1), 1) := by decide +kernel
theorem dX9_act_106 : decode cX9_act 106 = .ok (.ireturn, 1) := by decide +kernel
theorem dX9_act_107 : decode cX9_act 107 = .ok (.iconst (-1), 1) := by decide +kernel
theorem dX9_act_108 : decode cX9_act 108 = .ok (.ireturn, 1) := by decide +kernel
set_option maxRecDepth 20000 in
theorem ggX9_would_X9_isSetting : GoodIn wsX9_would wsX9_isSetting := goodIn_r _ [5, 6, 7, 4, 8, 9, 10, 11, 12, 13, 14, 15, 16, 17] (by decide +kernel) (by decide +kernel)
set_option maxRecDepth 20000 in
theorem gX9_would_X9_isSetting : GoodIn wsX9_would (va_wsS RX9 76 yX9_isSetting wsX9_isSetting) := goodIn_app (goodIn_of _ (by decide +kernel)) ggX9_would_X9_isSetting
set_option maxRecDepth 20000 in
theorem ggX9_would_X3_brokenIf : GoodIn wsX9_would wsX3_brokenIf := goodIn_r _ [22, 23, 24, 25, 26, 27, 28, 29, 30, 31, 32, 33, 34, 35, 36, 37, 38, 39, 40, 41, 42, 43, 44, 45, 46, 47, 48, 49, 50, 4, 51, 52, 53, 54, 55, 56, 57, 58, 59, 60, 61, 62, 63, 64, 80, 81, 82, 83, 84, 85, 86, 87, 88, 89, 90] (by decide +kernel) (by decide +kernel)
set_option maxRecDepth 20000 in
theorem gX9_would_X3_brokenIf : GoodIn wsX9_would (wsV RX9 80 RX3 yX3_brokenIf wsX3_brokenIf) := goodIn_app (goodIn_of _ (by decide +kernel)) ggX9_would_X3_brokenIf
theorem dX9_would_0 : decode cX9_would 0 = .ok (.iload_n 1, 1) := by decide +kernel
theorem dX9_would_1 : decode cX9_would 1 = .ok (.iload_n 2, 1) := by decide +kernel
theorem dX9_would_2 : decode cX9_would 2 = .ok (.iload_n 3, 1) := by decide +kernel
theorem dX9_would_3 : decode cX9_would 3 = .ok (.iload 4, 2) := by decide +kernel
theorem dX9_would_5 : decode cX9_would 5 = .ok (.invokestatic 76, 3) := by decide +kernel
theorem dX9_would_8 : decode cX9_would 8 = .ok (.ifCond .ne 5, 3) := by decide +kernel
theorem dX9_would_11 : decode cX9_would 11 = .ok (.iconst (-1), 1) := by decide +kernel
theorem dX9_would_12 : decode cX9_would 12 = .ok (.ireturn, 1) := by decide +kernel
theorem dX9_would_13 : decode cX9_would 13 = .ok (.aload_n 0, 1) := by decide +kernel
theorem dX9_would_14 : decode cX9_would 14 = .ok (.getfield 10, 3) := by decide +kernel
theorem dX9_would_17 : decode cX9_would 17 = .ok (.iload_n 1, 1) := by decide +kernel
theorem dX9_would_18 : decode cX9_would 18 = .ok (.iload_n 2, 1) := by decide +kernel
theorem dX9_would_19 : decode cX9_would 19 = .ok (.iload_n 3, 1) := by decide +kernel
theorem dX9_would_20 : decode cX9_would 20 = .ok (.iload 4, 2) := by decide +kernel
theorem dX9_would_22 : decode cX9_would 22 = .ok (.invokevirtual 80, 3) := by decide +kernel
theorem dX9_would_25 : decode cX9_would 25 = .ok (.istore 5, 2) := by decide +kernel
theorem dX9_would_27 : decode cX9_would 27 = .ok (.iload 5, 2) := by decide +kernel
theorem dX9_would_29 : decode cX9_would 29 = .ok (.iconst (-1), 1) := by decide +kernel
theorem dX9_would_30 : decode cX9_would 30 = .ok (.if_icmp .ne 7, 3) := by decide +kernel
theorem dX9_would_33 : decode cX9_would 33 = .ok (.iconst 0, 1) := by decide +kernel
theorem dX9_would_34 : decode cX9_would 34 = .ok (.goto 7, 3) := by decide +kernel
theorem dX9_would_37 : decode cX9_would 37 = .ok (.iconst 1, 1) := by decide +kernel
theorem dX9_would_38 : decode cX9_would 38 = .ok (.iload 5, 2) := by decide +kernel
theorem dX9_would_40 : decode cX9_would 40 = .ok (.iadd, 1) := by decide +kernel
theorem dX9_would_41 : decode cX9_would 41 = .ok (.ireturn, 1) := by decide +kernel
set_option maxRecDepth 20000 in
theorem ggX9_arm_X9_isArm : GoodIn wsX9_arm wsX9_isArm := goodIn_r _ [7, 8, 9, 6, 10] (by decide +kernel) (by decide +kernel)
set_option maxRecDepth 20000 in
theorem gX9_arm_X9_isArm : GoodIn wsX9_arm (va_wsS RX9 162 yX9_isArm wsX9_isArm) := goodIn_app (goodIn_of _ (by decide +kernel)) ggX9_arm_X9_isArm
set_option maxRecDepth 20000 in
theorem ggX9_arm_X7_swapWithTold : GoodIn wsX9_arm wsX7_swapWithTold := goodIn_r _ [15, 16, 17, 72, 73] (by decide +kernel) (by decide +kernel)
set_option maxRecDepth 20000 in
theorem gX9_arm_X7_swapWithTold : GoodIn wsX9_arm (wsV RX9 174 RX7 yX7_swapWithTold wsX7_swapWithTold) := goodIn_app (goodIn_of _ (by decide +kernel)) ggX9_arm_X7_swapWithTold
set_option maxRecDepth 20000 in
theorem ggX9_arm_X7_isClear : GoodIn wsX9_arm wsX7_isClear := goodIn_r _ [21, 16, 22, 23, 14, 24, 25, 26, 27, 28, 29, 30, 31, 32, 33, 34, 35, 36, 37, 38, 39, 40, 41, 42, 43, 44, 45, 46, 47, 48, 49, 6, 50, 51, 52, 53, 54, 55, 56, 72, 73, 74, 75, 76] (by decide +kernel) (by decide +kernel)
set_option maxRecDepth 20000 in
theorem gX9_arm_X7_isClear : GoodIn wsX9_arm (wsV RX9 177 RX7 yX7_isClear wsX7_isClear) := goodIn_app (goodIn_of _ (by decide +kernel)) ggX9_arm_X7_isClear
theorem dX9_arm_0 : decode cX9_arm 0 = .ok (.iload_n 1, 1) := by decide +kernel
theorem dX9_arm_1 : decode cX9_arm 1 = .ok (.invokestatic 162, 3) := by decide +kernel
theorem dX9_arm_4 : decode cX9_arm 4 = .ok (.ifCond .ne 5, 3) := by decide +kernel
theorem dX9_arm_7 : decode cX9_arm 7 = .ok (.iconst (-1), 1) := by decide +kernel
theorem dX9_arm_8 : decode cX9_arm 8 = .ok (.ireturn, 1) := by decide +kernel
theorem dX9_arm_9 : decode cX9_arm 9 = .ok (.aload_n 0, 1) := by decide +kernel
theorem dX9_arm_10 : decode cX9_arm 10 = .ok (.getfield 19, 3) := by decide +kernel
theorem dX9_arm_13 : decode cX9_arm 13 = .ok (.getfield 165, 3) := by decide +kernel
theorem dX9_arm_16 : decode cX9_arm 16 = .ok (.getfield 169, 3) := by decide +kernel
theorem dX9_arm_19 : decode cX9_arm 19 = .ok (.istore_n 2, 1) := by decide +kernel
theorem dX9_arm_20 : decode cX9_arm 20 = .ok (.iload_n 2, 1) := by decide +kernel
theorem dX9_arm_21 : decode cX9_arm 21 = .ok (.ifCond .ne 6, 3) := by decide +kernel
theorem dX9_arm_24 : decode cX9_arm 24 = .ok (.bipush (-4), 2) := by decide +kernel
theorem dX9_arm_26 : decode cX9_arm 26 = .ok (.ireturn, 1) := by decide +kernel
theorem dX9_arm_27 : decode cX9_arm 27 = .ok (.aload_n 0, 1) := by decide +kernel
theorem dX9_arm_28 : decode cX9_arm 28 = .ok (.getfield 19, 3) := by decide +kernel
theorem dX9_arm_31 : decode cX9_arm 31 = .ok (.iload_n 1, 1) := by decide +kernel
theorem dX9_arm_32 : decode cX9_arm 32 = .ok (.invokevirtual 174, 3) := by decide +kernel
theorem dX9_arm_35 : decode cX9_arm 35 = .ok (.aload_n 0, 1) := by decide +kernel
theorem dX9_arm_36 : decode cX9_arm 36 = .ok (.getfield 19, 3) := by decide +kernel
theorem dX9_arm_39 : decode cX9_arm 39 = .ok (.invokevirtual 177, 3) := by decide +kernel
theorem dX9_arm_42 : decode cX9_arm 42 = .ok (.ifCond .ne 14, 3) := by decide +kernel
theorem dX9_arm_45 : decode cX9_arm 45 = .ok (.aload_n 0, 1) := by decide +kernel
theorem dX9_arm_46 : decode cX9_arm 46 = .ok (.getfield 19, 3) := by decide +kernel
theorem dX9_arm_49 : decode cX9_arm 49 = .ok (.iload_n 1, 1) := by decide +kernel
theorem dX9_arm_50 : decode cX9_arm 50 = .ok (.invokevirtual 174, 3) := by decide +kernel
theorem dX9_arm_53 : decode cX9_arm 53 = .ok (.bipush (-5), 2) := by decide +kernel
theorem dX9_arm_55 : decode cX9_arm 55 = .ok (.ireturn, 1) := by decide +kernel
theorem dX9_arm_56 : decode cX9_arm 56 = .ok (.aload_n 0, 1) := by decide +kernel
theorem dX9_arm_57 : decode cX9_arm 57 = .ok (.getfield 19, 3) := by decide +kernel
theorem dX9_arm_60 : decode cX9_arm 60 = .ok (.getfield 165, 3) := by decide +kernel
theorem dX9_arm_63 : decode cX9_arm 63 = .ok (.iconst 0, 1) := by decide +kernel
theorem dX9_arm_64 : decode cX9_arm 64 = .ok (.putfield 169, 3) := by decide +kernel
theorem dX9_arm_67 : decode cX9_arm 67 = .ok (.iload_n 2, 1) := by decide +kernel
theorem dX9_arm_68 : decode cX9_arm 68 = .ok (.ireturn, 1) := by decide +kernel
set_option maxRecDepth 20000 in
theorem ggX9_knot_X9_isDegree : GoodIn wsX9_knot wsX9_isDegree := goodIn_r _ [7, 8, 9, 6, 10] (by decide +kernel) (by decide +kernel)
set_option maxRecDepth 20000 in
theorem gX9_knot_X9_isDegree : GoodIn wsX9_knot (va_wsS RX9 152 yX9_isDegree wsX9_isDegree) := goodIn_app (goodIn_of _ (by decide +kernel)) ggX9_knot_X9_isDegree
set_option maxRecDepth 20000 in
theorem ggX9_knot_X9_isBetween : GoodIn wsX9_knot wsX9_isBetween := goodIn_r _ [10] (by decide +kernel) (by decide +kernel)
set_option maxRecDepth 20000 in
theorem gX9_knot_X9_isBetween : GoodIn wsX9_knot (va_wsS RX9 98 yX9_isBetween wsX9_isBetween) := goodIn_app (goodIn_of _ (by decide +kernel)) ggX9_knot_X9_isBetween
set_option maxRecDepth 20000 in
theorem ggX9_knot_X4_latest : GoodIn wsX9_knot wsX4_latest := goodIn_r _ [15, 16, 17, 40, 41, 42] (by decide +kernel) (by decide +kernel)
set_option maxRecDepth 20000 in
theorem gX9_knot_X4_latest : GoodIn wsX9_knot (wsV RX9 181 RX4 yX4_latest wsX4_latest) := goodIn_app (goodIn_of _ (by decide +kernel)) ggX9_knot_X4_latest
set_option maxRecDepth 20000 in
theorem ggX9_knot_X4_add : GoodIn wsX9_knot wsX4_add := goodIn_r _ [21, 17, 16, 22, 40, 41, 42] (by decide +kernel) (by decide +kernel)
set_option maxRecDepth 20000 in
theorem gX9_knot_X4_add : GoodIn wsX9_knot (wsV RX9 184 RX4 yX4_add wsX4_add) := goodIn_app (goodIn_of _ (by decide +kernel)) ggX9_knot_X4_add
theorem dX9_knot_0 : decode cX9_knot 0 = .ok (.iload_n 1, 1) := by decide +kernel
theorem dX9_knot_1 : decode cX9_knot 1 = .ok (.invokestatic 152, 3) := by decide +kernel
theorem dX9_knot_4 : decode cX9_knot 4 = .ok (.ifCond .eq 28, 3) := by decide +kernel
theorem dX9_knot_7 : decode cX9_knot 7 = .ok (.iload_n 2, 1) := by decide +kernel
theorem dX9_knot_8 : decode cX9_knot 8 = .ok (.iconst 0, 1) := by decide +kernel
theorem dX9_knot_9 : decode cX9_knot 9 = .ok (.sipush 1000, 3) := by decide +kernel
theorem dX9_knot_12 : decode cX9_knot 12 = .ok (.invokestatic 98, 3) := by decide +kernel
theorem dX9_knot_15 : decode cX9_knot 15 = .ok (.ifCond .eq 17, 3) := by decide +kernel
theorem dX9_knot_18 : decode cX9_knot 18 = .ok (.iload_n 1, 1) := by decide +kernel
theorem dX9_knot_19 : decode cX9_knot 19 = .ok (.aload_n 0, 1) := by decide +kernel
theorem dX9_knot_20 : decode cX9_knot 20 = .ok (.getfield 19, 3) := by decide +kernel
theorem dX9_knot_23 : decode cX9_knot 23 = .ok (.getfield 165, 3) := by decide +kernel
theorem dX9_knot_26 : decode cX9_knot 26 = .ok (.invokevirtual 181, 3) := by decide +kernel
theorem dX9_knot_29 : decode cX9_knot 29 = .ok (.if_icmp .gt 5, 3) := by decide +kernel
theorem dX9_knot_32 : decode cX9_knot 32 = .ok (.iconst (-1), 1) := by decide +kernel
theorem dX9_knot_33 : decode cX9_knot 33 = .ok (.ireturn, 1) := by decide +kernel
theorem dX9_knot_34 : decode cX9_knot 34 = .ok (.aload_n 0, 1) := by decide +kernel
theorem dX9_knot_35 : decode cX9_knot 35 = .ok (.getfield 19, 3) := by decide +kernel
theorem dX9_knot_38 : decode cX9_knot 38 = .ok (.getfield 165, 3) := by decide +kernel
theorem dX9_knot_41 : decode cX9_knot 41 = .ok (.getfield 169, 3) := by decide +kernel
theorem dX9_knot_44 : decode cX9_knot 44 = .ok (.bipush 6, 2) := by decide +kernel
theorem dX9_knot_46 : decode cX9_knot 46 = .ok (.if_icmp .lt 6, 3) := by decide +kernel
theorem dX9_knot_49 : decode cX9_knot 49 = .ok (.bipush (-2), 2) := by decide +kernel
theorem dX9_knot_51 : decode cX9_knot 51 = .ok (.ireturn, 1) := by decide +kernel
theorem dX9_knot_52 : decode cX9_knot 52 = .ok (.aload_n 0, 1) := by decide +kernel
theorem dX9_knot_53 : decode cX9_knot 53 = .ok (.getfield 19, 3) := by decide +kernel
theorem dX9_knot_56 : decode cX9_knot 56 = .ok (.getfield 165, 3) := by decide +kernel
theorem dX9_knot_59 : decode cX9_knot 59 = .ok (.iload_n 1, 1) := by decide +kernel
theorem dX9_knot_60 : decode cX9_knot 60 = .ok (.iload_n 2, 1) := by decide +kernel
theorem dX9_knot_61 : decode cX9_knot 61 = .ok (.invokevirtual 184, 3) := by decide +kernel
theorem dX9_knot_64 : decode cX9_knot 64 = .ok (.aload_n 0, 1) := by decide +kernel
theorem dX9_knot_65 : decode cX9_knot 65 = .ok (.getfield 19, 3) := by decide +kernel
theorem dX9_knot_68 : decode cX9_knot 68 = .ok (.getfield 165, 3) := by decide +kernel
theorem dX9_knot_71 : decode cX9_knot 71 = .ok (.getfield 169, 3) := by decide +kernel
theorem dX9_knot_74 : decode cX9_knot 74 = .ok (.ireturn, 1) := by decide +kernel
theorem dX9_forget_0 : decode cX9_forget 0 = .ok (.aload_n 0, 1) := by decide +kernel
theorem dX9_forget_1 : decode cX9_forget 1 = .ok (.getfield 19, 3) := by decide +kernel
theorem dX9_forget_4 : decode cX9_forget 4 = .ok (.getfield 165, 3) := by decide +kernel
theorem dX9_forget_7 : decode cX9_forget 7 = .ok (.getfield 169, 3) := by decide +kernel
theorem dX9_forget_10 : decode cX9_forget 10 = .ok (.istore_n 1, 1) := by decide +kernel
theorem dX9_forget_11 : decode cX9_forget 11 = .ok (.aload_n 0, 1) := by decide +kernel
theorem dX9_forget_12 : decode cX9_forget 12 = .ok (.getfield 19, 3) := by decide +kernel
theorem dX9_forget_15 : decode cX9_forget 15 = .ok (.getfield 165, 3) := by decide +kernel
theorem dX9_forget_18 : decode cX9_forget 18 = .ok (.iconst 0, 1) := by decide +kernel
theorem dX9_forget_19 : decode cX9_forget 19 = .ok (.putfield 169, 3) := by decide +kernel
theorem dX9_forget_22 : decode cX9_forget 22 = .ok (.iload_n 1, 1) := by decide +kernel
theorem dX9_forget_23 : decode cX9_forget 23 = .ok (.ireturn, 1) := by decide +kernel
set_option maxRecDepth 20000 in
theorem ggX9_place_X9_isArm : GoodIn wsX9_place wsX9_isArm := goodIn_r _ [6, 7, 8, 5, 9] (by decide +kernel) (by decide +kernel)
set_option maxRecDepth 20000 in
theorem gX9_place_X9_isArm : GoodIn wsX9_place (va_wsS RX9 162 yX9_isArm wsX9_isArm) := goodIn_app (goodIn_of _ (by decide +kernel)) ggX9_place_X9_isArm
set_option maxRecDepth 20000 in
theorem ggX9_place_X9_isDegree : GoodIn wsX9_place wsX9_isDegree := goodIn_r _ [12, 7, 8, 5, 9] (by decide +kernel) (by decide +kernel)
set_option maxRecDepth 20000 in
theorem gX9_place_X9_isDegree : GoodIn wsX9_place (va_wsS RX9 152 yX9_isDegree wsX9_isDegree) := goodIn_app (goodIn_of _ (by decide +kernel)) ggX9_place_X9_isDegree
set_option maxRecDepth 20000 in
theorem ggX9_place_X9_isBetween : GoodIn wsX9_place wsX9_isBetween := goodIn_r _ [9] (by decide +kernel) (by decide +kernel)
set_option maxRecDepth 20000 in
theorem gX9_place_X9_isBetween : GoodIn wsX9_place (va_wsS RX9 98 yX9_isBetween wsX9_isBetween) := goodIn_app (goodIn_of _ (by decide +kernel)) ggX9_place_X9_isBetween
set_option maxRecDepth 20000 in
theorem ggX9_place_X4_above : GoodIn wsX9_place wsX4_above := goodIn_r _ [17, 18, 19, 20, 21, 22, 16, 23, 24, 25, 26, 27, 28, 29, 30, 31, 32, 33, 34, 35, 36, 37, 5, 38, 61, 62, 63] (by decide +kernel) (by decide +kernel)
set_option maxRecDepth 20000 in
theorem gX9_place_X4_above : GoodIn wsX9_place (wsV RX9 192 RX4 yX4_above wsX4_above) := goodIn_app (goodIn_of _ (by decide +kernel)) ggX9_place_X4_above
set_option maxRecDepth 20000 in
theorem ggX9_place_X4_below : GoodIn wsX9_place wsX4_below := goodIn_r _ [36, 19, 20, 21, 22, 16, 23, 24, 25, 26, 27, 28, 29, 30, 31, 32, 37, 5, 38, 61, 62, 63] (by decide +kernel) (by decide +kernel)
set_option maxRecDepth 20000 in
theorem gX9_place_X4_below : GoodIn wsX9_place (wsV RX9 195 RX4 yX4_below wsX4_below) := goodIn_app (goodIn_of _ (by decide +kernel)) ggX9_place_X4_below
set_option maxRecDepth 20000 in
theorem ggX9_place_X9_greatestDivisor : GoodIn wsX9_place wsX9_greatestDivisor := goodIn_r _ [42, 43, 26, 27, 28] (by decide +kernel) (by decide +kernel)
set_option maxRecDepth 20000 in
theorem gX9_place_X9_greatestDivisor : GoodIn wsX9_place (va_wsS RX9 198 yX9_greatestDivisor wsX9_greatestDivisor) := goodIn_app (goodIn_of _ (by decide +kernel)) ggX9_place_X9_greatestDivisor
theorem dX9_place_0 : decode cX9_place 0 = .ok (.iload_n 1, 1) := by decide +kernel
theorem dX9_place_1 : decode cX9_place 1 = .ok (.invokestatic 162, 3) := by decide +kernel
theorem dX9_place_4 : decode cX9_place 4 = .ok (.ifCond .eq 19, 3) := by decide +kernel
theorem dX9_place_7 : decode cX9_place 7 = .ok (.iload_n 2, 1) := by decide +kernel
theorem dX9_place_8 : decode cX9_place 8 = .ok (.invokestatic 152, 3) := by decide +kernel
theorem dX9_place_11 : decode cX9_place 11 = .ok (.ifCond .eq 12, 3) := by decide +kernel
theorem dX9_place_14 : decode cX9_place 14 = .ok (.iload_n 3, 1) := by decide +kernel
theorem dX9_place_15 : decode cX9_place 15 = .ok (.iconst 0, 1) := by decide +kernel
theorem dX9_place_16 : decode cX9_place 16 = .ok (.iconst 1, 1) := by decide +kernel
theorem dX9_place_17 : decode cX9_place 17 = .ok (.invokestatic 98, 3) := by decide +kernel
theorem dX9_place_20 : decode cX9_place 20 = .ok (.ifCond .ne 5, 3) := by decide +kernel
theorem dX9_place_23 : decode cX9_place 23 = .ok (.iconst (-1), 1) := by decide +kernel
theorem dX9_place_24 : decode cX9_place 24 = .ok (.ireturn, 1) := by decide +kernel
theorem dX9_place_25 : decode cX9_place 25 = .ok (.aload_n 0, 1) := by decide +kernel
theorem dX9_place_26 : decode cX9_place 26 = .ok (.getfield 19, 3) := by decide +kernel
theorem dX9_place_29 : decode cX9_place 29 = .ok (.getfield 188, 3) := by decide +kernel
theorem dX9_place_32 : decode cX9_place 32 = .ok (.iload_n 1, 1) := by decide +kernel
theorem dX9_place_33 : decode cX9_place 33 = .ok (.aaload, 1) := by decide +kernel
theorem dX9_place_34 : decode cX9_place 34 = .ok (.iload_n 2, 1) := by decide +kernel
theorem dX9_place_35 : decode cX9_place 35 = .ok (.invokevirtual 192, 3) := by decide +kernel
theorem dX9_place_38 : decode cX9_place 38 = .ok (.istore 4, 2) := by decide +kernel
theorem dX9_place_40 : decode cX9_place 40 = .ok (.aload_n 0, 1) := by decide +kernel
theorem dX9_place_41 : decode cX9_place 41 = .ok (.getfield 19, 3) := by decide +kernel
theorem dX9_place_44 : decode cX9_place 44 = .ok (.getfield 188, 3) := by decide +kernel
theorem dX9_place_47 : decode cX9_place 47 = .ok (.iload_n 1, 1) := by decide +kernel
theorem dX9_place_48 : decode cX9_place 48 = .ok (.aaload, 1) := by decide +kernel
theorem dX9_place_49 : decode cX9_place 49 = .ok (.iload_n 2, 1) := by decide +kernel
theorem dX9_place_50 : decode cX9_place 50 = .ok (.invokevirtual 195, 3) := by decide +kernel
theorem dX9_place_53 : decode cX9_place 53 = .ok (.istore 5, 2) := by decide +kernel
theorem dX9_place_55 : decode cX9_place 55 = .ok (.iload 4, 2) := by decide +kernel
theorem dX9_place_57 : decode cX9_place 57 = .ok (.iload 5, 2) := by decide +kernel
theorem dX9_place_59 : decode cX9_place 59 = .ok (.invokestatic 198, 3) := by decide +kernel
theorem dX9_place_62 : decode cX9_place 62 = .ok (.istore 6, 2) := by decide +kernel
theorem dX9_place_64 : decode cX9_place 64 = .ok (.iload_n 3, 1) := by decide +kernel
theorem dX9_place_65 : decode cX9_place 65 = .ok (.ifCond .ne 11, 3) := by decide +kernel
theorem dX9_place_68 : decode cX9_place 68 = .ok (.iload 4, 2) := by decide +kernel
theorem dX9_place_70 : decode cX9_place 70 = .ok (.iload 6, 2) := by decide +kernel
theorem dX9_place_72 : decode cX9_place 72 = .ok (.idiv, 1) := by decide +kernel
theorem dX9_place_73 : decode cX9_place 73 = .ok (.goto 8, 3) := by decide +kernel
theorem dX9_place_76 : decode cX9_place 76 = .ok (.iload 5, 2) := by decide +kernel
theorem dX9_place_78 : decode cX9_place 78 = .ok (.iload 6, 2) := by decide +kernel
theorem dX9_place_80 : decode cX9_place 80 = .ok (.idiv, 1) := by decide +kernel
theorem dX9_place_81 : decode cX9_place 81 = .ok (.ireturn, 1) := by decide +kernel
set_option maxRecDepth 20000 in
theorem ggX9_nearest_X9_isArm : GoodIn wsX9_nearest wsX9_isArm := goodIn_r _ [6, 7, 8, 5, 9] (by decide +kernel) (by decide +kernel)
set_option maxRecDepth 20000 in
theorem gX9_nearest_X9_isArm : GoodIn wsX9_nearest (va_wsS RX9 162 yX9_isArm wsX9_isArm) := goodIn_app (goodIn_of _ (by decide +kernel)) ggX9_nearest_X9_isArm
set_option maxRecDepth 20000 in
theorem ggX9_nearest_X7_nearestDegree : GoodIn wsX9_nearest wsX7_nearestDegree := goodIn_r _ [14, 15, 16, 17, 18, 13, 19, 20, 21, 22, 23, 24, 25, 26, 27, 28, 29, 30, 31, 32, 33, 34, 35, 36, 37, 38, 39, 40, 41, 42, 43, 44, 45, 46, 47, 48, 49, 50, 5, 51, 52, 53, 54, 55, 73, 74, 75] (by decide +kernel) (by decide +kernel)
set_option maxRecDepth 20000 in
theorem gX9_nearest_X7_nearestDegree : GoodIn wsX9_nearest (wsV RX9 202 RX7 yX7_nearestDegree wsX7_nearestDegree) := goodIn_app (goodIn_of _ (by decide +kernel)) ggX9_nearest_X7_nearestDegree
theorem dX9_nearest_0 : decode cX9_nearest 0 = .ok (.iload_n 1, 1) := by decide +kernel
theorem dX9_nearest_1 : decode cX9_nearest 1 = .ok (.invokestatic 162, 3) := by decide +kernel
theorem dX9_nearest_4 : decode cX9_nearest 4 = .ok (.ifCond .eq 15, 3) := by decide +kernel
theorem dX9_nearest_7 : decode cX9_nearest 7 = .ok (.iload_n 2, 1) := by decide +kernel
theorem dX9_nearest_8 : decode cX9_nearest 8 = .ok (.invokestatic 162, 3) := by decide +kernel
theorem dX9_nearest_11 : decode cX9_nearest 11 = .ok (.ifCond .eq 8, 3) := by decide +kernel
theorem dX9_nearest_14 : decode cX9_nearest 14 = .ok (.iload_n 1, 1) := by decide +kernel
theorem dX9_nearest_15 : decode cX9_nearest 15 = .ok (.iload_n 2, 1) := by decide +kernel
theorem dX9_nearest_16 : decode cX9_nearest 16 = .ok (.if_icmp .lt 5, 3) := by decide +kernel
theorem dX9_nearest_19 : decode cX9_nearest 19 = .ok (.iconst (-1), 1) := by decide +kernel
theorem dX9_nearest_20 : decode cX9_nearest 20 = .ok (.ireturn, 1) := by decide +kernel
theorem dX9_nearest_21 : decode cX9_nearest 21 = .ok (.aload_n 0, 1) := by decide +kernel
theorem dX9_nearest_22 : decode cX9_nearest 22 = .ok (.getfield 19, 3) := by decide +kernel
theorem dX9_nearest_25 : decode cX9_nearest 25 = .ok (.aload_n 0, 1) := by decide +kernel
theorem dX9_nearest_26 : decode cX9_nearest 26 = .ok (.getfield 19, 3) := by decide +kernel
theorem dX9_nearest_29 : decode cX9_nearest 29 = .ok (.getfield 188, 3) := by decide +kernel
theorem dX9_nearest_32 : decode cX9_nearest 32 = .ok (.iload_n 1, 1) := by decide +kernel
theorem dX9_nearest_33 : decode cX9_nearest 33 = .ok (.aaload, 1) := by decide +kernel
theorem dX9_nearest_34 : decode cX9_nearest 34 = .ok (.aload_n 0, 1) := by decide +kernel
theorem dX9_nearest_35 : decode cX9_nearest 35 = .ok (.getfield 19, 3) := by decide +kernel
theorem dX9_nearest_38 : decode cX9_nearest 38 = .ok (.getfield 188, 3) := by decide +kernel
theorem dX9_nearest_41 : decode cX9_nearest 41 = .ok (.iload_n 2, 1) := by decide +kernel
theorem dX9_nearest_42 : decode cX9_nearest 42 = .ok (.aaload, 1) := by decide +kernel
theorem dX9_nearest_43 : decode cX9_nearest 43 = .ok (.invokevirtual 202, 3) := by decide +kernel
theorem dX9_nearest_46 : decode cX9_nearest 46 = .ok (.ireturn, 1) := by decide +kernel
set_option maxRecDepth 20000 in
theorem ggX9_stop_X9_isSection : GoodIn wsX9_stop wsX9_isSection := goodIn_r _ [6, 7, 8, 5, 9] (by decide +kernel) (by decide +kernel)
set_option maxRecDepth 20000 in
theorem gX9_stop_X9_isSection : GoodIn wsX9_stop (va_wsS RX9 94 yX9_isSection wsX9_isSection) := goodIn_app (goodIn_of _ (by decide +kernel)) ggX9_stop_X9_isSection
set_option maxRecDepth 20000 in
theorem ggX9_stop_X6_find : GoodIn wsX9_stop wsX6_find := goodIn_r _ [14, 15, 16, 37, 38, 39] (by decide +kernel) (by decide +kernel)
set_option maxRecDepth 20000 in
theorem gX9_stop_X6_find : GoodIn wsX9_stop (wsV RX9 206 RX6 yX6_find wsX6_find) := goodIn_app (goodIn_of _ (by decide +kernel)) ggX9_stop_X6_find
set_option maxRecDepth 20000 in
theorem ggX9_stop_X6_leave : GoodIn wsX9_stop wsX6_leave := goodIn_r _ [20, 15, 16, 21, 37, 38, 39] (by decide +kernel) (by decide +kernel)
set_option maxRecDepth 20000 in
theorem gX9_stop_X6_leave : GoodIn wsX9_stop (wsV RX9 209 RX6 yX6_leave wsX6_leave) := goodIn_app (goodIn_of _ (by decide +kernel)) ggX9_stop_X6_leave
theorem dX9_stop_0 : decode cX9_stop 0 = .ok (.iload_n 1, 1) := by decide +kernel
theorem dX9_stop_1 : decode cX9_stop 1 = .ok (.invokestatic 94, 3) := by decide +kernel
theorem dX9_stop_4 : decode cX9_stop 4 = .ok (.ifCond .ne 5, 3) := by decide +kernel
theorem dX9_stop_7 : decode cX9_stop 7 = .ok (.iconst (-1), 1) := by decide +kernel
theorem dX9_stop_8 : decode cX9_stop 8 = .ok (.ireturn, 1) := by decide +kernel
theorem dX9_stop_9 : decode cX9_stop 9 = .ok (.aload_n 0, 1) := by decide +kernel
theorem dX9_stop_10 : decode cX9_stop 10 = .ok (.getfield 26, 3) := by decide +kernel
theorem dX9_stop_13 : decode cX9_stop 13 = .ok (.iload_n 1, 1) := by decide +kernel
theorem dX9_stop_14 : decode cX9_stop 14 = .ok (.invokevirtual 206, 3) := by decide +kernel
theorem dX9_stop_17 : decode cX9_stop 17 = .ok (.istore_n 2, 1) := by decide +kernel
theorem dX9_stop_18 : decode cX9_stop 18 = .ok (.iload_n 2, 1) := by decide +kernel
theorem dX9_stop_19 : decode cX9_stop 19 = .ok (.iconst (-1), 1) := by decide +kernel
theorem dX9_stop_20 : decode cX9_stop 20 = .ok (.if_icmp .ne 6, 3) := by decide +kernel
theorem dX9_stop_23 : decode cX9_stop 23 = .ok (.bipush (-3), 2) := by decide +kernel
theorem dX9_stop_25 : decode cX9_stop 25 = .ok (.ireturn, 1) := by decide +kernel
theorem dX9_stop_26 : decode cX9_stop 26 = .ok (.aload_n 0, 1) := by decide +kernel
theorem dX9_stop_27 : decode cX9_stop 27 = .ok (.getfield 26, 3) := by decide +kernel
theorem dX9_stop_30 : decode cX9_stop 30 = .ok (.iload_n 2, 1) := by decide +kernel
theorem dX9_stop_31 : decode cX9_stop 31 = .ok (.invokevirtual 209, 3) := by decide +kernel
theorem dX9_stop_34 : decode cX9_stop 34 = .ok (.aload_n 0, 1) := by decide +kernel
theorem dX9_stop_35 : decode cX9_stop 35 = .ok (.getfield 26, 3) := by decide +kernel
theorem dX9_stop_38 : decode cX9_stop 38 = .ok (.getfield 212, 3) := by decide +kernel
theorem dX9_stop_41 : decode cX9_stop 41 = .ok (.ireturn, 1) := by decide +kernel
set_option maxRecDepth 20000 in
theorem ggX9_start_X9_isSection : GoodIn wsX9_start wsX9_isSection := goodIn_r _ [6, 7, 8, 5, 9] (by decide +kernel) (by decide +kernel)
set_option maxRecDepth 20000 in
theorem gX9_start_X9_isSection : GoodIn wsX9_start (va_wsS RX9 94 yX9_isSection wsX9_isSection) := goodIn_app (goodIn_of _ (by decide +kernel)) ggX9_start_X9_isSection
set_option maxRecDepth 20000 in
theorem ggX9_start_X6_find : GoodIn wsX9_start wsX6_find := goodIn_r _ [14, 15, 16, 36, 37, 38] (by decide +kernel) (by decide +kernel)
set_option maxRecDepth 20000 in
theorem gX9_start_X6_find : GoodIn wsX9_start (wsV RX9 206 RX6 yX6_find wsX6_find) := goodIn_app (goodIn_of _ (by decide +kernel)) ggX9_start_X6_find
set_option maxRecDepth 20000 in
theorem ggX9_start_X6_join : GoodIn wsX9_start wsX6_join := goodIn_r _ [20, 16, 15, 36, 37, 38] (by decide +kernel) (by decide +kernel)
set_option maxRecDepth 20000 in
theorem gX9_start_X6_join : GoodIn wsX9_start (wsV RX9 213 RX6 yX6_join wsX6_join) := goodIn_app (goodIn_of _ (by decide +kernel)) ggX9_start_X6_join
theorem dX9_start_0 : decode cX9_start 0 = .ok (.iload_n 1, 1) := by decide +kernel
theorem dX9_start_1 : decode cX9_start 1 = .ok (.invokestatic 94, 3) := by decide +kernel
theorem dX9_start_4 : decode cX9_start 4 = .ok (.ifCond .ne 5, 3) := by decide +kernel
theorem dX9_start_7 : decode cX9_start 7 = .ok (.iconst (-1), 1) := by decide +kernel
theorem dX9_start_8 : decode cX9_start 8 = .ok (.ireturn, 1) := by decide +kernel
theorem dX9_start_9 : decode cX9_start 9 = .ok (.aload_n 0, 1) := by decide +kernel
theorem dX9_start_10 : decode cX9_start 10 = .ok (.getfield 26, 3) := by decide +kernel
theorem dX9_start_13 : decode cX9_start 13 = .ok (.iload_n 1, 1) := by decide +kernel
theorem dX9_start_14 : decode cX9_start 14 = .ok (.invokevirtual 206, 3) := by decide +kernel
theorem dX9_start_17 : decode cX9_start 17 = .ok (.iconst (-1), 1) := by decide +kernel
theorem dX9_start_18 : decode cX9_start 18 = .ok (.if_icmp .eq 6, 3) := by decide +kernel
theorem dX9_start_21 : decode cX9_start 21 = .ok (.bipush (-3), 2) := by decide +kernel
theorem dX9_start_23 : decode cX9_start 23 = .ok (.ireturn, 1) := by decide +kernel
theorem dX9_start_24 : decode cX9_start 24 = .ok (.aload_n 0, 1) := by decide +kernel
theorem dX9_start_25 : decode cX9_start 25 = .ok (.getfield 26, 3) := by decide +kernel
theorem dX9_start_28 : decode cX9_start 28 = .ok (.iload_n 1, 1) := by decide +kernel
theorem dX9_start_29 : decode cX9_start 29 = .ok (.invokevirtual 213, 3) := by decide +kernel
theorem dX9_start_32 : decode cX9_start 32 = .ok (.aload_n 0, 1) := by decide +kernel
theorem dX9_start_33 : decode cX9_start 33 = .ok (.getfield 26, 3) := by decide +kernel
theorem dX9_start_36 : decode cX9_start 36 = .ok (.getfield 212, 3) := by decide +kernel
theorem dX9_start_39 : decode cX9_start 39 = .ok (.ireturn, 1) := by decide +kernel
set_option maxRecDepth 20000 in
theorem ggX9_job_X9_isSection : GoodIn wsX9_job wsX9_isSection := goodIn_r _ [5, 6, 7, 4, 8] (by decide +kernel) (by decide +kernel)
set_option maxRecDepth 20000 in
theorem gX9_job_X9_isSection : GoodIn wsX9_job (va_wsS RX9 94 yX9_isSection wsX9_isSection) := goodIn_app (goodIn_of _ (by decide +kernel)) ggX9_job_X9_isSection
set_option maxRecDepth 20000 in
theorem ggX9_job_X9_isJob : GoodIn wsX9_job wsX9_isJob := goodIn_r _ [11, 6, 7, 4, 8] (by decide +kernel) (by decide +kernel)
set_option maxRecDepth 20000 in
theorem gX9_job_X9_isJob : GoodIn wsX9_job (va_wsS RX9 216 yX9_isJob wsX9_isJob) := goodIn_app (goodIn_of _ (by decide +kernel)) ggX9_job_X9_isJob
theorem dX9_job_0 : decode cX9_job 0 = .ok (.iload_n 1, 1) := by decide +kernel
theorem dX9_job_1 : decode cX9_job 1 = .ok (.invokestatic 94, 3) := by decide +kernel
theorem dX9_job_4 : decode cX9_job 4 = .ok (.ifCond .eq 10, 3) := by decide +kernel
theorem dX9_job_7 : decode cX9_job 7 = .ok (.iload_n 2, 1) := by decide +kernel
theorem dX9_job_8 : decode cX9_job 8 = .ok (.invokestatic 216, 3) := by decide +kernel
theorem dX9_job_11 : decode cX9_job 11 = .ok (.ifCond .ne 5, 3) := by decide +kernel
theorem dX9_job_14 : decode cX9_job 14 = .ok (.iconst (-1), 1) := by decide +kernel
theorem dX9_job_15 : decode cX9_job 15 = .ok (.ireturn, 1) := by decide +kernel
theorem dX9_job_16 : decode cX9_job 16 = .ok (.aload_n 0, 1) := by decide +kernel
theorem dX9_job_17 : decode cX9_job 17 = .ok (.getfield 44, 3) := by decide +kernel
theorem dX9_job_20 : decode cX9_job 20 = .ok (.iload_n 1, 1) := by decide +kernel
theorem dX9_job_21 : decode cX9_job 21 = .ok (.iaload, 1) := by decide +kernel
theorem dX9_job_22 : decode cX9_job 22 = .ok (.istore_n 3, 1) := by decide +kernel
theorem dX9_job_23 : decode cX9_job 23 = .ok (.aload_n 0, 1) := by decide +kernel
theorem dX9_job_24 : decode cX9_job 24 = .ok (.getfield 44, 3) := by decide +kernel
theorem dX9_job_27 : decode cX9_job 27 = .ok (.iload_n 1, 1) := by decide +kernel
theorem dX9_job_28 : decode cX9_job 28 = .ok (.iload_n 2, 1) := by decide +kernel
theorem dX9_job_29 : decode cX9_job 29 = .ok (.iastore, 1) := by decide +kernel
theorem dX9_job_30 : decode cX9_job 30 = .ok (.iload_n 3, 1) := by decide +kernel
theorem dX9_job_31 : decode cX9_job 31 = .ok (.ireturn, 1) := by decide +kernel
set_option maxRecDepth 20000 in
theorem ggX9_aim_X9_isJob : GoodIn wsX9_aim wsX9_isJob := goodIn_r _ [6, 7, 8, 5, 9] (by decide +kernel) (by decide +kernel)
set_option maxRecDepth 20000 in
theorem gX9_aim_X9_isJob : GoodIn wsX9_aim (va_wsS RX9 216 yX9_isJob wsX9_isJob) := goodIn_app (goodIn_of _ (by decide +kernel)) ggX9_aim_X9_isJob
set_option maxRecDepth 20000 in
theorem ggX9_aim_X9_isBetween : GoodIn wsX9_aim wsX9_isBetween := goodIn_r _ [9] (by decide +kernel) (by decide +kernel)
set_option maxRecDepth 20000 in
theorem gX9_aim_X9_isBetween : GoodIn wsX9_aim (va_wsS RX9 98 yX9_isBetween wsX9_isBetween) := goodIn_app (goodIn_of _ (by decide +kernel)) ggX9_aim_X9_isBetween
set_option maxRecDepth 20000 in
theorem ggX9_aim_X9_isColour : GoodIn wsX9_aim wsX9_isColour := goodIn_r _ [12, 7, 8, 5, 9] (by decide +kernel) (by decide +kernel)
set_option maxRecDepth 20000 in
theorem gX9_aim_X9_isColour : GoodIn wsX9_aim (va_wsS RX9 219 yX9_isColour wsX9_isColour) := goodIn_app (goodIn_of _ (by decide +kernel)) ggX9_aim_X9_isColour
theorem dX9_aim_0 : decode cX9_aim 0 = .ok (.iload_n 1, 1) := by decide +kernel
theorem dX9_aim_1 : decode cX9_aim 1 = .ok (.invokestatic 216, 3) := by decide +kernel
theorem dX9_aim_4 : decode cX9_aim 4 = .ok (.ifCond .eq 22, 3) := by decide +kernel
theorem dX9_aim_7 : decode cX9_aim 7 = .ok (.iload_n 2, 1) := by decide +kernel
theorem dX9_aim_8 : decode cX9_aim 8 = .ok (.bipush 100, 2) := by decide +kernel
theorem dX9_aim_10 : decode cX9_aim 10 = .ok (.sipush 900, 3) := by decide +kernel
theorem dX9_aim_13 : decode cX9_aim 13 = .ok (.invokestatic 98, 3) := by decide +kernel
theorem dX9_aim_16 : decode cX9_aim 16 = .ok (.ifCond .eq 10, 3) := by decide +kernel
theorem dX9_aim_19 : decode cX9_aim 19 = .ok (.iload_n 3, 1) := by decide +kernel
theorem dX9_aim_20 : decode cX9_aim 20 = .ok (.invokestatic 219, 3) := by decide +kernel
theorem dX9_aim_23 : decode cX9_aim 23 = .ok (.ifCond .ne 5, 3) := by decide +kernel
theorem dX9_aim_26 : decode cX9_aim 26 = .ok (.iconst (-1), 1) := by decide +kernel
theorem dX9_aim_27 : decode cX9_aim 27 = .ok (.ireturn, 1) := by decide +kernel
theorem dX9_aim_28 : decode cX9_aim 28 = .ok (.aload_n 0, 1) := by decide +kernel
theorem dX9_aim_29 : decode cX9_aim 29 = .ok (.getfield 48, 3) := by decide +kernel
theorem dX9_aim_32 : decode cX9_aim 32 = .ok (.iload_n 1, 1) := by decide +kernel
theorem dX9_aim_33 : decode cX9_aim 33 = .ok (.iload_n 2, 1) := by decide +kernel
theorem dX9_aim_34 : decode cX9_aim 34 = .ok (.iastore, 1) := by decide +kernel
theorem dX9_aim_35 : decode cX9_aim 35 = .ok (.aload_n 0, 1) := by decide +kernel
theorem dX9_aim_36 : decode cX9_aim 36 = .ok (.getfield 51, 3) := by decide +kernel
theorem dX9_aim_39 : decode cX9_aim 39 = .ok (.iload_n 1, 1) := by decide +kernel
theorem dX9_aim_40 : decode cX9_aim 40 = .ok (.iload_n 3, 1) := by decide +kernel
theorem dX9_aim_41 : decode cX9_aim 41 = .ok (.iastore, 1) := by decide +kernel
theorem dX9_aim_42 : decode cX9_aim 42 = .ok (.iconst 1, 1) := by decide +kernel
theorem dX9_aim_43 : decode cX9_aim 43 = .ok (.ireturn, 1) := by decide +kernel
set_option maxRecDepth 20000 in
theorem ggX9_glass_X9_isColour : GoodIn wsX9_glass wsX9_isColour := goodIn_r _ [6, 7, 8, 5, 9] (by decide +kernel) (by decide +kernel)
set_option maxRecDepth 20000 in
theorem gX9_glass_X9_isColour : GoodIn wsX9_glass (va_wsS RX9 219 yX9_isColour wsX9_isColour) := goodIn_app (goodIn_of _ (by decide +kernel)) ggX9_glass_X9_isColour
set_option maxRecDepth 20000 in
theorem ggX9_glass_X9_isBetween : GoodIn wsX9_glass wsX9_isBetween := goodIn_r _ [9] (by decide +kernel) (by decide +kernel)
set_option maxRecDepth 20000 in
theorem gX9_glass_X9_isBetween : GoodIn wsX9_glass (va_wsS RX9 98 yX9_isBetween wsX9_isBetween) := goodIn_app (goodIn_of _ (by decide +kernel)) ggX9_glass_X9_isBetween
theorem dX9_glass_0 : decode cX9_glass 0 = .ok (.iload_n 1, 1) := by decide +kernel
theorem dX9_glass_1 : decode cX9_glass 1 = .ok (.invokestatic 219, 3) := by decide +kernel
theorem dX9_glass_4 : decode cX9_glass 4 = .ok (.ifCond .eq 13, 3) := by decide +kernel
theorem dX9_glass_7 : decode cX9_glass 7 = .ok (.iload_n 2, 1) := by decide +kernel
theorem dX9_glass_8 : decode cX9_glass 8 = .ok (.iconst 0, 1) := by decide +kernel
theorem dX9_glass_9 : decode cX9_glass 9 = .ok (.bipush 50, 2) := by decide +kernel
theorem dX9_glass_11 : decode cX9_glass 11 = .ok (.invokestatic 98, 3) := by decide +kernel
theorem dX9_glass_14 : decode cX9_glass 14 = .ok (.ifCond .ne 5, 3) := by decide +kernel
theorem dX9_glass_17 : decode cX9_glass 17 = .ok (.iconst (-1), 1) := by decide +kernel
theorem dX9_glass_18 : decode cX9_glass 18 = .ok (.ireturn, 1) := by decide +kernel
theorem dX9_glass_19 : decode cX9_glass 19 = .ok (.iload_n 1, 1) := by decide +kernel
theorem dX9_glass_20 : decode cX9_glass 20 = .ok (.aload_n 0, 1) := by decide +kernel
theorem dX9_glass_21 : decode cX9_glass 21 = .ok (.getfield 57, 3) := by decide +kernel
theorem dX9_glass_24 : decode cX9_glass 24 = .ok (.if_icmp .ne 6, 3) := by decide +kernel
theorem dX9_glass_27 : decode cX9_glass 27 = .ok (.bipush (-3), 2) := by decide +kernel
theorem dX9_glass_29 : decode cX9_glass 29 = .ok (.ireturn, 1) := by decide +kernel
theorem dX9_glass_30 : decode cX9_glass 30 = .ok (.aload_n 0, 1) := by decide +kernel
theorem dX9_glass_31 : decode cX9_glass 31 = .ok (.iload_n 1, 1) := by decide +kernel
theorem dX9_glass_32 : decode cX9_glass 32 = .ok (.putfield 57, 3) := by decide +kernel
theorem dX9_glass_35 : decode cX9_glass 35 = .ok (.aload_n 0, 1) := by decide +kernel
theorem dX9_glass_36 : decode cX9_glass 36 = .ok (.iload_n 2, 1) := by decide +kernel
theorem dX9_glass_37 : decode cX9_glass 37 = .ok (.putfield 61, 3) := by decide +kernel
theorem dX9_glass_40 : decode cX9_glass 40 = .ok (.iconst 1, 1) := by decide +kernel
theorem dX9_glass_41 : decode cX9_glass 41 = .ok (.ireturn, 1) := by decide +kernel
set_option maxRecDepth 20000 in
theorem ggX9_mould_X9_isSection : GoodIn wsX9_mould wsX9_isSection := goodIn_r _ [6, 7, 8, 5, 9] (by decide +kernel) (by decide +kernel)
set_option maxRecDepth 20000 in
theorem gX9_mould_X9_isSection : GoodIn wsX9_mould (va_wsS RX9 94 yX9_isSection wsX9_isSection) := goodIn_app (goodIn_of _ (by decide +kernel)) ggX9_mould_X9_isSection
set_option maxRecDepth 20000 in
theorem ggX9_mould_X9_isMould : GoodIn wsX9_mould wsX9_isMould := goodIn_r _ [12, 7, 8, 5, 9] (by decide +kernel) (by decide +kernel)
set_option maxRecDepth 20000 in
theorem gX9_mould_X9_isMould : GoodIn wsX9_mould (va_wsS RX9 222 yX9_isMould wsX9_isMould) := goodIn_app (goodIn_of _ (by decide +kernel)) ggX9_mould_X9_isMould
set_option maxRecDepth 20000 in
theorem ggX9_mould_X5_sectionOf : GoodIn wsX9_mould wsX5_sectionOf := goodIn_r _ [17, 18, 34, 35, 36, 37, 38, 39] (by decide +kernel) (by decide +kernel)
set_option maxRecDepth 20000 in
theorem gX9_mould_X5_sectionOf : GoodIn wsX9_mould (wsV RX9 225 RX5 yX5_sectionOf wsX5_sectionOf) := goodIn_app (goodIn_of _ (by decide +kernel)) ggX9_mould_X5_sectionOf
theorem dX9_mould_0 : decode cX9_mould 0 = .ok (.iload_n 1, 1) := by decide +kernel
theorem dX9_mould_1 : decode cX9_mould 1 = .ok (.invokestatic 94, 3) := by decide +kernel
theorem dX9_mould_4 : decode cX9_mould 4 = .ok (.ifCond .eq 10, 3) := by decide +kernel
theorem dX9_mould_7 : decode cX9_mould 7 = .ok (.iload_n 2, 1) := by decide +kernel
theorem dX9_mould_8 : decode cX9_mould 8 = .ok (.invokestatic 222, 3) := by decide +kernel
theorem dX9_mould_11 : decode cX9_mould 11 = .ok (.ifCond .ne 5, 3) := by decide +kernel
theorem dX9_mould_14 : decode cX9_mould 14 = .ok (.iconst (-1), 1) := by decide +kernel
theorem dX9_mould_15 : decode cX9_mould 15 = .ok (.ireturn, 1) := by decide +kernel
theorem dX9_mould_16 : decode cX9_mould 16 = .ok (.aload_n 0, 1) := by decide +kernel
theorem dX9_mould_17 : decode cX9_mould 17 = .ok (.getfield 33, 3) := by decide +kernel
theorem dX9_mould_20 : decode cX9_mould 20 = .ok (.iload_n 2, 1) := by decide +kernel
theorem dX9_mould_21 : decode cX9_mould 21 = .ok (.invokevirtual 225, 3) := by decide +kernel
theorem dX9_mould_24 : decode cX9_mould 24 = .ok (.iconst (-1), 1) := by decide +kernel
theorem dX9_mould_25 : decode cX9_mould 25 = .ok (.if_icmp .eq 6, 3) := by decide +kernel
theorem dX9_mould_28 : decode cX9_mould 28 = .ok (.bipush (-3), 2) := by decide +kernel
theorem dX9_mould_30 : decode cX9_mould 30 = .ok (.ireturn, 1) := by decide +kernel
theorem dX9_mould_31 : decode cX9_mould 31 = .ok (.aload_n 0, 1) := by decide +kernel
theorem dX9_mould_32 : decode cX9_mould 32 = .ok (.getfield 33, 3) := by decide +kernel
theorem dX9_mould_35 : decode cX9_mould 35 = .ok (.getfield 228, 3) := by decide +kernel
theorem dX9_mould_38 : decode cX9_mould 38 = .ok (.iload_n 1, 1) := by decide +kernel
theorem dX9_mould_39 : decode cX9_mould 39 = .ok (.iaload, 1) := by decide +kernel
theorem dX9_mould_40 : decode cX9_mould 40 = .ok (.istore_n 3, 1) := by decide +kernel
theorem dX9_mould_41 : decode cX9_mould 41 = .ok (.aload_n 0, 1) := by decide +kernel
theorem dX9_mould_42 : decode cX9_mould 42 = .ok (.getfield 33, 3) := by decide +kernel
theorem dX9_mould_45 : decode cX9_mould 45 = .ok (.getfield 228, 3) := by decide +kernel
theorem dX9_mould_48 : decode cX9_mould 48 = .ok (.iload_n 1, 1) := by decide +kernel
theorem dX9_mould_49 : decode cX9_mould 49 = .ok (.iload_n 2, 1) := by decide +kernel
theorem dX9_mould_50 : decode cX9_mould 50 = .ok (.iastore, 1) := by decide +kernel
theorem dX9_mould_51 : decode cX9_mould 51 = .ok (.iload_n 3, 1) := by decide +kernel
theorem dX9_mould_52 : decode cX9_mould 52 = .ok (.ireturn, 1) := by decide +kernel
set_option maxRecDepth 20000 in
theorem ggX9_swab_X9_isMould : GoodIn wsX9_swab wsX9_isMould := goodIn_r _ [6, 7, 8, 5, 9] (by decide +kernel) (by decide +kernel)
set_option maxRecDepth 20000 in
theorem gX9_swab_X9_isMould : GoodIn wsX9_swab (va_wsS RX9 222 yX9_isMould wsX9_isMould) := goodIn_app (goodIn_of _ (by decide +kernel)) ggX9_swab_X9_isMould
theorem dX9_swab_0 : decode cX9_swab 0 = .ok (.iload_n 1, 1) := by decide +kernel
theorem dX9_swab_1 : decode cX9_swab 1 = .ok (.invokestatic 222, 3) := by decide +kernel
theorem dX9_swab_4 : decode cX9_swab 4 = .ok (.ifCond .ne 5, 3) := by decide +kernel
theorem dX9_swab_7 : decode cX9_swab 7 = .ok (.iconst (-1), 1) := by decide +kernel
theorem dX9_swab_8 : decode cX9_swab 8 = .ok (.ireturn, 1) := by decide +kernel
theorem dX9_swab_9 : decode cX9_swab 9 = .ok (.aload_n 0, 1) := by decide +kernel
theorem dX9_swab_10 : decode cX9_swab 10 = .ok (.getfield 33, 3) := by decide +kernel
theorem dX9_swab_13 : decode cX9_swab 13 = .ok (.getfield 231, 3) := by decide +kernel
theorem dX9_swab_16 : decode cX9_swab 16 = .ok (.iload_n 1, 1) := by decide +kernel
theorem dX9_swab_17 : decode cX9_swab 17 = .ok (.iaload, 1) := by decide +kernel
theorem dX9_swab_18 : decode cX9_swab 18 = .ok (.istore_n 2, 1) := by decide +kernel
theorem dX9_swab_19 : decode cX9_swab 19 = .ok (.aload_n 0, 1) := by decide +kernel
theorem dX9_swab_20 : decode cX9_swab 20 = .ok (.getfield 33, 3) := by decide +kernel
theorem dX9_swab_23 : decode cX9_swab 23 = .ok (.getfield 231, 3) := by decide +kernel
theorem dX9_swab_26 : decode cX9_swab 26 = .ok (.iload_n 1, 1) := by decide +kernel
theorem dX9_swab_27 : decode cX9_swab 27 = .ok (.iconst 0, 1) := by decide +kernel
theorem dX9_swab_28 : decode cX9_swab 28 = .ok (.iastore, 1) := by decide +kernel
theorem dX9_swab_29 : decode cX9_swab 29 = .ok (.iload_n 2, 1) := by decide +kernel
theorem dX9_swab_30 : decode cX9_swab 30 = .ok (.ireturn, 1) := by decide +kernel
set_option maxRecDepth 20000 in
theorem ggX9_repair_X9_isMould : GoodIn wsX9_repair wsX9_isMould := goodIn_r _ [6, 7, 8, 5, 9] (by decide +kernel) (by decide +kernel)
set_option maxRecDepth 20000 in
theorem gX9_repair_X9_isMould : GoodIn wsX9_repair (va_wsS RX9 222 yX9_isMould wsX9_isMould) := goodIn_app (goodIn_of _ (by decide +kernel)) ggX9_repair_X9_isMould
set_option maxRecDepth 20000 in
theorem ggX9_repair_X5_makeNew : GoodIn wsX9_repair wsX5_makeNew := goodIn_r _ [14, 15, 16, 17, 33, 34, 35, 36, 37, 38] (by decide +kernel) (by decide +kernel)
set_option maxRecDepth 20000 in
theorem gX9_repair_X5_makeNew : GoodIn wsX9_repair (wsV RX9 237 RX5 yX5_makeNew wsX5_makeNew) := goodIn_app (goodIn_of _ (by decide +kernel)) ggX9_repair_X5_makeNew
theorem dX9_repair_0 : decode cX9_repair 0 = .ok (.iload_n 1, 1) := by decide +kernel
theorem dX9_repair_1 : decode cX9_repair 1 = .ok (.invokestatic 222, 3) := by decide +kernel
theorem dX9_repair_4 : decode cX9_repair 4 = .ok (.ifCond .ne 5, 3) := by decide +kernel
theorem dX9_repair_7 : decode cX9_repair 7 = .ok (.iconst (-1), 1) := by decide +kernel
theorem dX9_repair_8 : decode cX9_repair 8 = .ok (.ireturn, 1) := by decide +kernel
theorem dX9_repair_9 : decode cX9_repair 9 = .ok (.aload_n 0, 1) := by decide +kernel
theorem dX9_repair_10 : decode cX9_repair 10 = .ok (.getfield 33, 3) := by decide +kernel
theorem dX9_repair_13 : decode cX9_repair 13 = .ok (.getfield 234, 3) := by decide +kernel
theorem dX9_repair_16 : decode cX9_repair 16 = .ok (.iload_n 1, 1) := by decide +kernel
theorem dX9_repair_17 : decode cX9_repair 17 = .ok (.iaload, 1) := by decide +kernel
theorem dX9_repair_18 : decode cX9_repair 18 = .ok (.istore_n 2, 1) := by decide +kernel
theorem dX9_repair_19 : decode cX9_repair 19 = .ok (.aload_n 0, 1) := by decide +kernel
theorem dX9_repair_20 : decode cX9_repair 20 = .ok (.getfield 33, 3) := by decide +kernel
theorem dX9_repair_23 : decode cX9_repair 23 = .ok (.iload_n 1, 1) := by decide +kernel
theorem dX9_repair_24 : decode cX9_repair 24 = .ok (.invokevirtual 237, 3) := by decide +kernel
theorem dX9_repair_27 : decode cX9_repair 27 = .ok (.iload_n 2, 1) := by decide +kernel
theorem dX9_repair_28 : decode cX9_repair 28 = .ok (.ireturn, 1) := by decide +kernel
set_option maxRecDepth 20000 in
theorem ggX9_pull_X9_isMould : GoodIn wsX9_pull wsX9_isMould := goodIn_r _ [6, 7, 8, 5, 9] (by decide +kernel) (by decide +kernel)
set_option maxRecDepth 20000 in
theorem gX9_pull_X9_isMould : GoodIn wsX9_pull (va_wsS RX9 222 yX9_isMould wsX9_isMould) := goodIn_app (goodIn_of _ (by decide +kernel)) ggX9_pull_X9_isMould
set_option maxRecDepth 20000 in
theorem ggX9_pull_X9_asNumber : GoodIn wsX9_pull wsX9_asNumber := goodIn_r _ [12] (by decide +kernel) (by decide +kernel)
set_option maxRecDepth 20000 in
theorem gX9_pull_X9_asNumber : GoodIn wsX9_pull (va_wsS RX9 158 yX9_asNumber wsX9_asNumber) := goodIn_app (goodIn_of _ (by decide +kernel)) ggX9_pull_X9_asNumber
theorem dX9_pull_0 : decode cX9_pull 0 = .ok (.iload_n 1, 1) := by decide +kernel
theorem dX9_pull_1 : decode cX9_pull 1 = .ok (.invokestatic 222, 3) := by decide +kernel
theorem dX9_pull_4 : decode cX9_pull 4 = .ok (.ifCond .ne 5, 3) := by decide +kernel
theorem dX9_pull_7 : decode cX9_pull 7 = .ok (.iconst (-1), 1) := by decide +kernel
theorem dX9_pull_8 : decode cX9_pull 8 = .ok (.ireturn, 1) := by decide +kernel
theorem dX9_pull_9 : decode cX9_pull 9 = .ok (.aload_n 0, 1) := by decide +kernel
theorem dX9_pull_10 : decode cX9_pull 10 = .ok (.getfield 33, 3) := by decide +kernel
theorem dX9_pull_13 : decode cX9_pull 13 = .ok (.getfield 240, 3) := by decide +kernel
theorem dX9_pull_16 : decode cX9_pull 16 = .ok (.iload_n 1, 1) := by decide +kernel
theorem dX9_pull_17 : decode cX9_pull 17 = .ok (.baload, 1) := by decide +kernel
theorem dX9_pull_18 : decode cX9_pull 18 = .ok (.iload_n 2, 1) := by decide +kernel
theorem dX9_pull_19 : decode cX9_pull 19 = .ok (.if_icmp .eq 7, 3) := by decide +kernel
theorem dX9_pull_22 : decode cX9_pull 22 = .ok (.iconst 1, 1) := by decide +kernel
theorem dX9_pull_23 : decode cX9_pull 23 = .ok (.goto 4, 3) := by decide +kernel
theorem dX9_pull_26 : decode cX9_pull 26 = .ok (.iconst 0, 1) := by decide +kernel
theorem dX9_pull_27 : decode cX9_pull 27 = .ok (.istore_n 3, 1) := by decide +kernel
theorem dX9_pull_28 : decode cX9_pull 28 = .ok (.aload_n 0, 1) := by decide +kernel
theorem dX9_pull_29 : decode cX9_pull 29 = .ok (.getfield 33, 3) := by decide +kernel
theorem dX9_pull_32 : decode cX9_pull 32 = .ok (.getfield 240, 3) := by decide +kernel
theorem dX9_pull_35 : decode cX9_pull 35 = .ok (.iload_n 1, 1) := by decide +kernel
theorem dX9_pull_36 : decode cX9_pull 36 = .ok (.iload_n 2, 1) := by decide +kernel
theorem dX9_pull_37 : decode cX9_pull 37 = .ok (.bastore, 1) := by decide +kernel
theorem dX9_pull_38 : decode cX9_pull 38 = .ok (.iload_n 3, 1) := by decide +kernel
theorem dX9_pull_39 : decode cX9_pull 39 = .ok (.invokestatic 158, 3) := by decide +kernel
theorem dX9_pull_42 : decode cX9_pull 42 = .ok (.ireturn, 1) := by decide +kernel
set_option maxRecDepth 20000 in
theorem ggX9_rule_X9_isBetween : GoodIn wsX9_rule wsX9_isBetween := goodIn_r _ [6] (by decide +kernel) (by decide +kernel)
set_option maxRecDepth 20000 in
theorem gX9_rule_X9_isBetween : GoodIn wsX9_rule (va_wsS RX9 98 yX9_isBetween wsX9_isBetween) := goodIn_app (goodIn_of _ (by decide +kernel)) ggX9_rule_X9_isBetween
theorem dX9_rule_0 : decode cX9_rule 0 = .ok (.iload_n 1, 1) := by decide +kernel
theorem dX9_rule_1 : decode cX9_rule 1 = .ok (.ifCond .ne 28, 3) := by decide +kernel
theorem dX9_rule_4 : decode cX9_rule 4 = .ok (.iload_n 2, 1) := by decide +kernel
theorem dX9_rule_5 : decode cX9_rule 5 = .ok (.sipush (-200), 3) := by decide +kernel
theorem dX9_rule_8 : decode cX9_rule 8 = .ok (.sipush 200, 3) := by decide +kernel
theorem dX9_rule_11 : decode cX9_rule 11 = .ok (.invokestatic 98, 3) := by decide +kernel
theorem dX9_rule_14 : decode cX9_rule 14 = .ok (.ifCond .eq 15, 3) := by decide +kernel
theorem dX9_rule_17 : decode cX9_rule 17 = .ok (.aload_n 0, 1) := by decide +kernel
theorem dX9_rule_18 : decode cX9_rule 18 = .ok (.getfield 67, 3) := by decide +kernel
theorem dX9_rule_21 : decode cX9_rule 21 = .ok (.istore_n 3, 1) := by decide +kernel
theorem dX9_rule_22 : decode cX9_rule 22 = .ok (.aload_n 0, 1) := by decide +kernel
theorem dX9_rule_23 : decode cX9_rule 23 = .ok (.iload_n 2, 1) := by decide +kernel
theorem dX9_rule_24 : decode cX9_rule 24 = .ok (.putfield 67, 3) := by decide +kernel
theorem dX9_rule_27 : decode cX9_rule 27 = .ok (.iload_n 3, 1) := by decide +kernel
theorem dX9_rule_28 : decode cX9_rule 28 = .ok (.ireturn, 1) := by decide +kernel
theorem dX9_rule_29 : decode cX9_rule 29 = .ok (.iload_n 1, 1) := by decide +kernel
theorem dX9_rule_30 : decode cX9_rule 30 = .ok (.iconst 1, 1) := by decide +kernel
theorem dX9_rule_31 : decode cX9_rule 31 = .ok (.if_icmp .ne 26, 3) := by decide +kernel
theorem dX9_rule_34 : decode cX9_rule 34 = .ok (.iload_n 2, 1) := by decide +kernel
theorem dX9_rule_35 : decode cX9_rule 35 = .ok (.iconst 1, 1) := by decide +kernel
theorem dX9_rule_36 : decode cX9_rule 36 = .ok (.sipush 1000, 3) := by decide +kernel
theorem dX9_rule_39 : decode cX9_rule 39 = .ok (.invokestatic 98, 3) := by decide +kernel
theorem dX9_rule_42 : decode cX9_rule 42 = .ok (.ifCond .eq 15, 3) := by decide +kernel
theorem dX9_rule_45 : decode cX9_rule 45 = .ok (.aload_n 0, 1) := by decide +kernel
theorem dX9_rule_46 : decode cX9_rule 46 = .ok (.getfield 70, 3) := by decide +kernel
theorem dX9_rule_49 : decode cX9_rule 49 = .ok (.istore_n 3, 1) := by decide +kernel
theorem dX9_rule_50 : decode cX9_rule 50 = .ok (.aload_n 0, 1) := by decide +kernel
theorem dX9_rule_51 : decode cX9_rule 51 = .ok (.iload_n 2, 1) := by decide +kernel
theorem dX9_rule_52 : decode cX9_rule 52 = .ok (.putfield 70, 3) := by decide +kernel
theorem dX9_rule_55 : decode cX9_rule 55 = .ok (.iload_n 3, 1) := by decide +kernel
theorem dX9_rule_56 : decode cX9_rule 56 = .ok (.ireturn, 1) := by decide +kernel
theorem dX9_rule_57 : decode cX9_rule 57 = .ok (.sipush (-1000), 3) := by decide +kernel
theorem dX9_rule_60 : decode cX9_rule 60 = .ok (.ireturn, 1) := by decide +kernel
set_option maxRecDepth 20000 in
theorem ggX9_book_X9_isMould : GoodIn wsX9_book wsX9_isMould := goodIn_r _ [10, 11, 12, 9, 13] (by decide +kernel) (by decide +kernel)
set_option maxRecDepth 20000 in
theorem gX9_book_X9_isMould : GoodIn wsX9_book (va_wsS RX9 222 yX9_isMould wsX9_isMould) := goodIn_app (goodIn_of _ (by decide +kernel)) ggX9_book_X9_isMould
set_option maxRecDepth 20000 in
theorem ggX9_book_X9_asNumber : GoodIn wsX9_book wsX9_asNumber := goodIn_r _ [16] (by decide +kernel) (by decide +kernel)
set_option maxRecDepth 20000 in
theorem gX9_book_X9_asNumber : GoodIn wsX9_book (va_wsS RX9 158 yX9_asNumber wsX9_asNumber) := goodIn_app (goodIn_of _ (by decide +kernel)) ggX9_book_X9_asNumber
set_option maxRecDepth 20000 in
theorem ggX9_book_X5_sectionOf : GoodIn wsX9_book wsX5_sectionOf := goodIn_r _ [21, 22, 38, 39, 40, 41, 42, 43] (by decide +kernel) (by decide +kernel)
set_option maxRecDepth 20000 in
theorem gX9_book_X5_sectionOf : GoodIn wsX9_book (wsV RX9 225 RX5 yX5_sectionOf wsX5_sectionOf) := goodIn_app (goodIn_of _ (by decide +kernel)) ggX9_book_X5_sectionOf
theorem dX9_book_0 : decode cX9_book 0 = .ok (.iload_n 1, 1) := by decide +kernel
theorem dX9_book_1 : decode cX9_book 1 = .ok (.invokestatic 222, 3) := by decide +kernel
theorem dX9_book_4 : decode cX9_book 4 = .ok (.ifCond .ne 5, 3) := by decide +kernel
theorem dX9_book_7 : decode cX9_book 7 = .ok (.iconst (-1), 1) := by decide +kernel
theorem dX9_book_8 : decode cX9_book 8 = .ok (.ireturn, 1) := by decide +kernel
theorem dX9_book_9 : decode cX9_book 9 = .ok (.iload_n 2, 1) := by decide +kernel
theorem dX9_book_10 : decode cX9_book 10 = .ok (.tableswitch 100 0 5 #[38, 48, 58, 71, 81, 91], 38) := by decide +kernel
theorem dX9_book_48 : decode cX9_book 48 = .ok (.aload_n 0, 1) := by decide +kernel
theorem dX9_book_49 : decode cX9_book 49 = .ok (.getfield 33, 3) := by decide +kernel
theorem dX9_book_52 : decode cX9_book 52 = .ok (.getfield 234, 3) := by decide +kernel
theorem dX9_book_55 : decode cX9_book 55 = .ok (.iload_n 1, 1) := by decide +kernel
theorem dX9_book_56 : decode cX9_book 56 = .ok (.iaload, 1) := by decide +kernel
theorem dX9_book_57 : decode cX9_book 57 = .ok (.ireturn, 1) := by decide +kernel
theorem dX9_book_58 : decode cX9_book 58 = .ok (.aload_n 0, 1) := by decide +kernel
theorem dX9_book_59 : decode cX9_book 59 = .ok (.getfield 33, 3) := by decide +kernel
theorem dX9_book_62 : decode cX9_book 62 = .ok (.getfield 231, 3) := by decide +kernel
theorem dX9_book_65 : decode cX9_book 65 = .ok (.iload_n 1, 1) := by decide +kernel
theorem dX9_book_66 : decode cX9_book 66 = .ok (.iaload, 1) := by decide +kernel
theorem dX9_book_67 : decode cX9_book 67 = .ok (.ireturn, 1) := by decide +kernel
theorem dX9_book_68 : decode cX9_book 68 = .ok (.aload_n 0, 1) := by decide +kernel
theorem dX9_book_69 : decode cX9_book 69 = .ok (.getfield 33, 3) := by decide +kernel
theorem dX9_book_72 : decode cX9_book 72 = .ok (.getfield 240, 3) := by decide +kernel
theorem dX9_book_75 : decode cX9_book 75 = .ok (.iload_n 1, 1) := by decide +kernel
theorem dX9_book_76 : decode cX9_book 76 = .ok (.baload, 1) := by decide +kernel
theorem dX9_book_77 : decode cX9_book 77 = .ok (.invokestatic 158, 3) := by decide +kernel
theorem dX9_book_80 : decode cX9_book 80 = .ok (.ireturn, 1) := by decide +kernel
theorem dX9_book_81 : decode cX9_book 81 = .ok (.aload_n 0, 1) := by decide +kernel
theorem dX9_book_82 : decode cX9_book 82 = .ok (.getfield 33, 3) := by decide +kernel
theorem dX9_book_85 : decode cX9_book 85 = .ok (.getfield 244, 3) := by decide +kernel
theorem dX9_book_88 : decode cX9_book 88 = .ok (.iload_n 1, 1) := by decide +kernel
theorem dX9_book_89 : decode cX9_book 89 = .ok (.iaload, 1) := by decide +kernel
theorem dX9_book_90 : decode cX9_book 90 = .ok (.ireturn, 1) := by decide +kernel
theorem dX9_book_91 : decode cX9_book 91 = .ok (.aload_n 0, 1) := by decide +kernel
theorem dX9_book_92 : decode cX9_book 92 = .ok (.getfield 33, 3) := by decide +kernel
theorem dX9_book_95 : decode cX9_book 95 = .ok (.getfield 247, 3) := by decide +kernel
theorem dX9_book_98 : decode cX9_book 98 = .ok (.iload_n 1, 1) := by decide +kernel
theorem dX9_book_99 : decode cX9_book 99 = .ok (.iaload, 1) := by decide +kernel
theorem dX9_book_100 : decode cX9_book 100 = .ok (.ireturn, 1) := by decide +kernel
theorem dX9_book_101 : decode cX9_book 101 = .ok (.aload_n 0, 1) := by decide +kernel
theorem dX9_book_102 : decode cX9_book 102 = .ok (.getfield 33, 3) := by decide +kernel
theorem dX9_book_105 : decode cX9_book 105 = .ok (.iload_n 1, 1) := by decide +kernel
theorem dX9_book_106 : decode cX9_book 106 = .ok (.invokevirtual 225, 3) := by decide +kernel
theorem dX9_book_109 : decode cX9_book 109 = .ok (.ireturn, 1) := by decide +kernel
theorem dX9_book_110 : decode cX9_book 110 = .ok (.iconst (-1), 1) := by decide +kernel
theorem dX9_book_111 : decode cX9_book 111 = .ok (.ireturn, 1) := by decide +kernel
set_option maxRecDepth 20000 in
theorem ggX9_cut_X9_isBetween : GoodIn wsX9_cut wsX9_isBetween := goodIn_r _ [8] (by decide +kernel) (by decide +kernel)
set_option maxRecDepth 20000 in
theorem gX9_cut_X9_isBetween : GoodIn wsX9_cut (va_wsS RX9 98 yX9_isBetween wsX9_isBetween) := goodIn_app (goodIn_of _ (by decide +kernel)) ggX9_cut_X9_isBetween
set_option maxRecDepth 20000 in
theorem ggX9_cut_X9_takeOffEldest : GoodIn wsX9_cut wsX9_takeOffEldest := goodIn_r _ [12, 3, 13, 14, 15, 16, 17, 18, 19, 20, 21, 22, 23, 24, 25, 26, 27, 28, 29, 30, 31, 32, 33, 34, 35, 36, 37, 7, 38, 39, 40, 41, 42, 43, 44, 45, 46, 47, 48, 49, 50, 92, 93, 94, 95, 96, 97, 98, 99, 100, 101, 102, 103, 104, 105, 106, 113, 114, 115, 116, 117, 118, 119, 110, 111, 112, 120, 121, 122, 123, 124, 125] (by decide +kernel) (by decide +kernel)
set_option maxRecDepth 20000 in
theorem gX9_cut_X9_takeOffEldest : GoodIn wsX9_cut (wsV RX9 251 RX9 yX9_takeOffEldest wsX9_takeOffEldest) := goodIn_app (goodIn_of _ (by decide +kernel)) ggX9_cut_X9_takeOffEldest
set_option maxRecDepth 20000 in
theorem ggX9_cut_X9_makeBottle : GoodIn wsX9_cut wsX9_makeBottle := goodIn_r _ [54, 1, 14, 55, 56, 57, 58, 3, 59, 16, 60, 15, 61, 62, 18, 17, 63, 19, 39, 64, 65, 66, 67, 68, 69, 70, 71, 72, 73, 74, 75, 76, 77, 78, 79, 30, 80, 34, 81, 82, 83, 84, 32, 33, 85, 86, 87, 7, 88, 89, 90, 91, 92, 93, 94, 95, 96, 97, 98, 99, 100, 101, 102, 103, 104, 105, 106, 120, 121, 122, 123, 124, 125, 113, 114, 115, 116, 117, 118, 119, 107, 108, 109, 110, 111, 112] (by decide +kernel) (by decide +kernel)
set_option maxRecDepth 20000 in
theorem gX9_cut_X9_makeBottle : GoodIn wsX9_cut (wsV RX9 254 RX9 yX9_makeBottle wsX9_makeBottle) := goodIn_app (goodIn_of _ (by decide +kernel)) ggX9_cut_X9_makeBottle
theorem dX9_cut_0 : decode cX9_cut 0 = .ok (.iload_n 1, 1) := by decide +kernel
theorem dX9_cut_1 : decode cX9_cut 1 = .ok (.iconst 1, 1) := by decide +kernel
theorem dX9_cut_2 : decode cX9_cut 2 = .ok (.bipush 100, 2) := by decide +kernel
theorem dX9_cut_4 : decode cX9_cut 4 = .ok (.invokestatic 98, 3) := by decide +kernel
theorem dX9_cut_7 : decode cX9_cut 7 = .ok (.ifCond .ne 5, 3) := by decide +kernel
theorem dX9_cut_10 : decode cX9_cut 10 = .ok (.iconst (-1), 1) := by decide +kernel
theorem dX9_cut_11 : decode cX9_cut 11 = .ok (.ireturn, 1) := by decide +kernel
theorem dX9_cut_12 : decode cX9_cut 12 = .ok (.aload_n 0, 1) := by decide +kernel
theorem dX9_cut_13 : decode cX9_cut 13 = .ok (.getfield 26, 3) := by decide +kernel
theorem dX9_cut_16 : decode cX9_cut 16 = .ok (.getfield 212, 3) := by decide +kernel
theorem dX9_cut_19 : decode cX9_cut 19 = .ok (.ifCond .ne 6, 3) := by decide +kernel
theorem dX9_cut_22 : decode cX9_cut 22 = .ok (.bipush (-4), 2) := by decide +kernel
theorem dX9_cut_24 : decode cX9_cut 24 = .ok (.ireturn, 1) := by decide +kernel
theorem dX9_cut_25 : decode cX9_cut 25 = .ok (.iconst 0, 1) := by decide +kernel
theorem dX9_cut_26 : decode cX9_cut 26 = .ok (.istore_n 2, 1) := by decide +kernel
theorem dX9_cut_27 : decode cX9_cut 27 = .ok (.iconst 0, 1) := by decide +kernel
theorem dX9_cut_28 : decode cX9_cut 28 = .ok (.istore_n 3, 1) := by decide +kernel
theorem dX9_cut_29 : decode cX9_cut 29 = .ok (.iload_n 3, 1) := by decide +kernel
theorem dX9_cut_30 : decode cX9_cut 30 = .ok (.iload_n 1, 1) := by decide +kernel
theorem dX9_cut_31 : decode cX9_cut 31 = .ok (.if_icmp .ge 32, 3) := by decide +kernel
theorem dX9_cut_34 : decode cX9_cut 34 = .ok (.aload_n 0, 1) := by decide +kernel
theorem dX9_cut_35 : decode cX9_cut 35 = .ok (.getfield 40, 3) := by decide +kernel
theorem dX9_cut_38 : decode cX9_cut 38 = .ok (.getfield 250, 3) := by decide +kernel
theorem dX9_cut_41 : decode cX9_cut 41 = .ok (.bipush 12, 2) := by decide +kernel
theorem dX9_cut_43 : decode cX9_cut 43 = .ok (.if_icmp .ne 10, 3) := by decide +kernel
theorem dX9_cut_46 : decode cX9_cut 46 = .ok (.aload_n 0, 1) := by decide +kernel
theorem dX9_cut_47 : decode cX9_cut 47 = .ok (.invokevirtual 251, 3) := by decide +kernel
theorem dX9_cut_50 : decode cX9_cut 50 = .ok (.iinc 2 1, 3) := by decide +kernel
theorem dX9_cut_53 : decode cX9_cut 53 = .ok (.aload_n 0, 1) := by decide +kernel
theorem dX9_cut_54 : decode cX9_cut 54 = .ok (.invokevirtual 254, 3) := by decide +kernel
theorem dX9_cut_57 : decode cX9_cut 57 = .ok (.iinc 3 1, 3) := by decide +kernel
theorem dX9_cut_60 : decode cX9_cut 60 = .ok (.goto (-31), 3) := by decide +kernel
theorem dX9_cut_63 : decode cX9_cut 63 = .ok (.iload_n 2, 1) := by decide +kernel
theorem dX9_cut_64 : decode cX9_cut 64 = .ok (.ireturn, 1) := by decide +kernel
set_option maxRecDepth 20000 in
theorem ggX9_drain_X9_takeOffEldest : GoodIn wsX9_drain wsX9_takeOffEldest := goodIn_r _ [7, 1, 8, 9, 10, 11, 12, 13, 14, 15, 16, 17, 18, 19, 20, 21, 22, 23, 24, 25, 26, 27, 28, 29, 30, 31, 32, 6, 33, 34, 35, 36, 37, 38, 39, 40, 41, 42, 43, 44, 45, 46, 47, 48, 49, 50, 51, 52, 53, 54, 55, 56, 57, 58, 59, 60, 64, 65, 66, 67, 68, 69, 70, 61, 62, 63, 71, 72, 73, 74, 75, 76] (by decide +kernel) (by decide +kernel)
set_option maxRecDepth 20000 in
theorem gX9_drain_X9_takeOffEldest : GoodIn wsX9_drain (wsV RX9 251 RX9 yX9_takeOffEldest wsX9_takeOffEldest) := goodIn_app (goodIn_of _ (by decide +kernel)) ggX9_drain_X9_takeOffEldest
theorem dX9_drain_0 : decode cX9_drain 0 = .ok (.aload_n 0, 1) := by decide +kernel
theorem dX9_drain_1 : decode cX9_drain 1 = .ok (.getfield 40, 3) := by decide +kernel
theorem dX9_drain_4 : decode cX9_drain 4 = .ok (.getfield 250, 3) := by decide +kernel
theorem dX9_drain_7 : decode cX9_drain 7 = .ok (.istore_n 1, 1) := by decide +kernel
theorem dX9_drain_8 : decode cX9_drain 8 = .ok (.iconst 0, 1) := by decide +kernel
theorem dX9_drain_9 : decode cX9_drain 9 = .ok (.istore_n 2, 1) := by decide +kernel
theorem dX9_drain_10 : decode cX9_drain 10 = .ok (.iload_n 2, 1) := by decide +kernel
theorem dX9_drain_11 : decode cX9_drain 11 = .ok (.iload_n 1, 1) := by decide +kernel
theorem dX9_drain_12 : decode cX9_drain 12 = .ok (.if_icmp .ge 13, 3) := by decide +kernel
theorem dX9_drain_15 : decode cX9_drain 15 = .ok (.aload_n 0, 1) := by decide +kernel
theorem dX9_drain_16 : decode cX9_drain 16 = .ok (.invokevirtual 251, 3) := by decide +kernel
theorem dX9_drain_19 : decode cX9_drain 19 = .ok (.iinc 2 1, 3) := by decide +kernel
theorem dX9_drain_22 : decode cX9_drain 22 = .ok (.goto (-12), 3) := by decide +kernel
theorem dX9_drain_25 : decode cX9_drain 25 = .ok (.iload_n 1, 1) := by decide +kernel
