set_option maxRecDepth 20000 in
theorem ggX0_init_X1_init : GoodIn wsX0_init wsX1_init := goodIn_r _ [11, 12, 2, 3, 13, 14, 15, 16, 17, 18, 19, 23, 24, 25, 26, 27, 28, 29] (by decide +kernel) (by decide +kernel)
set_option maxRecDepth 20000 in
theorem gX0_init_X1_init_n24 : GoodIn wsX0_init (wsX1_init) := ggX0_init_X1_init
theorem dX0_init_0 : decode cX0_init 0 = .ok (.aload_n 0, 1) := by decide +kernel
theorem dX0_init_1 : decode cX0_init 1 = .ok (.invokespecial 3, 3) := by decide +kernel
theorem dX0_init_4 : decode cX0_init 4 = .ok (.aload_n 0, 1) := by decide +kernel
theorem dX0_init_5 : decode cX0_init 5 = .ok (.bipush 12, 2) := by decide +kernel
theorem dX0_init_7 : decode cX0_init 7 = .ok (.anewarray 9, 3) := by decide +kernel
theorem dX0_init_10 : decode cX0_init 10 = .ok (.putfield 11, 3) := by decide +kernel
theorem dX0_init_13 : decode cX0_init 13 = .ok (.aload_n 0, 1) := by decide +kernel
theorem dX0_init_14 : decode cX0_init 14 = .ok (.iconst 0, 1) := by decide +kernel
theorem dX0_init_15 : decode cX0_init 15 = .ok (.putfield 17, 3) := by decide +kernel
theorem dX0_init_18 : decode cX0_init 18 = .ok (.aload_n 0, 1) := by decide +kernel
theorem dX0_init_19 : decode cX0_init 19 = .ok (.iconst 0, 1) := by decide +kernel
theorem dX0_init_20 : decode cX0_init 20 = .ok (.putfield 21, 3) := by decide +kernel
theorem dX0_init_23 : decode cX0_init 23 = .ok (.iconst 0, 1) := by decide +kernel
theorem dX0_init_24 : decode cX0_init 24 = .ok (.istore_n 1, 1) := by decide +kernel
theorem dX0_init_25 : decode cX0_init 25 = .ok (.iload_n 1, 1) := by decide +kernel
theorem dX0_init_26 : decode cX0_init 26 = .ok (.bipush 12, 2) := by decide +kernel
theorem dX0_init_28 : decode cX0_init 28 = .ok (.if_icmp .ge 22, 3) := by decide +kernel
theorem dX0_init_31 : decode cX0_init 31 = .ok (.aload_n 0, 1) := by decide +kernel
theorem dX0_init_32 : decode cX0_init 32 = .ok (.getfield 11, 3) := by decide +kernel
theorem dX0_init_35 : decode cX0_init 35 = .ok (.iload_n 1, 1) := by decide +kernel
theorem dX0_init_36 : decode cX0_init 36 = .ok (.new 9, 3) := by decide +kernel
theorem dX0_init_39 : decode cX0_init 39 = .ok (.dup, 1) := by decide +kernel
theorem dX0_init_40 : decode cX0_init 40 = .ok (.invokespecial 24, 3) := by decide +kernel
theorem dX0_init_43 : decode cX0_init 43 = .ok (.aastore, 1) := by decide +kernel
theorem dX0_init_44 : decode cX0_init 44 = .ok (.iinc 1 1, 3) := by decide +kernel
theorem dX0_init_47 : decode cX0_init 47 = .ok (.goto (-22), 3) := by decide +kernel
theorem dX0_init_50 : decode cX0_init 50 = .ok (.return_, 1) := by decide +kernel
theorem dX0_fromEldest_0 : decode cX0_fromEldest 0 = .ok (.aload_n 0, 1) := by decide +kernel
theorem dX0_fromEldest_1 : decode cX0_fromEldest 1 = .ok (.getfield 11, 3) := by decide +kernel
theorem dX0_fromEldest_4 : decode cX0_fromEldest 4 = .ok (.aload_n 0, 1) := by decide +kernel
theorem dX0_fromEldest_5 : decode cX0_fromEldest 5 = .ok (.getfield 17, 3) := by decide +kernel
theorem dX0_fromEldest_8 : decode cX0_fromEldest 8 = .ok (.iload_n 1, 1) := by decide +kernel
theorem dX0_fromEldest_9 : decode cX0_fromEldest 9 = .ok (.iadd, 1) := by decide +kernel
theorem dX0_fromEldest_10 : decode cX0_fromEldest 10 = .ok (.bipush 12, 2) := by decide +kernel
theorem dX0_fromEldest_12 : decode cX0_fromEldest 12 = .ok (.irem, 1) := by decide +kernel
theorem dX0_fromEldest_13 : decode cX0_fromEldest 13 = .ok (.aaload, 1) := by decide +kernel
theorem dX0_fromEldest_14 : decode cX0_fromEldest 14 = .ok (.areturn, 1) := by decide +kernel
set_option maxRecDepth 20000 in
theorem ggX0_putLast_X0_fromEldest : GoodIn wsX0_putLast wsX0_fromEldest := goodIn_r _ [6, 7, 8, 9, 10, 11] (by decide +kernel) (by decide +kernel)
set_option maxRecDepth 20000 in
theorem gX0_putLast_X0_fromEldest : GoodIn wsX0_putLast (wsV RX0 25 RX0 yX0_fromEldest wsX0_fromEldest) := goodIn_app (goodIn_of _ (by decide +kernel)) ggX0_putLast_X0_fromEldest
theorem dX0_putLast_0 : decode cX0_putLast 0 = .ok (.aload_n 0, 1) := by decide +kernel
theorem dX0_putLast_1 : decode cX0_putLast 1 = .ok (.aload_n 0, 1) := by decide +kernel
theorem dX0_putLast_2 : decode cX0_putLast 2 = .ok (.getfield 21, 3) := by decide +kernel
theorem dX0_putLast_5 : decode cX0_putLast 5 = .ok (.invokevirtual 25, 3) := by decide +kernel
theorem dX0_putLast_8 : decode cX0_putLast 8 = .ok (.astore_n 1, 1) := by decide +kernel
theorem dX0_putLast_9 : decode cX0_putLast 9 = .ok (.aload_n 0, 1) := by decide +kernel
theorem dX0_putLast_10 : decode cX0_putLast 10 = .ok (.dup, 1) := by decide +kernel
theorem dX0_putLast_11 : decode cX0_putLast 11 = .ok (.getfield 21, 3) := by decide +kernel
theorem dX0_putLast_14 : decode cX0_putLast 14 = .ok (.iconst 1, 1) := by decide +kernel
theorem dX0_putLast_15 : decode cX0_putLast 15 = .ok (.iadd, 1) := by decide +kernel
theorem dX0_putLast_16 : decode cX0_putLast 16 = .ok (.putfield 21, 3) := by decide +kernel
theorem dX0_putLast_19 : decode cX0_putLast 19 = .ok (.aload_n 1, 1) := by decide +kernel
theorem dX0_putLast_20 : decode cX0_putLast 20 = .ok (.areturn, 1) := by decide +kernel
theorem dX0_takeEldest_0 : decode cX0_takeEldest 0 = .ok (.aload_n 0, 1) := by decide +kernel
theorem dX0_takeEldest_1 : decode cX0_takeEldest 1 = .ok (.getfield 11, 3) := by decide +kernel
theorem dX0_takeEldest_4 : decode cX0_takeEldest 4 = .ok (.aload_n 0, 1) := by decide +kernel
theorem dX0_takeEldest_5 : decode cX0_takeEldest 5 = .ok (.getfield 17, 3) := by decide +kernel
theorem dX0_takeEldest_8 : decode cX0_takeEldest 8 = .ok (.aaload, 1) := by decide +kernel
theorem dX0_takeEldest_9 : decode cX0_takeEldest 9 = .ok (.astore_n 1, 1) := by decide +kernel
theorem dX0_takeEldest_10 : decode cX0_takeEldest 10 = .ok (.aload_n 0, 1) := by decide +kernel
theorem dX0_takeEldest_11 : decode cX0_takeEldest 11 = .ok (.aload_n 0, 1) := by decide +kernel
theorem dX0_takeEldest_12 : decode cX0_takeEldest 12 = .ok (.getfield 17, 3) := by decide +kernel
theorem dX0_takeEldest_15 : decode cX0_takeEldest 15 = .ok (.iconst 1, 1) := by decide +kernel
theorem dX0_takeEldest_16 : decode cX0_takeEldest 16 = .ok (.iadd, 1) := by decide +kernel
theorem dX0_takeEldest_17 : decode cX0_takeEldest 17 = .ok (.bipush 12, 2) := by decide +kernel
theorem dX0_takeEldest_19 : decode cX0_takeEldest 19 = .ok (.irem, 1) := by decide +kernel
theorem dX0_takeEldest_20 : decode cX0_takeEldest 20 = .ok (.putfield 17, 3) := by decide +kernel
theorem dX0_takeEldest_23 : decode cX0_takeEldest 23 = .ok (.aload_n 0, 1) := by decide +kernel
theorem dX0_takeEldest_24 : decode cX0_takeEldest 24 = .ok (.dup, 1) := by decide +kernel
theorem dX0_takeEldest_25 : decode cX0_takeEldest 25 = .ok (.getfield 21, 3) := by decide +kernel
theorem dX0_takeEldest_28 : decode cX0_takeEldest 28 = .ok (.iconst 1, 1) := by decide +kernel
theorem dX0_takeEldest_29 : decode cX0_takeEldest 29 = .ok (.isub, 1) := by decide +kernel
theorem dX0_takeEldest_30 : decode cX0_takeEldest 30 = .ok (.putfield 21, 3) := by decide +kernel
theorem dX0_takeEldest_33 : decode cX0_takeEldest 33 = .ok (.aload_n 1, 1) := by decide +kernel
theorem dX0_takeEldest_34 : decode cX0_takeEldest 34 = .ok (.areturn, 1) := by decide +kernel
theorem dX1_init_0 : decode cX1_init 0 = .ok (.aload_n 0, 1) := by decide +kernel
theorem dX1_init_1 : decode cX1_init 1 = .ok (.invokespecial 3, 3) := by decide +kernel
theorem dX1_init_4 : decode cX1_init 4 = .ok (.aload_n 0, 1) := by decide +kernel
theorem dX1_init_5 : decode cX1_init 5 = .ok (.iconst 0, 1) := by decide +kernel
theorem dX1_init_6 : decode cX1_init 6 = .ok (.putfield 9, 3) := by decide +kernel
theorem dX1_init_9 : decode cX1_init 9 = .ok (.aload_n 0, 1) := by decide +kernel
theorem dX1_init_10 : decode cX1_init 10 = .ok (.iconst 0, 1) := by decide +kernel
theorem dX1_init_11 : decode cX1_init 11 = .ok (.putfield 15, 3) := by decide +kernel
theorem dX1_init_14 : decode cX1_init 14 = .ok (.aload_n 0, 1) := by decide +kernel
theorem dX1_init_15 : decode cX1_init 15 = .ok (.iconst 0, 1) := by decide +kernel
theorem dX1_init_16 : decode cX1_init 16 = .ok (.putfield 18, 3) := by decide +kernel
theorem dX1_init_19 : decode cX1_init 19 = .ok (.aload_n 0, 1) := by decide +kernel
theorem dX1_init_20 : decode cX1_init 20 = .ok (.iconst 0, 1) := by decide +kernel
theorem dX1_init_21 : decode cX1_init 21 = .ok (.putfield 21, 3) := by decide +kernel
theorem dX1_init_24 : decode cX1_init 24 = .ok (.aload_n 0, 1) := by decide +kernel
theorem dX1_init_25 : decode cX1_init 25 = .ok (.iconst 0, 1) := by decide +kernel
theorem dX1_init_26 : decode cX1_init 26 = .ok (.putfield 24, 3) := by decide +kernel
theorem dX1_init_29 : decode cX1_init 29 = .ok (.aload_n 0, 1) := by decide +kernel
theorem dX1_init_30 : decode cX1_init 30 = .ok (.iconst 0, 1) := by decide +kernel
theorem dX1_init_31 : decode cX1_init 31 = .ok (.putfield 27, 3) := by decide +kernel
theorem dX1_init_34 : decode cX1_init 34 = .ok (.aload_n 0, 1) := by decide +kernel
theorem dX1_init_35 : decode cX1_init 35 = .ok (.iconst 0, 1) := by decide +kernel
theorem dX1_init_36 : decode cX1_init 36 = .ok (.putfield 30, 3) := by decide +kernel
theorem dX1_init_39 : decode cX1_init 39 = .ok (.return_, 1) := by decide +kernel
theorem dX2_init_0 : decode cX2_init 0 = .ok (.aload_n 0, 1) := by decide +kernel
theorem dX2_init_1 : decode cX2_init 1 = .ok (.invokespecial 3, 3) := by decide +kernel
theorem dX2_init_4 : decode cX2_init 4 = .ok (.aload_n 0, 1) := by decide +kernel
theorem dX2_init_5 : decode cX2_init 5 = .ok (.bipush 8, 2) := by decide +kernel
theorem dX2_init_7 : decode cX2_init 7 = .ok (.newarray .int, 2) := by decide +kernel
theorem dX2_init_9 : decode cX2_init 9 = .ok (.putfield 9, 3) := by decide +kernel
theorem dX2_init_12 : decode cX2_init 12 = .ok (.aload_n 0, 1) := by decide +kernel
theorem dX2_init_13 : decode cX2_init 13 = .ok (.bipush 8, 2) := by decide +kernel
theorem dX2_init_15 : decode cX2_init 15 = .ok (.newarray .int, 2) := by decide +kernel
theorem dX2_init_17 : decode cX2_init 17 = .ok (.putfield 15, 3) := by decide +kernel
theorem dX2_init_20 : decode cX2_init 20 = .ok (.iconst 0, 1) := by decide +kernel
theorem dX2_init_21 : decode cX2_init 21 = .ok (.istore_n 1, 1) := by decide +kernel
theorem dX2_init_22 : decode cX2_init 22 = .ok (.iload_n 1, 1) := by decide +kernel
theorem dX2_init_23 : decode cX2_init 23 = .ok (.bipush 8, 2) := by decide +kernel
theorem dX2_init_25 : decode cX2_init 25 = .ok (.if_icmp .ge 32, 3) := by decide +kernel
theorem dX2_init_28 : decode cX2_init 28 = .ok (.aload_n 0, 1) := by decide +kernel
theorem dX2_init_29 : decode cX2_init 29 = .ok (.getfield 9, 3) := by decide +kernel
theorem dX2_init_32 : decode cX2_init 32 = .ok (.iload_n 1, 1) := by decide +kernel
theorem dX2_init_33 : decode cX2_init 33 = .ok (.bipush 40, 2) := by decide +kernel
theorem dX2_init_35 : decode cX2_init 35 = .ok (.iload_n 1, 1) := by decide +kernel
theorem dX2_init_36 : decode cX2_init 36 = .ok (.imul, 1) := by decide +kernel
theorem dX2_init_37 : decode cX2_init 37 = .ok (.iastore, 1) := by decide +kernel
theorem dX2_init_38 : decode cX2_init 38 = .ok (.aload_n 0, 1) := by decide +kernel
theorem dX2_init_39 : decode cX2_init 39 = .ok (.getfield 15, 3) := by decide +kernel
theorem dX2_init_42 : decode cX2_init 42 = .ok (.iload_n 1, 1) := by decide +kernel
theorem dX2_init_43 : decode cX2_init 43 = .ok (.bipush 40, 2) := by decide +kernel
theorem dX2_init_45 : decode cX2_init 45 = .ok (.iload_n 1, 1) := by decide +kernel
theorem dX2_init_46 : decode cX2_init 46 = .ok (.imul, 1) := by decide +kernel
theorem dX2_init_47 : decode cX2_init 47 = .ok (.bipush 20, 2) := by decide +kernel
theorem dX2_init_49 : decode cX2_init 49 = .ok (.iadd, 1) := by decide +kernel
theorem dX2_init_50 : decode cX2_init 50 = .ok (.iastore, 1) := by decide +kernel
theorem dX2_init_51 : decode cX2_init 51 = .ok (.iinc 1 1, 3) := by decide +kernel
theorem dX2_init_54 : decode cX2_init 54 = .ok (.goto (-32), 3) := by decide +kernel
theorem dX2_init_57 : decode cX2_init 57 = .ok (.return_, 1) := by decide +kernel
theorem dX2_change_0 : decode cX2_change 0 = .ok (.aload_n 0, 1) := by decide +kernel
theorem dX2_change_1 : decode cX2_change 1 = .ok (.getfield 9, 3) := by decide +kernel
theorem dX2_change_4 : decode cX2_change 4 = .ok (.iload_n 1, 1) := by decide +kernel
theorem dX2_change_5 : decode cX2_change 5 = .ok (.iload_n 2, 1) := by decide +kernel
theorem dX2_change_6 : decode cX2_change 6 = .ok (.iastore, 1) := by decide +kernel
theorem dX2_change_7 : decode cX2_change 7 = .ok (.aload_n 0, 1) := by decide +kernel
theorem dX2_change_8 : decode cX2_change 8 = .ok (.getfield 15, 3) := by decide +kernel
theorem dX2_change_11 : decode cX2_change 11 = .ok (.iload_n 1, 1) := by decide +kernel
theorem dX2_change_12 : decode cX2_change 12 = .ok (.iload_n 3, 1) := by decide +kernel
theorem dX2_change_13 : decode cX2_change 13 = .ok (.iastore, 1) := by decide +kernel
theorem dX2_change_14 : decode cX2_change 14 = .ok (.return_, 1) := by decide +kernel
set_option maxRecDepth 20000 in
theorem ggX2_shift_J9_floorMod_7cf53 : GoodIn wsX2_shift wsJ9_floorMod_7cf53 := goodIn_r _ [6] (by decide +kernel) (by decide +kernel)
set_option maxRecDepth 20000 in
theorem gX2_shift_J9_floorMod_7cf53 : GoodIn wsX2_shift (va_wsS RX2 18 yJ9_floorMod_7cf53 wsJ9_floorMod_7cf53) := goodIn_app (goodIn_of _ (by decide +kernel)) ggX2_shift_J9_floorMod_7cf53
theorem dX2_shift_0 : decode cX2_shift 0 = .ok (.iconst 0, 1) := by decide +kernel
theorem dX2_shift_1 : decode cX2_shift 1 = .ok (.istore_n 2, 1) := by decide +kernel
theorem dX2_shift_2 : decode cX2_shift 2 = .ok (.iload_n 2, 1) := by decide +kernel
theorem dX2_shift_3 : decode cX2_shift 3 = .ok (.bipush 8, 2) := by decide +kernel
theorem dX2_shift_5 : decode cX2_shift 5 = .ok (.if_icmp .ge 49, 3) := by decide +kernel
theorem dX2_shift_8 : decode cX2_shift 8 = .ok (.aload_n 0, 1) := by decide +kernel
theorem dX2_shift_9 : decode cX2_shift 9 = .ok (.getfield 9, 3) := by decide +kernel
theorem dX2_shift_12 : decode cX2_shift 12 = .ok (.iload_n 2, 1) := by decide +kernel
theorem dX2_shift_13 : decode cX2_shift 13 = .ok (.aload_n 0, 1) := by decide +kernel
theorem dX2_shift_14 : decode cX2_shift 14 = .ok (.getfield 9, 3) := by decide +kernel
theorem dX2_shift_17 : decode cX2_shift 17 = .ok (.iload_n 2, 1) := by decide +kernel
theorem dX2_shift_18 : decode cX2_shift 18 = .ok (.iaload, 1) := by decide +kernel
theorem dX2_shift_19 : decode cX2_shift 19 = .ok (.iload_n 1, 1) := by decide +kernel
theorem dX2_shift_20 : decode cX2_shift 20 = .ok (.iadd, 1) := by decide +kernel
theorem dX2_shift_21 : decode cX2_shift 21 = .ok (.sipush 360, 3) := by decide +kernel
theorem dX2_shift_24 : decode cX2_shift 24 = .ok (.invokestatic 18, 3) := by decide +kernel
theorem dX2_shift_27 : decode cX2_shift 27 = .ok (.iastore, 1) := by decide +kernel
theorem dX2_shift_28 : decode cX2_shift 28 = .ok (.aload_n 0, 1) := by decide +kernel
theorem dX2_shift_29 : decode cX2_shift 29 = .ok (.getfield 15, 3) := by decide +kernel
theorem dX2_shift_32 : decode cX2_shift 32 = .ok (.iload_n 2, 1) := by decide +kernel
theorem dX2_shift_33 : decode cX2_shift 33 = .ok (.aload_n 0, 1) := by decide +kernel
theorem dX2_shift_34 : decode cX2_shift 34 = .ok (.getfield 15, 3) := by decide +kernel
theorem dX2_shift_37 : decode cX2_shift 37 = .ok (.iload_n 2, 1) := by decide +kernel
theorem dX2_shift_38 : decode cX2_shift 38 = .ok (.iaload, 1) := by decide +kernel
theorem dX2_shift_39 : decode cX2_shift 39 = .ok (.iload_n 1, 1) := by decide +kernel
theorem dX2_shift_40 : decode cX2_shift 40 = .ok (.iadd, 1) := by decide +kernel
theorem dX2_shift_41 : decode cX2_shift 41 = .ok (.sipush 360, 3) := by decide +kernel
theorem dX2_shift_44 : decode cX2_shift 44 = .ok (.invokestatic 18, 3) := by decide +kernel
theorem dX2_shift_47 : decode cX2_shift 47 = .ok (.iastore, 1) := by decide +kernel
theorem dX2_shift_48 : decode cX2_shift 48 = .ok (.iinc 2 1, 3) := by decide +kernel
theorem dX2_shift_51 : decode cX2_shift 51 = .ok (.goto (-49), 3) := by decide +kernel
theorem dX2_shift_54 : decode cX2_shift 54 = .ok (.return_, 1) := by decide +kernel
theorem dX2_become_0 : decode cX2_become 0 = .ok (.iconst 0, 1) := by decide +kernel
theorem dX2_become_1 : decode cX2_become 1 = .ok (.istore_n 2, 1) := by decide +kernel
theorem dX2_become_2 : decode cX2_become 2 = .ok (.iload_n 2, 1) := by decide +kernel
theorem dX2_become_3 : decode cX2_become 3 = .ok (.bipush 8, 2) := by decide +kernel
theorem dX2_become_5 : decode cX2_become 5 = .ok (.if_icmp .ge 33, 3) := by decide +kernel
theorem dX2_become_8 : decode cX2_become 8 = .ok (.aload_n 0, 1) := by decide +kernel
theorem dX2_become_9 : decode cX2_become 9 = .ok (.getfield 9, 3) := by decide +kernel
theorem dX2_become_12 : decode cX2_become 12 = .ok (.iload_n 2, 1) := by decide +kernel
theorem dX2_become_13 : decode cX2_become 13 = .ok (.aload_n 1, 1) := by decide +kernel
theorem dX2_become_14 : decode cX2_become 14 = .ok (.getfield 9, 3) := by decide +kernel
theorem dX2_become_17 : decode cX2_become 17 = .ok (.iload_n 2, 1) := by decide +kernel
theorem dX2_become_18 : decode cX2_become 18 = .ok (.iaload, 1) := by decide +kernel
theorem dX2_become_19 : decode cX2_become 19 = .ok (.iastore, 1) := by decide +kernel
theorem dX2_become_20 : decode cX2_become 20 = .ok (.aload_n 0, 1) := by decide +kernel
theorem dX2_become_21 : decode cX2_become 21 = .ok (.getfield 15, 3) := by decide +kernel
theorem dX2_become_24 : decode cX2_become 24 = .ok (.iload_n 2, 1) := by decide +kernel
theorem dX2_become_25 : decode cX2_become 25 = .ok (.aload_n 1, 1) := by decide +kernel
theorem dX2_become_26 : decode cX2_become 26 = .ok (.getfield 15, 3) := by decide +kernel
theorem dX2_become_29 : decode cX2_become 29 = .ok (.iload_n 2, 1) := by decide +kernel
theorem dX2_become_30 : decode cX2_become 30 = .ok (.iaload, 1) := by decide +kernel
theorem dX2_become_31 : decode cX2_become 31 = .ok (.iastore, 1) := by decide +kernel
theorem dX2_become_32 : decode cX2_become 32 = .ok (.iinc 2 1, 3) := by decide +kernel
theorem dX2_become_35 : decode cX2_become 35 = .ok (.goto (-33), 3) := by decide +kernel
theorem dX2_become_38 : decode cX2_become 38 = .ok (.return_, 1) := by decide +kernel
set_option maxRecDepth 20000 in
theorem ggX2_length_X9_wayUp : GoodIn wsX2_length wsX9_wayUp := goodIn_r _ [5] (by decide +kernel) (by decide +kernel)
set_option maxRecDepth 20000 in
theorem gX2_length_X9_wayUp_n24 : GoodIn wsX2_length (wsX9_wayUp) := ggX2_length_X9_wayUp
theorem dX2_length_0 : decode cX2_length 0 = .ok (.aload_n 0, 1) := by decide +kernel
theorem dX2_length_1 : decode cX2_length 1 = .ok (.getfield 9, 3) := by decide +kernel
theorem dX2_length_4 : decode cX2_length 4 = .ok (.iload_n 1, 1) := by decide +kernel
theorem dX2_length_5 : decode cX2_length 5 = .ok (.iaload, 1) := by decide +kernel
theorem dX2_length_6 : decode cX2_length 6 = .ok (.aload_n 0, 1) := by decide +kernel
theorem dX2_length_7 : decode cX2_length 7 = .ok (.getfield 15, 3) := by decide +kernel
theorem dX2_length_10 : decode cX2_length 10 = .ok (.iload_n 1, 1) := by decide +kernel
theorem dX2_length_11 : decode cX2_length 11 = .ok (.iaload, 1) := by decide +kernel
theorem dX2_length_12 : decode cX2_length 12 = .ok (.invokestatic 24, 3) := by decide +kernel
theorem dX2_length_15 : decode cX2_length 15 = .ok (.ireturn, 1) := by decide +kernel
set_option maxRecDepth 20000 in
theorem ggX2_isDone_X9_wayUp : GoodIn wsX2_isDone wsX9_wayUp := goodIn_r _ [4] (by decide +kernel) (by decide +kernel)
set_option maxRecDepth 20000 in
theorem gX2_isDone_X9_wayUp_n24 : GoodIn wsX2_isDone (wsX9_wayUp) := ggX2_isDone_X9_wayUp
set_option maxRecDepth 20000 in
theorem ggX2_isDone_X2_length : GoodIn wsX2_isDone wsX2_length := goodIn_r _ [9, 1, 10, 2, 3, 4, 11, 12] (by decide +kernel) (by decide +kernel)
set_option maxRecDepth 20000 in
theorem gX2_isDone_X2_length : GoodIn wsX2_isDone (wsV RX2 27 RX2 yX2_length wsX2_length) := goodIn_app (goodIn_of _ (by decide +kernel)) ggX2_isDone_X2_length
theorem dX2_isDone_0 : decode cX2_isDone 0 = .ok (.aload_n 0, 1) := by decide +kernel
theorem dX2_isDone_1 : decode cX2_isDone 1 = .ok (.getfield 9, 3) := by decide +kernel
theorem dX2_isDone_4 : decode cX2_isDone 4 = .ok (.iload_n 1, 1) := by decide +kernel
theorem dX2_isDone_5 : decode cX2_isDone 5 = .ok (.iaload, 1) := by decide +kernel
theorem dX2_isDone_6 : decode cX2_isDone 6 = .ok (.iload_n 2, 1) := by decide +kernel
theorem dX2_isDone_7 : decode cX2_isDone 7 = .ok (.invokestatic 24, 3) := by decide +kernel
theorem dX2_isDone_10 : decode cX2_isDone 10 = .ok (.aload_n 0, 1) := by decide +kernel
theorem dX2_isDone_11 : decode cX2_isDone 11 = .ok (.iload_n 1, 1) := by decide +kernel
theorem dX2_isDone_12 : decode cX2_isDone 12 = .ok (.invokevirtual 27, 3) := by decide +kernel
theorem dX2_isDone_15 : decode cX2_isDone 15 = .ok (.if_icmp .ge 7, 3) := by decide +kernel
theorem dX2_isDone_18 : decode cX2_isDone 18 = .ok (.iconst 1, 1) := by decide +kernel
theorem dX2_isDone_19 : decode cX2_isDone 19 = .ok (.goto 4, 3) := by decide +kernel
theorem dX2_isDone_22 : decode cX2_isDone 22 = .ok (.iconst 0, 1) := by decide +kernel
theorem dX2_isDone_23 : decode cX2_isDone 23 = .ok (.ireturn, 1) := by decide +kernel
set_option maxRecDepth 20000 in
theorem ggX2_isInside_X9_wayUp : GoodIn wsX2_isInside wsX9_wayUp := goodIn_r _ [4] (by decide +kernel) (by decide +kernel)
set_option maxRecDepth 20000 in
theorem gX2_isInside_X9_wayUp_n24 : GoodIn wsX2_isInside (wsX9_wayUp) := ggX2_isInside_X9_wayUp
set_option maxRecDepth 20000 in
theorem ggX2_isInside_X2_length : GoodIn wsX2_isInside wsX2_length := goodIn_r _ [9, 1, 10, 2, 3, 4, 11, 12] (by decide +kernel) (by decide +kernel)
set_option maxRecDepth 20000 in
theorem gX2_isInside_X2_length : GoodIn wsX2_isInside (wsV RX2 27 RX2 yX2_length wsX2_length) := goodIn_app (goodIn_of _ (by decide +kernel)) ggX2_isInside_X2_length
theorem dX2_isInside_0 : decode cX2_isInside 0 = .ok (.aload_n 0, 1) := by decide +kernel
theorem dX2_isInside_1 : decode cX2_isInside 1 = .ok (.getfield 9, 3) := by decide +kernel
theorem dX2_isInside_4 : decode cX2_isInside 4 = .ok (.iload_n 2, 1) := by decide +kernel
theorem dX2_isInside_5 : decode cX2_isInside 5 = .ok (.iaload, 1) := by decide +kernel
theorem dX2_isInside_6 : decode cX2_isInside 6 = .ok (.aload_n 0, 1) := by decide +kernel
theorem dX2_isInside_7 : decode cX2_isInside 7 = .ok (.getfield 9, 3) := by decide +kernel
theorem dX2_isInside_10 : decode cX2_isInside 10 = .ok (.iload_n 1, 1) := by decide +kernel
theorem dX2_isInside_11 : decode cX2_isInside 11 = .ok (.iaload, 1) := by decide +kernel
theorem dX2_isInside_12 : decode cX2_isInside 12 = .ok (.invokestatic 24, 3) := by decide +kernel
theorem dX2_isInside_15 : decode cX2_isInside 15 = .ok (.aload_n 0, 1) := by decide +kernel
theorem dX2_isInside_16 : decode cX2_isInside 16 = .ok (.iload_n 1, 1) := by decide +kernel
theorem dX2_isInside_17 : decode cX2_isInside 17 = .ok (.invokevirtual 27, 3) := by decide +kernel
theorem dX2_isInside_20 : decode cX2_isInside 20 = .ok (.iadd, 1) := by decide +kernel
theorem dX2_isInside_21 : decode cX2_isInside 21 = .ok (.aload_n 0, 1) := by decide +kernel
theorem dX2_isInside_22 : decode cX2_isInside 22 = .ok (.iload_n 2, 1) := by decide +kernel
theorem dX2_isInside_23 : decode cX2_isInside 23 = .ok (.invokevirtual 27, 3) := by decide +kernel
theorem dX2_isInside_26 : decode cX2_isInside 26 = .ok (.if_icmp .gt 7, 3) := by decide +kernel
theorem dX2_isInside_29 : decode cX2_isInside 29 = .ok (.iconst 1, 1) := by decide +kernel
theorem dX2_isInside_30 : decode cX2_isInside 30 = .ok (.goto 4, 3) := by decide +kernel
theorem dX2_isInside_33 : decode cX2_isInside 33 = .ok (.iconst 0, 1) := by decide +kernel
theorem dX2_isInside_34 : decode cX2_isInside 34 = .ok (.ireturn, 1) := by decide +kernel
set_option maxRecDepth 20000 in
theorem ggX3_init_X2_init : GoodIn wsX3_init wsX2_init := goodIn_r _ [17, 18, 2, 3, 19, 20, 21, 34, 35] (by decide +kernel) (by decide +kernel)
set_option maxRecDepth 20000 in
theorem gX3_init_X2_init : GoodIn wsX3_init (wsX2_init) := ggX3_init_X2_init
set_option maxRecDepth 20000 in
theorem ggX3_init_X8_init : GoodIn wsX3_init wsX8_init := goodIn_r _ [23, 24, 2, 3, 25, 26, 27, 28, 36, 37, 38, 39] (by decide +kernel) (by decide +kernel)
set_option maxRecDepth 20000 in
theorem gX3_init_X8_init_n35 : GoodIn wsX3_init (wsX8_init) := ggX3_init_X8_init
theorem dX3_init_0 : decode cX3_init 0 = .ok (.aload_n 0, 1) := by decide +kernel
theorem dX3_init_1 : decode cX3_init 1 = .ok (.invokespecial 3, 3) := by decide +kernel
theorem dX3_init_4 : decode cX3_init 4 = .ok (.aload_n 0, 1) := by decide +kernel
theorem dX3_init_5 : decode cX3_init 5 = .ok (.bipush 6, 2) := by decide +kernel
theorem dX3_init_7 : decode cX3_init 7 = .ok (.anewarray 9, 3) := by decide +kernel
theorem dX3_init_10 : decode cX3_init 10 = .ok (.putfield 11, 3) := by decide +kernel
theorem dX3_init_13 : decode cX3_init 13 = .ok (.aload_n 0, 1) := by decide +kernel
theorem dX3_init_14 : decode cX3_init 14 = .ok (.bipush 16, 2) := by decide +kernel
theorem dX3_init_16 : decode cX3_init 16 = .ok (.anewarray 17, 3) := by decide +kernel
theorem dX3_init_19 : decode cX3_init 19 = .ok (.putfield 19, 3) := by decide +kernel
theorem dX3_init_22 : decode cX3_init 22 = .ok (.aload_n 0, 1) := by decide +kernel
theorem dX3_init_23 : decode cX3_init 23 = .ok (.new 9, 3) := by decide +kernel
theorem dX3_init_26 : decode cX3_init 26 = .ok (.dup, 1) := by decide +kernel
theorem dX3_init_27 : decode cX3_init 27 = .ok (.invokespecial 23, 3) := by decide +kernel
theorem dX3_init_30 : decode cX3_init 30 = .ok (.putfield 24, 3) := by decide +kernel
theorem dX3_init_33 : decode cX3_init 33 = .ok (.aload_n 0, 1) := by decide +kernel
theorem dX3_init_34 : decode cX3_init 34 = .ok (.iconst 0, 1) := by decide +kernel
theorem dX3_init_35 : decode cX3_init 35 = .ok (.putfield 28, 3) := by decide +kernel
theorem dX3_init_38 : decode cX3_init 38 = .ok (.aload_n 0, 1) := by decide +kernel
theorem dX3_init_39 : decode cX3_init 39 = .ok (.bipush 10, 2) := by decide +kernel
theorem dX3_init_41 : decode cX3_init 41 = .ok (.putfield 32, 3) := by decide +kernel
theorem dX3_init_44 : decode cX3_init 44 = .ok (.iconst 0, 1) := by decide +kernel
theorem dX3_init_45 : decode cX3_init 45 = .ok (.istore_n 1, 1) := by decide +kernel
theorem dX3_init_46 : decode cX3_init 46 = .ok (.iload_n 1, 1) := by decide +kernel
theorem dX3_init_47 : decode cX3_init 47 = .ok (.bipush 6, 2) := by decide +kernel
theorem dX3_init_49 : decode cX3_init 49 = .ok (.if_icmp .ge 22, 3) := by decide +kernel
theorem dX3_init_52 : decode cX3_init 52 = .ok (.aload_n 0, 1) := by decide +kernel
theorem dX3_init_53 : decode cX3_init 53 = .ok (.getfield 11, 3) := by decide +kernel
theorem dX3_init_56 : decode cX3_init 56 = .ok (.iload_n 1, 1) := by decide +kernel
theorem dX3_init_57 : decode cX3_init 57 = .ok (.new 9, 3) := by decide +kernel
theorem dX3_init_60 : decode cX3_init 60 = .ok (.dup, 1) := by decide +kernel
theorem dX3_init_61 : decode cX3_init 61 = .ok (.invokespecial 23, 3) := by decide +kernel
theorem dX3_init_64 : decode cX3_init 64 = .ok (.aastore, 1) := by decide +kernel
theorem dX3_init_65 : decode cX3_init 65 = .ok (.iinc 1 1, 3) := by decide +kernel
theorem dX3_init_68 : decode cX3_init 68 = .ok (.goto (-22), 3) := by decide +kernel
theorem dX3_init_71 : decode cX3_init 71 = .ok (.iconst 0, 1) := by decide +kernel
theorem dX3_init_72 : decode cX3_init 72 = .ok (.istore_n 1, 1) := by decide +kernel
theorem dX3_init_73 : decode cX3_init 73 = .ok (.iload_n 1, 1) := by decide +kernel
theorem dX3_init_74 : decode cX3_init 74 = .ok (.bipush 16, 2) := by decide +kernel
theorem dX3_init_76 : decode cX3_init 76 = .ok (.if_icmp .ge 22, 3) := by decide +kernel
theorem dX3_init_79 : decode cX3_init 79 = .ok (.aload_n 0, 1) := by decide +kernel
theorem dX3_init_80 : decode cX3_init 80 = .ok (.getfield 19, 3) := by decide +kernel
theorem dX3_init_83 : decode cX3_init 83 = .ok (.iload_n 1, 1) := by decide +kernel
theorem dX3_init_84 : decode cX3_init 84 = .ok (.new 17, 3) := by decide +kernel
theorem dX3_init_87 : decode cX3_init 87 = .ok (.dup, 1) := by decide +kernel
theorem dX3_init_88 : decode cX3_init 88 = .ok (.invokespecial 35, 3) := by decide +kernel
theorem dX3_init_91 : decode cX3_init 91 = .ok (.aastore, 1) := by decide +kernel
theorem dX3_init_92 : decode cX3_init 92 = .ok (.iinc 1 1, 3) := by decide +kernel
theorem dX3_init_95 : decode cX3_init 95 = .ok (.goto (-22), 3) := by decide +kernel
theorem dX3_init_98 : decode cX3_init 98 = .ok (.return_, 1) := by decide +kernel
set_option maxRecDepth 20000 in
theorem ggX3_brokenIf_X2_become : GoodIn wsX3_brokenIf wsX2_become := goodIn_r _ [10, 11, 12, 49, 50] (by decide +kernel) (by decide +kernel)
set_option maxRecDepth 20000 in
theorem gX3_brokenIf_X2_become : GoodIn wsX3_brokenIf (wsV RX3 36 RX2 yX2_become wsX2_become) := goodIn_app (goodIn_of _ (by decide +kernel)) ggX3_brokenIf_X2_become
set_option maxRecDepth 20000 in
theorem ggX3_brokenIf_X2_change : GoodIn wsX3_brokenIf wsX2_change := goodIn_r _ [16, 11, 12, 49, 50] (by decide +kernel) (by decide +kernel)
set_option maxRecDepth 20000 in
theorem gX3_brokenIf_X2_change : GoodIn wsX3_brokenIf (wsV RX3 40 RX2 yX2_change wsX2_change) := goodIn_app (goodIn_of _ (by decide +kernel)) ggX3_brokenIf_X2_change
set_option maxRecDepth 20000 in
theorem ggX3_brokenIf_X8_isBroken : GoodIn wsX3_brokenIf wsX8_isBroken := goodIn_r _ [21, 22, 23, 24, 25, 26, 27, 28, 29, 30, 31, 32, 33, 9, 34, 11, 35, 36, 37, 38, 12, 39, 40, 41, 42, 43, 51, 52, 53, 54, 49, 50] (by decide +kernel) (by decide +kernel)
set_option maxRecDepth 20000 in
theorem gX3_brokenIf_X8_isBroken : GoodIn wsX3_brokenIf (wsV RX3 44 RX8 yX8_isBroken wsX8_isBroken) := goodIn_app (goodIn_of _ (by decide +kernel)) ggX3_brokenIf_X8_isBroken
theorem dX3_brokenIf_0 : decode cX3_brokenIf 0 = .ok (.aload_n 0, 1) := by decide +kernel
theorem dX3_brokenIf_1 : decode cX3_brokenIf 1 = .ok (.getfield 24, 3) := by decide +kernel
theorem dX3_brokenIf_4 : decode cX3_brokenIf 4 = .ok (.aload_n 0, 1) := by decide +kernel
theorem dX3_brokenIf_5 : decode cX3_brokenIf 5 = .ok (.getfield 11, 3) := by decide +kernel
theorem dX3_brokenIf_8 : decode cX3_brokenIf 8 = .ok (.iload_n 1, 1) := by decide +kernel
theorem dX3_brokenIf_9 : decode cX3_brokenIf 9 = .ok (.aaload, 1) := by decide +kernel
theorem dX3_brokenIf_10 : decode cX3_brokenIf 10 = .ok (.invokevirtual 36, 3) := by decide +kernel
theorem dX3_brokenIf_13 : decode cX3_brokenIf 13 = .ok (.aload_n 0, 1) := by decide +kernel
theorem dX3_brokenIf_14 : decode cX3_brokenIf 14 = .ok (.getfield 24, 3) := by decide +kernel
theorem dX3_brokenIf_17 : decode cX3_brokenIf 17 = .ok (.iload_n 2, 1) := by decide +kernel
theorem dX3_brokenIf_18 : decode cX3_brokenIf 18 = .ok (.iload_n 3, 1) := by decide +kernel
theorem dX3_brokenIf_19 : decode cX3_brokenIf 19 = .ok (.iload 4, 2) := by decide +kernel
theorem dX3_brokenIf_21 : decode cX3_brokenIf 21 = .ok (.invokevirtual 40, 3) := by decide +kernel
theorem dX3_brokenIf_24 : decode cX3_brokenIf 24 = .ok (.iconst 0, 1) := by decide +kernel
theorem dX3_brokenIf_25 : decode cX3_brokenIf 25 = .ok (.istore 5, 2) := by decide +kernel
theorem dX3_brokenIf_27 : decode cX3_brokenIf 27 = .ok (.iload 5, 2) := by decide +kernel
theorem dX3_brokenIf_29 : decode cX3_brokenIf 29 = .ok (.aload_n 0, 1) := by decide +kernel
theorem dX3_brokenIf_30 : decode cX3_brokenIf 30 = .ok (.getfield 28, 3) := by decide +kernel
theorem dX3_brokenIf_33 : decode cX3_brokenIf 33 = .ok (.if_icmp .ge 33, 3) := by decide +kernel
theorem dX3_brokenIf_36 : decode cX3_brokenIf 36 = .ok (.aload_n 0, 1) := by decide +kernel
theorem dX3_brokenIf_37 : decode cX3_brokenIf 37 = .ok (.getfield 19, 3) := by decide +kernel
theorem dX3_brokenIf_40 : decode cX3_brokenIf 40 = .ok (.iload 5, 2) := by decide +kernel
theorem dX3_brokenIf_42 : decode cX3_brokenIf 42 = .ok (.aaload, 1) := by decide +kernel
theorem dX3_brokenIf_43 : decode cX3_brokenIf 43 = .ok (.aload_n 0, 1) := by decide +kernel
theorem dX3_brokenIf_44 : decode cX3_brokenIf 44 = .ok (.getfield 24, 3) := by decide +kernel
theorem dX3_brokenIf_47 : decode cX3_brokenIf 47 = .ok (.aload_n 0, 1) := by decide +kernel
theorem dX3_brokenIf_48 : decode cX3_brokenIf 48 = .ok (.getfield 32, 3) := by decide +kernel
theorem dX3_brokenIf_51 : decode cX3_brokenIf 51 = .ok (.invokevirtual 44, 3) := by decide +kernel
theorem dX3_brokenIf_54 : decode cX3_brokenIf 54 = .ok (.ifCond .eq 6, 3) := by decide +kernel
theorem dX3_brokenIf_57 : decode cX3_brokenIf 57 = .ok (.iload 5, 2) := by decide +kernel
theorem dX3_brokenIf_59 : decode cX3_brokenIf 59 = .ok (.ireturn, 1) := by decide +kernel
theorem dX3_brokenIf_60 : decode cX3_brokenIf 60 = .ok (.iinc 5 1, 3) := by decide +kernel
theorem dX3_brokenIf_63 : decode cX3_brokenIf 63 = .ok (.goto (-36), 3) := by decide +kernel
theorem dX3_brokenIf_66 : decode cX3_brokenIf 66 = .ok (.iconst (-1), 1) := by decide +kernel
theorem dX3_brokenIf_67 : decode cX3_brokenIf 67 = .ok (.ireturn, 1) := by decide +kernel
set_option maxRecDepth 20000 in
theorem ggX3_brokenAt_X3_anyBreaks : GoodIn wsX3_brokenAt wsX3_anyBreaks := goodIn_r _ [6, 7, 8, 9, 10, 11, 12, 13, 14, 15, 16, 17, 18, 19, 20, 21, 22, 23, 24, 25, 26, 27, 28, 29, 30, 31, 32, 33, 34, 35, 36, 37, 38, 39, 40, 41, 42, 43, 44, 45, 46, 47, 48, 49] (by decide +kernel) (by decide +kernel)
set_option maxRecDepth 20000 in
theorem gX3_brokenAt_X3_anyBreaks : GoodIn wsX3_brokenAt (wsV RX3 48 RX3 yX3_anyBreaks wsX3_anyBreaks) := goodIn_app (goodIn_of _ (by decide +kernel)) ggX3_brokenAt_X3_anyBreaks
theorem dX3_brokenAt_0 : decode cX3_brokenAt 0 = .ok (.iconst 0, 1) := by decide +kernel
theorem dX3_brokenAt_1 : decode cX3_brokenAt 1 = .ok (.istore_n 2, 1) := by decide +kernel
theorem dX3_brokenAt_2 : decode cX3_brokenAt 2 = .ok (.iload_n 2, 1) := by decide +kernel
theorem dX3_brokenAt_3 : decode cX3_brokenAt 3 = .ok (.aload_n 0, 1) := by decide +kernel
theorem dX3_brokenAt_4 : decode cX3_brokenAt 4 = .ok (.getfield 28, 3) := by decide +kernel
theorem dX3_brokenAt_7 : decode cX3_brokenAt 7 = .ok (.if_icmp .ge 20, 3) := by decide +kernel
theorem dX3_brokenAt_10 : decode cX3_brokenAt 10 = .ok (.aload_n 0, 1) := by decide +kernel
theorem dX3_brokenAt_11 : decode cX3_brokenAt 11 = .ok (.iload_n 2, 1) := by decide +kernel
theorem dX3_brokenAt_12 : decode cX3_brokenAt 12 = .ok (.iload_n 1, 1) := by decide +kernel
theorem dX3_brokenAt_13 : decode cX3_brokenAt 13 = .ok (.invokevirtual 48, 3) := by decide +kernel
theorem dX3_brokenAt_16 : decode cX3_brokenAt 16 = .ok (.ifCond .eq 5, 3) := by decide +kernel
theorem dX3_brokenAt_19 : decode cX3_brokenAt 19 = .ok (.iload_n 2, 1) := by decide +kernel
theorem dX3_brokenAt_20 : decode cX3_brokenAt 20 = .ok (.ireturn, 1) := by decide +kernel
theorem dX3_brokenAt_21 : decode cX3_brokenAt 21 = .ok (.iinc 2 1, 3) := by decide +kernel
theorem dX3_brokenAt_24 : decode cX3_brokenAt 24 = .ok (.goto (-22), 3) := by decide +kernel
theorem dX3_brokenAt_27 : decode cX3_brokenAt 27 = .ok (.iconst (-1), 1) := by decide +kernel
theorem dX3_brokenAt_28 : decode cX3_brokenAt 28 = .ok (.ireturn, 1) := by decide +kernel
set_option maxRecDepth 20000 in
theorem ggX3_anyBreaks_X8_isBroken : GoodIn wsX3_anyBreaks wsX8_isBroken := goodIn_r _ [7, 8, 9, 10, 11, 12, 13, 14, 15, 16, 17, 18, 19, 20, 21, 22, 23, 24, 25, 26, 27, 28, 29, 30, 31, 32, 38, 39, 40, 41, 42, 43] (by decide +kernel) (by decide +kernel)
set_option maxRecDepth 20000 in
theorem gX3_anyBreaks_X8_isBroken : GoodIn wsX3_anyBreaks (wsV RX3 44 RX8 yX8_isBroken wsX8_isBroken) := goodIn_app (goodIn_of _ (by decide +kernel)) ggX3_anyBreaks_X8_isBroken
theorem dX3_anyBreaks_0 : decode cX3_anyBreaks 0 = .ok (.iconst 0, 1) := by decide +kernel
theorem dX3_anyBreaks_1 : decode cX3_anyBreaks 1 = .ok (.istore_n 3, 1) := by decide +kernel
theorem dX3_anyBreaks_2 : decode cX3_anyBreaks 2 = .ok (.iload_n 3, 1) := by decide +kernel
theorem dX3_anyBreaks_3 : decode cX3_anyBreaks 3 = .ok (.bipush 6, 2) := by decide +kernel
theorem dX3_anyBreaks_5 : decode cX3_anyBreaks 5 = .ok (.if_icmp .ge 30, 3) := by decide +kernel
theorem dX3_anyBreaks_8 : decode cX3_anyBreaks 8 = .ok (.aload_n 0, 1) := by decide +kernel
theorem dX3_anyBreaks_9 : decode cX3_anyBreaks 9 = .ok (.getfield 19, 3) := by decide +kernel
theorem dX3_anyBreaks_12 : decode cX3_anyBreaks 12 = .ok (.iload_n 1, 1) := by decide +kernel
theorem dX3_anyBreaks_13 : decode cX3_anyBreaks 13 = .ok (.aaload, 1) := by decide +kernel
theorem dX3_anyBreaks_14 : decode cX3_anyBreaks 14 = .ok (.aload_n 0, 1) := by decide +kernel
theorem dX3_anyBreaks_15 : decode cX3_anyBreaks 15 = .ok (.getfield 11, 3) := by decide +kernel
theorem dX3_anyBreaks_18 : decode cX3_anyBreaks 18 = .ok (.iload_n 3, 1) := by decide +kernel
theorem dX3_anyBreaks_19 : decode cX3_anyBreaks 19 = .ok (.aaload, 1) := by decide +kernel
theorem dX3_anyBreaks_20 : decode cX3_anyBreaks 20 = .ok (.iload_n 2, 1) := by decide +kernel
theorem dX3_anyBreaks_21 : decode cX3_anyBreaks 21 = .ok (.invokevirtual 44, 3) := by decide +kernel
theorem dX3_anyBreaks_24 : decode cX3_anyBreaks 24 = .ok (.ifCond .eq 5, 3) := by decide +kernel
theorem dX3_anyBreaks_27 : decode cX3_anyBreaks 27 = .ok (.iconst 1, 1) := by decide +kernel
theorem dX3_anyBreaks_28 : decode cX3_anyBreaks 28 = .ok (.ireturn, 1) := by decide +kernel
theorem dX3_anyBreaks_29 : decode cX3_anyBreaks 29 = .ok (.iinc 3 1, 3) := by decide +kernel
theorem dX3_anyBreaks_32 : decode cX3_anyBreaks 32 = .ok (.goto (-30), 3) := by decide +kernel
theorem dX3_anyBreaks_35 : decode cX3_anyBreaks 35 = .ok (.iconst 0, 1) := by decide +kernel
theorem dX3_anyBreaks_36 : decode cX3_anyBreaks 36 = .ok (.ireturn, 1) := by decide +kernel
set_option maxRecDepth 20000 in
theorem ggX3_greatestPace_X8_greatestPace : GoodIn wsX3_greatestPace wsX8_greatestPace := goodIn_r _ [12, 13, 14, 15, 16, 17, 18, 19, 20, 21, 22, 23, 24, 25, 31, 32, 33, 34, 35, 36] (by decide +kernel) (by decide +kernel)
set_option maxRecDepth 20000 in
theorem gX3_greatestPace_X8_greatestPace : GoodIn wsX3_greatestPace (wsV RX3 52 RX8 yX8_greatestPace wsX8_greatestPace) := goodIn_app (goodIn_of _ (by decide +kernel)) ggX3_greatestPace_X8_greatestPace
theorem dX3_greatestPace_0 : decode cX3_greatestPace 0 = .ok (.bipush 60, 2) := by decide +kernel
theorem dX3_greatestPace_2 : decode cX3_greatestPace 2 = .ok (.istore_n 1, 1) := by decide +kernel
theorem dX3_greatestPace_3 : decode cX3_greatestPace 3 = .ok (.iconst 0, 1) := by decide +kernel
theorem dX3_greatestPace_4 : decode cX3_greatestPace 4 = .ok (.istore_n 2, 1) := by decide +kernel
theorem dX3_greatestPace_5 : decode cX3_greatestPace 5 = .ok (.iload_n 2, 1) := by decide +kernel
theorem dX3_greatestPace_6 : decode cX3_greatestPace 6 = .ok (.aload_n 0, 1) := by decide +kernel
theorem dX3_greatestPace_7 : decode cX3_greatestPace 7 = .ok (.getfield 28, 3) := by decide +kernel
theorem dX3_greatestPace_10 : decode cX3_greatestPace 10 = .ok (.if_icmp .ge 43, 3) := by decide +kernel
theorem dX3_greatestPace_13 : decode cX3_greatestPace 13 = .ok (.iconst 0, 1) := by decide +kernel
theorem dX3_greatestPace_14 : decode cX3_greatestPace 14 = .ok (.istore_n 3, 1) := by decide +kernel
theorem dX3_greatestPace_15 : decode cX3_greatestPace 15 = .ok (.iload_n 3, 1) := by decide +kernel
theorem dX3_greatestPace_16 : decode cX3_greatestPace 16 = .ok (.bipush 6, 2) := by decide +kernel
theorem dX3_greatestPace_18 : decode cX3_greatestPace 18 = .ok (.if_icmp .ge 29, 3) := by decide +kernel
theorem dX3_greatestPace_21 : decode cX3_greatestPace 21 = .ok (.iload_n 1, 1) := by decide +kernel
theorem dX3_greatestPace_22 : decode cX3_greatestPace 22 = .ok (.aload_n 0, 1) := by decide +kernel
theorem dX3_greatestPace_23 : decode cX3_greatestPace 23 = .ok (.getfield 19, 3) := by decide +kernel
theorem dX3_greatestPace_26 : decode cX3_greatestPace 26 = .ok (.iload_n 2, 1) := by decide +kernel
theorem dX3_greatestPace_27 : decode cX3_greatestPace 27 = .ok (.aaload, 1) := by decide +kernel
theorem dX3_greatestPace_28 : decode cX3_greatestPace 28 = .ok (.aload_n 0, 1) := by decide +kernel
theorem dX3_greatestPace_29 : decode cX3_greatestPace 29 = .ok (.getfield 11, 3) := by decide +kernel
theorem dX3_greatestPace_32 : decode cX3_greatestPace 32 = .ok (.iload_n 3, 1) := by decide +kernel
theorem dX3_greatestPace_33 : decode cX3_greatestPace 33 = .ok (.aaload, 1) := by decide +kernel
theorem dX3_greatestPace_34 : decode cX3_greatestPace 34 = .ok (.invokevirtual 52, 3) := by decide +kernel
theorem dX3_greatestPace_37 : decode cX3_greatestPace 37 = .ok (.invokestatic 56, 3) := by decide +kernel
theorem dX3_greatestPace_40 : decode cX3_greatestPace 40 = .ok (.istore_n 1, 1) := by decide +kernel
theorem dX3_greatestPace_41 : decode cX3_greatestPace 41 = .ok (.iinc 3 1, 3) := by decide +kernel
theorem dX3_greatestPace_44 : decode cX3_greatestPace 44 = .ok (.goto (-29), 3) := by decide +kernel
theorem dX3_greatestPace_47 : decode cX3_greatestPace 47 = .ok (.iinc 2 1, 3) := by decide +kernel
theorem dX3_greatestPace_50 : decode cX3_greatestPace 50 = .ok (.goto (-45), 3) := by decide +kernel
theorem dX3_greatestPace_53 : decode cX3_greatestPace 53 = .ok (.iload_n 1, 1) := by decide +kernel
theorem dX3_greatestPace_54 : decode cX3_greatestPace 54 = .ok (.ireturn, 1) := by decide +kernel
theorem dX4_init_0 : decode cX4_init 0 = .ok (.aload_n 0, 1) := by decide +kernel
theorem dX4_init_1 : decode cX4_init 1 = .ok (.invokespecial 3, 3) := by decide +kernel
theorem dX4_init_4 : decode cX4_init 4 = .ok (.aload_n 0, 1) := by decide +kernel
theorem dX4_init_5 : decode cX4_init 5 = .ok (.bipush 6, 2) := by decide +kernel
theorem dX4_init_7 : decode cX4_init 7 = .ok (.newarray .int, 2) := by decide +kernel
theorem dX4_init_9 : decode cX4_init 9 = .ok (.putfield 9, 3) := by decide +kernel
theorem dX4_init_12 : decode cX4_init 12 = .ok (.aload_n 0, 1) := by decide +kernel
theorem dX4_init_13 : decode cX4_init 13 = .ok (.bipush 6, 2) := by decide +kernel
theorem dX4_init_15 : decode cX4_init 15 = .ok (.newarray .int, 2) := by decide +kernel
theorem dX4_init_17 : decode cX4_init 17 = .ok (.putfield 15, 3) := by decide +kernel
theorem dX4_init_20 : decode cX4_init 20 = .ok (.aload_n 0, 1) := by decide +kernel
theorem dX4_init_21 : decode cX4_init 21 = .ok (.iconst 0, 1) := by decide +kernel
theorem dX4_init_22 : decode cX4_init 22 = .ok (.putfield 18, 3) := by decide +kernel
theorem dX4_init_25 : decode cX4_init 25 = .ok (.return_, 1) := by decide +kernel
theorem dX4_add_0 : decode cX4_add 0 = .ok (.aload_n 0, 1) := by decide +kernel
theorem dX4_add_1 : decode cX4_add 1 = .ok (.getfield 9, 3) := by decide +kernel
theorem dX4_add_4 : decode cX4_add 4 = .ok (.aload_n 0, 1) := by decide +kernel
theorem dX4_add_5 : decode cX4_add 5 = .ok (.getfield 18, 3) := by decide +kernel
theorem dX4_add_8 : decode cX4_add 8 = .ok (.iload_n 1, 1) := by decide +kernel
theorem dX4_add_9 : decode cX4_add 9 = .ok (.iastore, 1) := by decide +kernel
theorem dX4_add_10 : decode cX4_add 10 = .ok (.aload_n 0, 1) := by decide +kernel
theorem dX4_add_11 : decode cX4_add 11 = .ok (.getfield 15, 3) := by decide +kernel
theorem dX4_add_14 : decode cX4_add 14 = .ok (.aload_n 0, 1) := by decide +kernel
theorem dX4_add_15 : decode cX4_add 15 = .ok (.getfield 18, 3) := by decide +kernel
theorem dX4_add_18 : decode cX4_add 18 = .ok (.iload_n 2, 1) := by decide +kernel
theorem dX4_add_19 : decode cX4_add 19 = .ok (.iastore, 1) := by decide +kernel
theorem dX4_add_20 : decode cX4_add 20 = .ok (.aload_n 0, 1) := by decide +kernel
theorem dX4_add_21 : decode cX4_add 21 = .ok (.dup, 1) := by decide +kernel
theorem dX4_add_22 : decode cX4_add 22 = .ok (.getfield 18, 3) := by decide +kernel
theorem dX4_add_25 : decode cX4_add 25 = .ok (.iconst 1, 1) := by decide +kernel
theorem dX4_add_26 : decode cX4_add 26 = .ok (.iadd, 1) := by decide +kernel
theorem dX4_add_27 : decode cX4_add 27 = .ok (.putfield 18, 3) := by decide +kernel
theorem dX4_add_30 : decode cX4_add 30 = .ok (.return_, 1) := by decide +kernel
theorem dX4_latest_0 : decode cX4_latest 0 = .ok (.aload_n 0, 1) := by decide +kernel
theorem dX4_latest_1 : decode cX4_latest 1 = .ok (.getfield 18, 3) := by decide +kernel
theorem dX4_latest_4 : decode cX4_latest 4 = .ok (.ifCond .ne 7, 3) := by decide +kernel
theorem dX4_latest_7 : decode cX4_latest 7 = .ok (.iconst (-1), 1) := by decide +kernel
theorem dX4_latest_8 : decode cX4_latest 8 = .ok (.goto 14, 3) := by decide +kernel
theorem dX4_latest_11 : decode cX4_latest 11 = .ok (.aload_n 0, 1) := by decide +kernel
theorem dX4_latest_12 : decode cX4_latest 12 = .ok (.getfield 9, 3) := by decide +kernel
theorem dX4_latest_15 : decode cX4_latest 15 = .ok (.aload_n 0, 1) := by decide +kernel
theorem dX4_latest_16 : decode cX4_latest 16 = .ok (.getfield 18, 3) := by decide +kernel
theorem dX4_latest_19 : decode cX4_latest 19 = .ok (.iconst 1, 1) := by decide +kernel
theorem dX4_latest_20 : decode cX4_latest 20 = .ok (.isub, 1) := by decide +kernel
theorem dX4_latest_21 : decode cX4_latest 21 = .ok (.iaload, 1) := by decide +kernel
theorem dX4_latest_22 : decode cX4_latest 22 = .ok (.ireturn, 1) := by decide +kernel
set_option maxRecDepth 20000 in
theorem ggX4_above_X4_lastAhead : GoodIn wsX4_above wsX4_lastAhead := goodIn_r _ [7, 8, 9, 10, 11, 12, 2, 24, 25, 26] (by decide +kernel) (by decide +kernel)
set_option maxRecDepth 20000 in
theorem gX4_above_X4_lastAhead : GoodIn wsX4_above (wsV RX4 22 RX4 yX4_lastAhead wsX4_lastAhead) := goodIn_app (goodIn_of _ (by decide +kernel)) ggX4_above_X4_lastAhead
set_option maxRecDepth 20000 in
theorem ggX4_above_X4_nextInRing : GoodIn wsX4_above wsX4_nextInRing := goodIn_r _ [16, 8, 24, 25, 26] (by decide +kernel) (by decide +kernel)
set_option maxRecDepth 20000 in
theorem gX4_above_X4_nextInRing : GoodIn wsX4_above (wsV RX4 26 RX4 yX4_nextInRing wsX4_nextInRing) := goodIn_app (goodIn_of _ (by decide +kernel)) ggX4_above_X4_nextInRing
set_option maxRecDepth 20000 in
theorem ggX4_above_X4_below : GoodIn wsX4_above wsX4_below := goodIn_r _ [20, 2, 3, 4, 5, 6, 7, 8, 9, 10, 11, 12, 13, 14, 15, 16, 21, 22, 23, 24, 25, 26] (by decide +kernel) (by decide +kernel)
set_option maxRecDepth 20000 in
theorem gX4_above_X4_below : GoodIn wsX4_above (wsV RX4 29 RX4 yX4_below wsX4_below) := goodIn_app (goodIn_of _ (by decide +kernel)) ggX4_above_X4_below
set_option maxRecDepth 20000 in
theorem ggX4_above_X9_wayUp : GoodIn wsX4_above wsX9_wayUp := goodIn_r _ [23] (by decide +kernel) (by decide +kernel)
set_option maxRecDepth 20000 in
theorem gX4_above_X9_wayUp_n32 : GoodIn wsX4_above (wsX9_wayUp) := ggX4_above_X9_wayUp
theorem dX4_above_0 : decode cX4_above 0 = .ok (.aload_n 0, 1) := by decide +kernel
theorem dX4_above_1 : decode cX4_above 1 = .ok (.iload_n 1, 1) := by decide +kernel
theorem dX4_above_2 : decode cX4_above 2 = .ok (.invokevirtual 22, 3) := by decide +kernel
theorem dX4_above_5 : decode cX4_above 5 = .ok (.istore_n 2, 1) := by decide +kernel
theorem dX4_above_6 : decode cX4_above 6 = .ok (.aload_n 0, 1) := by decide +kernel
theorem dX4_above_7 : decode cX4_above 7 = .ok (.getfield 15, 3) := by decide +kernel
theorem dX4_above_10 : decode cX4_above 10 = .ok (.aload_n 0, 1) := by decide +kernel
theorem dX4_above_11 : decode cX4_above 11 = .ok (.iload_n 2, 1) := by decide +kernel
theorem dX4_above_12 : decode cX4_above 12 = .ok (.invokevirtual 26, 3) := by decide +kernel
theorem dX4_above_15 : decode cX4_above 15 = .ok (.iaload, 1) := by decide +kernel
theorem dX4_above_16 : decode cX4_above 16 = .ok (.aload_n 0, 1) := by decide +kernel
theorem dX4_above_17 : decode cX4_above 17 = .ok (.getfield 15, 3) := by decide +kernel
theorem dX4_above_20 : decode cX4_above 20 = .ok (.iload_n 2, 1) := by decide +kernel
theorem dX4_above_21 : decode cX4_above 21 = .ok (.iaload, 1) := by decide +kernel
theorem dX4_above_22 : decode cX4_above 22 = .ok (.isub, 1) := by decide +kernel
theorem dX4_above_23 : decode cX4_above 23 = .ok (.istore_n 3, 1) := by decide +kernel
theorem dX4_above_24 : decode cX4_above 24 = .ok (.aload_n 0, 1) := by decide +kernel
theorem dX4_above_25 : decode cX4_above 25 = .ok (.getfield 15, 3) := by decide +kernel
theorem dX4_above_28 : decode cX4_above 28 = .ok (.iload_n 2, 1) := by decide +kernel
theorem dX4_above_29 : decode cX4_above 29 = .ok (.iaload, 1) := by decide +kernel
theorem dX4_above_30 : decode cX4_above 30 = .ok (.aload_n 0, 1) := by decide +kernel
theorem dX4_above_31 : decode cX4_above 31 = .ok (.iload_n 1, 1) := by decide +kernel
theorem dX4_above_32 : decode cX4_above 32 = .ok (.invokevirtual 29, 3) := by decide +kernel
theorem dX4_above_35 : decode cX4_above 35 = .ok (.imul, 1) := by decide +kernel
theorem dX4_above_36 : decode cX4_above 36 = .ok (.iload_n 3, 1) := by decide +kernel
theorem dX4_above_37 : decode cX4_above 37 = .ok (.aload_n 0, 1) := by decide +kernel
theorem dX4_above_38 : decode cX4_above 38 = .ok (.getfield 9, 3) := by decide +kernel
theorem dX4_above_41 : decode cX4_above 41 = .ok (.iload_n 2, 1) := by decide +kernel
theorem dX4_above_42 : decode cX4_above 42 = .ok (.iaload, 1) := by decide +kernel
theorem dX4_above_43 : decode cX4_above 43 = .ok (.iload_n 1, 1) := by decide +kernel
theorem dX4_above_44 : decode cX4_above 44 = .ok (.invokestatic 32, 3) := by decide +kernel
theorem dX4_above_47 : decode cX4_above 47 = .ok (.imul, 1) := by decide +kernel
theorem dX4_above_48 : decode cX4_above 48 = .ok (.iadd, 1) := by decide +kernel
theorem dX4_above_49 : decode cX4_above 49 = .ok (.ireturn, 1) := by decide +kernel
set_option maxRecDepth 20000 in
theorem ggX4_below_X4_lastAhead : GoodIn wsX4_below wsX4_lastAhead := goodIn_r _ [6, 7, 8, 9, 10, 11, 1, 19, 20, 21] (by decide +kernel) (by decide +kernel)
set_option maxRecDepth 20000 in
theorem gX4_below_X4_lastAhead : GoodIn wsX4_below (wsV RX4 22 RX4 yX4_lastAhead wsX4_lastAhead) := goodIn_app (goodIn_of _ (by decide +kernel)) ggX4_below_X4_lastAhead
set_option maxRecDepth 20000 in
theorem ggX4_below_X4_nextInRing : GoodIn wsX4_below wsX4_nextInRing := goodIn_r _ [15, 7, 19, 20, 21] (by decide +kernel) (by decide +kernel)
set_option maxRecDepth 20000 in
theorem gX4_below_X4_nextInRing : GoodIn wsX4_below (wsV RX4 26 RX4 yX4_nextInRing wsX4_nextInRing) := goodIn_app (goodIn_of _ (by decide +kernel)) ggX4_below_X4_nextInRing
set_option maxRecDepth 20000 in
theorem ggX4_below_X9_wayUp : GoodIn wsX4_below wsX9_wayUp := goodIn_r _ [18] (by decide +kernel) (by decide +kernel)
set_option maxRecDepth 20000 in
theorem gX4_below_X9_wayUp_n32 : GoodIn wsX4_below (wsX9_wayUp) := ggX4_below_X9_wayUp
theorem dX4_below_0 : decode cX4_below 0 = .ok (.aload_n 0, 1) := by decide +kernel
theorem dX4_below_1 : decode cX4_below 1 = .ok (.iload_n 1, 1) := by decide +kernel
theorem dX4_below_2 : decode cX4_below 2 = .ok (.invokevirtual 22, 3) := by decide +kernel
theorem dX4_below_5 : decode cX4_below 5 = .ok (.istore_n 2, 1) := by decide +kernel
theorem dX4_below_6 : decode cX4_below 6 = .ok (.aload_n 0, 1) := by decide +kernel
theorem dX4_below_7 : decode cX4_below 7 = .ok (.getfield 9, 3) := by decide +kernel
theorem dX4_below_10 : decode cX4_below 10 = .ok (.iload_n 2, 1) := by decide +kernel
theorem dX4_below_11 : decode cX4_below 11 = .ok (.iaload, 1) := by decide +kernel
theorem dX4_below_12 : decode cX4_below 12 = .ok (.aload_n 0, 1) := by decide +kernel
theorem dX4_below_13 : decode cX4_below 13 = .ok (.getfield 9, 3) := by decide +kernel
theorem dX4_below_16 : decode cX4_below 16 = .ok (.aload_n 0, 1) := by decide +kernel
theorem dX4_below_17 : decode cX4_below 17 = .ok (.iload_n 2, 1) := by decide +kernel
theorem dX4_below_18 : decode cX4_below 18 = .ok (.invokevirtual 26, 3) := by decide +kernel
theorem dX4_below_21 : decode cX4_below 21 = .ok (.iaload, 1) := by decide +kernel
theorem dX4_below_22 : decode cX4_below 22 = .ok (.invokestatic 32, 3) := by decide +kernel
theorem dX4_below_25 : decode cX4_below 25 = .ok (.istore_n 3, 1) := by decide +kernel
theorem dX4_below_26 : decode cX4_below 26 = .ok (.iload_n 3, 1) := by decide +kernel
theorem dX4_below_27 : decode cX4_below 27 = .ok (.ifCond .ne 9, 3) := by decide +kernel
theorem dX4_below_30 : decode cX4_below 30 = .ok (.sipush 360, 3) := by decide +kernel
theorem dX4_below_33 : decode cX4_below 33 = .ok (.goto 4, 3) := by decide +kernel
theorem dX4_below_36 : decode cX4_below 36 = .ok (.iload_n 3, 1) := by decide +kernel
theorem dX4_below_37 : decode cX4_below 37 = .ok (.ireturn, 1) := by decide +kernel
theorem dX4_lastAhead_0 : decode cX4_lastAhead 0 = .ok (.iconst 0, 1) := by decide +kernel
theorem dX4_lastAhead_1 : decode cX4_lastAhead 1 = .ok (.aload_n 0, 1) := by decide +kernel
theorem dX4_lastAhead_2 : decode cX4_lastAhead 2 = .ok (.getfield 18, 3) := by decide +kernel
theorem dX4_lastAhead_5 : decode cX4_lastAhead 5 = .ok (.iconst 1, 1) := by decide +kernel
theorem dX4_lastAhead_6 : decode cX4_lastAhead 6 = .ok (.isub, 1) := by decide +kernel
theorem dX4_lastAhead_7 : decode cX4_lastAhead 7 = .ok (.invokestatic 36, 3) := by decide +kernel
theorem dX4_lastAhead_10 : decode cX4_lastAhead 10 = .ok (.istore_n 2, 1) := by decide +kernel
theorem dX4_lastAhead_11 : decode cX4_lastAhead 11 = .ok (.iconst 0, 1) := by decide +kernel
theorem dX4_lastAhead_12 : decode cX4_lastAhead 12 = .ok (.istore_n 3, 1) := by decide +kernel
theorem dX4_lastAhead_13 : decode cX4_lastAhead 13 = .ok (.iload_n 3, 1) := by decide +kernel
theorem dX4_lastAhead_14 : decode cX4_lastAhead 14 = .ok (.aload_n 0, 1) := by decide +kernel
theorem dX4_lastAhead_15 : decode cX4_lastAhead 15 = .ok (.getfield 18, 3) := by decide +kernel
theorem dX4_lastAhead_18 : decode cX4_lastAhead 18 = .ok (.if_icmp .ge 21, 3) := by decide +kernel
theorem dX4_lastAhead_21 : decode cX4_lastAhead 21 = .ok (.aload_n 0, 1) := by decide +kernel
theorem dX4_lastAhead_22 : decode cX4_lastAhead 22 = .ok (.getfield 9, 3) := by decide +kernel
theorem dX4_lastAhead_25 : decode cX4_lastAhead 25 = .ok (.iload_n 3, 1) := by decide +kernel
theorem dX4_lastAhead_26 : decode cX4_lastAhead 26 = .ok (.iaload, 1) := by decide +kernel
theorem dX4_lastAhead_27 : decode cX4_lastAhead 27 = .ok (.iload_n 1, 1) := by decide +kernel
theorem dX4_lastAhead_28 : decode cX4_lastAhead 28 = .ok (.if_icmp .gt 5, 3) := by decide +kernel
theorem dX4_lastAhead_31 : decode cX4_lastAhead 31 = .ok (.iload_n 3, 1) := by decide +kernel
theorem dX4_lastAhead_32 : decode cX4_lastAhead 32 = .ok (.istore_n 2, 1) := by decide +kernel
theorem dX4_lastAhead_33 : decode cX4_lastAhead 33 = .ok (.iinc 3 1, 3) := by decide +kernel
theorem dX4_lastAhead_36 : decode cX4_lastAhead 36 = .ok (.goto (-23), 3) := by decide +kernel
theorem dX4_lastAhead_39 : decode cX4_lastAhead 39 = .ok (.iload_n 2, 1) := by decide +kernel
theorem dX4_lastAhead_40 : decode cX4_lastAhead 40 = .ok (.ireturn, 1) := by decide +kernel
theorem dX4_nextInRing_0 : decode cX4_nextInRing 0 = .ok (.iload_n 1, 1) := by decide +kernel
theorem dX4_nextInRing_1 : decode cX4_nextInRing 1 = .ok (.iconst 1, 1) := by decide +kernel
theorem dX4_nextInRing_2 : decode cX4_nextInRing 2 = .ok (.iadd, 1) := by decide +kernel
theorem dX4_nextInRing_3 : decode cX4_nextInRing 3 = .ok (.aload_n 0, 1) := by decide +kernel
theorem dX4_nextInRing_4 : decode cX4_nextInRing 4 = .ok (.getfield 18, 3) := by decide +kernel
theorem dX4_nextInRing_7 : decode cX4_nextInRing 7 = .ok (.if_icmp .ge 9, 3) := by decide +kernel
theorem dX4_nextInRing_10 : decode cX4_nextInRing 10 = .ok (.iload_n 1, 1) := by decide +kernel
theorem dX4_nextInRing_11 : decode cX4_nextInRing 11 = .ok (.iconst 1, 1) := by decide +kernel
theorem dX4_nextInRing_12 : decode cX4_nextInRing 12 = .ok (.iadd, 1) := by decide +kernel
theorem dX4_nextInRing_13 : decode cX4_nextInRing 13 = .ok (.goto 4, 3) := by decide +kernel
theorem dX4_nextInRing_16 : decode cX4_nextInRing 16 = .ok (.iconst 0, 1) := by decide +kernel
theorem dX4_nextInRing_17 : decode cX4_nextInRing 17 = .ok (.ireturn, 1) := by decide +kernel
theorem dX5_init_0 : decode cX5_init 0 = .ok (.aload_n 0, 1) := by decide +kernel
theorem dX5_init_1 : decode cX5_init 1 = .ok (.invokespecial 3, 3) := by decide +kernel
theorem dX5_init_4 : decode cX5_init 4 = .ok (.aload_n 0, 1) := by decide +kernel
theorem dX5_init_5 : decode cX5_init 5 = .ok (.bipush 30, 2) := by decide +kernel
theorem dX5_init_7 : decode cX5_init 7 = .ok (.newarray .int, 2) := by decide +kernel
theorem dX5_init_9 : decode cX5_init 9 = .ok (.putfield 9, 3) := by decide +kernel
theorem dX5_init_12 : decode cX5_init 12 = .ok (.aload_n 0, 1) := by decide +kernel
theorem dX5_init_13 : decode cX5_init 13 = .ok (.bipush 30, 2) := by decide +kernel
theorem dX5_init_15 : decode cX5_init 15 = .ok (.newarray .int, 2) := by decide +kernel
theorem dX5_init_17 : decode cX5_init 17 = .ok (.putfield 15, 3) := by decide +kernel
theorem dX5_init_20 : decode cX5_init 20 = .ok (.aload_n 0, 1) := by decide +kernel
theorem dX5_init_21 : decode cX5_init 21 = .ok (.bipush 30, 2) := by decide +kernel
theorem dX5_init_23 : decode cX5_init 23 = .ok (.newarray .boolean, 2) := by decide +kernel
theorem dX5_init_25 : decode cX5_init 25 = .ok (.putfield 18, 3) := by decide +kernel
theorem dX5_init_28 : decode cX5_init 28 = .ok (.aload_n 0, 1) := by decide +kernel
theorem dX5_init_29 : decode cX5_init 29 = .ok (.bipush 30, 2) := by decide +kernel
theorem dX5_init_31 : decode cX5_init 31 = .ok (.newarray .int, 2) := by decide +kernel
theorem dX5_init_33 : decode cX5_init 33 = .ok (.putfield 22, 3) := by decide +kernel
theorem dX5_init_36 : decode cX5_init 36 = .ok (.aload_n 0, 1) := by decide +kernel
theorem dX5_init_37 : decode cX5_init 37 = .ok (.bipush 30, 2) := by decide +kernel
theorem dX5_init_39 : decode cX5_init 39 = .ok (.newarray .int, 2) := by decide +kernel
theorem dX5_init_41 : decode cX5_init 41 = .ok (.putfield 25, 3) := by decide +kernel
theorem dX5_init_44 : decode cX5_init 44 = .ok (.aload_n 0, 1) := by decide +kernel
theorem dX5_init_45 : decode cX5_init 45 = .ok (.bipush 6, 2) := by decide +kernel
theorem dX5_init_47 : decode cX5_init 47 = .ok (.newarray .int, 2) := by decide +kernel
theorem dX5_init_49 : decode cX5_init 49 = .ok (.putfield 28, 3) := by decide +kernel
theorem dX5_init_52 : decode cX5_init 52 = .ok (.iconst 0, 1) := by decide +kernel
theorem dX5_init_53 : decode cX5_init 53 = .ok (.istore_n 1, 1) := by decide +kernel
theorem dX5_init_54 : decode cX5_init 54 = .ok (.iload_n 1, 1) := by decide +kernel
theorem dX5_init_55 : decode cX5_init 55 = .ok (.bipush 6, 2) := by decide +kernel
theorem dX5_init_57 : decode cX5_init 57 = .ok (.if_icmp .ge 16, 3) := by decide +kernel
theorem dX5_init_60 : decode cX5_init 60 = .ok (.aload_n 0, 1) := by decide +kernel
theorem dX5_init_61 : decode cX5_init 61 = .ok (.getfield 28, 3) := by decide +kernel
theorem dX5_init_64 : decode cX5_init 64 = .ok (.iload_n 1, 1) := by decide +kernel
theorem dX5_init_65 : decode cX5_init 65 = .ok (.iload_n 1, 1) := by decide +kernel
theorem dX5_init_66 : decode cX5_init 66 = .ok (.iastore, 1) := by decide +kernel
theorem dX5_init_67 : decode cX5_init 67 = .ok (.iinc 1 1, 3) := by decide +kernel
theorem dX5_init_70 : decode cX5_init 70 = .ok (.goto (-16), 3) := by decide +kernel
theorem dX5_init_73 : decode cX5_init 73 = .ok (.return_, 1) := by decide +kernel
theorem dX5_sectionOf_0 : decode cX5_sectionOf 0 = .ok (.iconst 0, 1) := by decide +kernel
theorem dX5_sectionOf_1 : decode cX5_sectionOf 1 = .ok (.istore_n 2, 1) := by decide +kernel
theorem dX5_sectionOf_2 : decode cX5_sectionOf 2 = .ok (.iload_n 2, 1) := by decide +kernel
theorem dX5_sectionOf_3 : decode cX5_sectionOf 3 = .ok (.bipush 6, 2) := by decide +kernel
theorem dX5_sectionOf_5 : decode cX5_sectionOf 5 = .ok (.if_icmp .ge 21, 3) := by decide +kernel
theorem dX5_sectionOf_8 : decode cX5_sectionOf 8 = .ok (.aload_n 0, 1) := by decide +kernel
theorem dX5_sectionOf_9 : decode cX5_sectionOf 9 = .ok (.getfield 28, 3) := by decide +kernel
theorem dX5_sectionOf_12 : decode cX5_sectionOf 12 = .ok (.iload_n 2, 1) := by decide +kernel
theorem dX5_sectionOf_13 : decode cX5_sectionOf 13 = .ok (.iaload, 1) := by decide +kernel
theorem dX5_sectionOf_14 : decode cX5_sectionOf 14 = .ok (.iload_n 1, 1) := by decide +kernel
theorem dX5_sectionOf_15 : decode cX5_sectionOf 15 = .ok (.if_icmp .ne 5, 3) := by decide +kernel
theorem dX5_sectionOf_18 : decode cX5_sectionOf 18 = .ok (.iload_n 2, 1) := by decide +kernel
theorem dX5_sectionOf_19 : decode cX5_sectionOf 19 = .ok (.ireturn, 1) := by decide +kernel
theorem dX5_sectionOf_20 : decode cX5_sectionOf 20 = .ok (.iinc 2 1, 3) := by decide +kernel
theorem dX5_sectionOf_23 : decode cX5_sectionOf 23 = .ok (.goto (-21), 3) := by decide +kernel
theorem dX5_sectionOf_26 : decode cX5_sectionOf 26 = .ok (.iconst (-1), 1) := by decide +kernel
theorem dX5_sectionOf_27 : decode cX5_sectionOf 27 = .ok (.ireturn, 1) := by decide +kernel
theorem dX5_makeNew_0 : decode cX5_makeNew 0 = .ok (.aload_n 0, 1) := by decide +kernel
theorem dX5_makeNew_1 : decode cX5_makeNew 1 = .ok (.getfield 9, 3) := by decide +kernel
theorem dX5_makeNew_4 : decode cX5_makeNew 4 = .ok (.iload_n 1, 1) := by decide +kernel
theorem dX5_makeNew_5 : decode cX5_makeNew 5 = .ok (.iconst 0, 1) := by decide +kernel
theorem dX5_makeNew_6 : decode cX5_makeNew 6 = .ok (.iastore, 1) := by decide +kernel
theorem dX5_makeNew_7 : decode cX5_makeNew 7 = .ok (.aload_n 0, 1) := by decide +kernel
theorem dX5_makeNew_8 : decode cX5_makeNew 8 = .ok (.getfield 15, 3) := by decide +kernel
theorem dX5_makeNew_11 : decode cX5_makeNew 11 = .ok (.iload_n 1, 1) := by decide +kernel
theorem dX5_makeNew_12 : decode cX5_makeNew 12 = .ok (.iconst 0, 1) := by decide +kernel
theorem dX5_makeNew_13 : decode cX5_makeNew 13 = .ok (.iastore, 1) := by decide +kernel
theorem dX5_makeNew_14 : decode cX5_makeNew 14 = .ok (.aload_n 0, 1) := by decide +kernel
theorem dX5_makeNew_15 : decode cX5_makeNew 15 = .ok (.getfield 18, 3) := by decide +kernel
theorem dX5_makeNew_18 : decode cX5_makeNew 18 = .ok (.iload_n 1, 1) := by decide +kernel
theorem dX5_makeNew_19 : decode cX5_makeNew 19 = .ok (.iconst 0, 1) := by decide +kernel
theorem dX5_makeNew_20 : decode cX5_makeNew 20 = .ok (.bastore, 1) := by decide +kernel
theorem dX5_makeNew_21 : decode cX5_makeNew 21 = .ok (.return_, 1) := by decide +kernel
theorem dX5_enter_0 : decode cX5_enter 0 = .ok (.iload_n 2, 1) := by decide +kernel
theorem dX5_enter_1 : decode cX5_enter 1 = .ok (.ifCond .eq 16, 3) := by decide +kernel
theorem dX5_enter_4 : decode cX5_enter 4 = .ok (.aload_n 0, 1) := by decide +kernel
theorem dX5_enter_5 : decode cX5_enter 5 = .ok (.getfield 22, 3) := by decide +kernel
theorem dX5_enter_8 : decode cX5_enter 8 = .ok (.iload_n 1, 1) := by decide +kernel
theorem dX5_enter_9 : decode cX5_enter 9 = .ok (.dup2, 1) := by decide +kernel
theorem dX5_enter_10 : decode cX5_enter 10 = .ok (.iaload, 1) := by decide +kernel
theorem dX5_enter_11 : decode cX5_enter 11 = .ok (.iconst 1, 1) := by decide +kernel
theorem dX5_enter_12 : decode cX5_enter 12 = .ok (.iadd, 1) := by decide +kernel
theorem dX5_enter_13 : decode cX5_enter 13 = .ok (.iastore, 1) := by decide +kernel
theorem dX5_enter_14 : decode cX5_enter 14 = .ok (.goto 13, 3) := by decide +kernel
theorem dX5_enter_17 : decode cX5_enter 17 = .ok (.aload_n 0, 1) := by decide +kernel
theorem dX5_enter_18 : decode cX5_enter 18 = .ok (.getfield 25, 3) := by decide +kernel
theorem dX5_enter_21 : decode cX5_enter 21 = .ok (.iload_n 1, 1) := by decide +kernel
theorem dX5_enter_22 : decode cX5_enter 22 = .ok (.dup2, 1) := by decide +kernel
theorem dX5_enter_23 : decode cX5_enter 23 = .ok (.iaload, 1) := by decide +kernel
theorem dX5_enter_24 : decode cX5_enter 24 = .ok (.iconst 1, 1) := by decide +kernel
theorem dX5_enter_25 : decode cX5_enter 25 = .ok (.iadd, 1) := by decide +kernel
theorem dX5_enter_26 : decode cX5_enter 26 = .ok (.iastore, 1) := by decide +kernel
theorem dX5_enter_27 : decode cX5_enter 27 = .ok (.return_, 1) := by decide +kernel
theorem dX6_init_0 : decode cX6_init 0 = .ok (.aload_n 0, 1) := by decide +kernel
theorem dX6_init_1 : decode cX6_init 1 = .ok (.invokespecial 3, 3) := by decide +kernel
theorem dX6_init_4 : decode cX6_init 4 = .ok (.aload_n 0, 1) := by decide +kernel
theorem dX6_init_5 : decode cX6_init 5 = .ok (.bipush 6, 2) := by decide +kernel
theorem dX6_init_7 : decode cX6_init 7 = .ok (.newarray .int, 2) := by decide +kernel
theorem dX6_init_9 : decode cX6_init 9 = .ok (.putfield 9, 3) := by decide +kernel
theorem dX6_init_12 : decode cX6_init 12 = .ok (.aload_n 0, 1) := by decide +kernel
theorem dX6_init_13 : decode cX6_init 13 = .ok (.iconst 0, 1) := by decide +kernel
theorem dX6_init_14 : decode cX6_init 14 = .ok (.putfield 15, 3) := by decide +kernel
theorem dX6_init_17 : decode cX6_init 17 = .ok (.aload_n 0, 1) := by decide +kernel
theorem dX6_init_18 : decode cX6_init 18 = .ok (.bipush 6, 2) := by decide +kernel
theorem dX6_init_20 : decode cX6_init 20 = .ok (.putfield 19, 3) := by decide +kernel
theorem dX6_init_23 : decode cX6_init 23 = .ok (.iconst 0, 1) := by decide +kernel
theorem dX6_init_24 : decode cX6_init 24 = .ok (.istore_n 1, 1) := by decide +kernel
theorem dX6_init_25 : decode cX6_init 25 = .ok (.iload_n 1, 1) := by decide +kernel
theorem dX6_init_26 : decode cX6_init 26 = .ok (.bipush 6, 2) := by decide +kernel
theorem dX6_init_28 : decode cX6_init 28 = .ok (.if_icmp .ge 16, 3) := by decide +kernel
theorem dX6_init_31 : decode cX6_init 31 = .ok (.aload_n 0, 1) := by decide +kernel
theorem dX6_init_32 : decode cX6_init 32 = .ok (.getfield 9, 3) := by decide +kernel
theorem dX6_init_35 : decode cX6_init 35 = .ok (.iload_n 1, 1) := by decide +kernel
theorem dX6_init_36 : decode cX6_init 36 = .ok (.iload_n 1, 1) := by decide +kernel
theorem dX6_init_37 : decode cX6_init 37 = .ok (.iastore, 1) := by decide +kernel
theorem dX6_init_38 : decode cX6_init 38 = .ok (.iinc 1 1, 3) := by decide +kernel
theorem dX6_init_41 : decode cX6_init 41 = .ok (.goto (-16), 3) := by decide +kernel
theorem dX6_init_44 : decode cX6_init 44 = .ok (.return_, 1) := by decide +kernel
theorem dX6_find_0 : decode cX6_find 0 = .ok (.iconst 0, 1) := by decide +kernel
theorem dX6_find_1 : decode cX6_find 1 = .ok (.istore_n 2, 1) := by decide +kernel
theorem dX6_find_2 : decode cX6_find 2 = .ok (.iload_n 2, 1) := by decide +kernel
theorem dX6_find_3 : decode cX6_find 3 = .ok (.aload_n 0, 1) := by decide +kernel
theorem dX6_find_4 : decode cX6_find 4 = .ok (.getfield 19, 3) := by decide +kernel
theorem dX6_find_7 : decode cX6_find 7 = .ok (.if_icmp .ge 21, 3) := by decide +kernel
theorem dX6_find_10 : decode cX6_find 10 = .ok (.aload_n 0, 1) := by decide +kernel
theorem dX6_find_11 : decode cX6_find 11 = .ok (.getfield 9, 3) := by decide +kernel
theorem dX6_find_14 : decode cX6_find 14 = .ok (.iload_n 2, 1) := by decide +kernel
theorem dX6_find_15 : decode cX6_find 15 = .ok (.iaload, 1) := by decide +kernel
theorem dX6_find_16 : decode cX6_find 16 = .ok (.iload_n 1, 1) := by decide +kernel
theorem dX6_find_17 : decode cX6_find 17 = .ok (.if_icmp .ne 5, 3) := by decide +kernel
theorem dX6_find_20 : decode cX6_find 20 = .ok (.iload_n 2, 1) := by decide +kernel
theorem dX6_find_21 : decode cX6_find 21 = .ok (.ireturn, 1) := by decide +kernel
theorem dX6_find_22 : decode cX6_find 22 = .ok (.iinc 2 1, 3) := by decide +kernel
theorem dX6_find_25 : decode cX6_find 25 = .ok (.goto (-23), 3) := by decide +kernel
theorem dX6_find_28 : decode cX6_find 28 = .ok (.iconst (-1), 1) := by decide +kernel
theorem dX6_find_29 : decode cX6_find 29 = .ok (.ireturn, 1) := by decide +kernel
theorem dX6_leave_0 : decode cX6_leave 0 = .ok (.iload_n 1, 1) := by decide +kernel
theorem dX6_leave_1 : decode cX6_leave 1 = .ok (.istore_n 2, 1) := by decide +kernel
theorem dX6_leave_2 : decode cX6_leave 2 = .ok (.iload_n 2, 1) := by decide +kernel
theorem dX6_leave_3 : decode cX6_leave 3 = .ok (.iconst 1, 1) := by decide +kernel
theorem dX6_leave_4 : decode cX6_leave 4 = .ok (.iadd, 1) := by decide +kernel
theorem dX6_leave_5 : decode cX6_leave 5 = .ok (.aload_n 0, 1) := by decide +kernel
theorem dX6_leave_6 : decode cX6_leave 6 = .ok (.getfield 19, 3) := by decide +kernel
theorem dX6_leave_9 : decode cX6_leave 9 = .ok (.if_icmp .ge 23, 3) := by decide +kernel
theorem dX6_leave_12 : decode cX6_leave 12 = .ok (.aload_n 0, 1) := by decide +kernel
theorem dX6_leave_13 : decode cX6_leave 13 = .ok (.getfield 9, 3) := by decide +kernel
theorem dX6_leave_16 : decode cX6_leave 16 = .ok (.iload_n 2, 1) := by decide +kernel
theorem dX6_leave_17 : decode cX6_leave 17 = .ok (.aload_n 0, 1) := by decide +kernel
theorem dX6_leave_18 : decode cX6_leave 18 = .ok (.getfield 9, 3) := by decide +kernel
theorem dX6_leave_21 : decode cX6_leave 21 = .ok (.iload_n 2, 1) := by decide +kernel
theorem dX6_leave_22 : decode cX6_leave 22 = .ok (.iconst 1, 1) := by decide +kernel
theorem dX6_leave_23 : decode cX6_leave 23 = .ok (.iadd, 1) := by decide +kernel
theorem dX6_leave_24 : decode cX6_leave 24 = .ok (.iaload, 1) := by decide +kernel
theorem dX6_leave_25 : decode cX6_leave 25 = .ok (.iastore, 1) := by decide +kernel
theorem dX6_leave_26 : decode cX6_leave 26 = .ok (.iinc 2 1, 3) := by decide +kernel
theorem dX6_leave_29 : decode cX6_leave 29 = .ok (.goto (-27), 3) := by decide +kernel
theorem dX6_leave_32 : decode cX6_leave 32 = .ok (.aload_n 0, 1) := by decide +kernel
theorem dX6_leave_33 : decode cX6_leave 33 = .ok (.dup, 1) := by decide +kernel
theorem dX6_leave_34 : decode cX6_leave 34 = .ok (.getfield 19, 3) := by decide +kernel
theorem dX6_leave_37 : decode cX6_leave 37 = .ok (.iconst 1, 1) := by decide +kernel
theorem dX6_leave_38 : decode cX6_leave 38 = .ok (.isub, 1) := by decide +kernel
theorem dX6_leave_39 : decode cX6_leave 39 = .ok (.putfield 19, 3) := by decide +kernel
theorem dX6_leave_42 : decode cX6_leave 42 = .ok (.iload_n 1, 1) := by decide +kernel
theorem dX6_leave_43 : decode cX6_leave 43 = .ok (.aload_n 0, 1) := by decide +kernel
theorem dX6_leave_44 : decode cX6_leave 44 = .ok (.getfield 15, 3) := by decide +kernel
theorem dX6_leave_47 : decode cX6_leave 47 = .ok (.if_icmp .ge 13, 3) := by decide +kernel
theorem dX6_leave_50 : decode cX6_leave 50 = .ok (.aload_n 0, 1) := by decide +kernel
theorem dX6_leave_51 : decode cX6_leave 51 = .ok (.dup, 1) := by decide +kernel
theorem dX6_leave_52 : decode cX6_leave 52 = .ok (.getfield 15, 3) := by decide +kernel
theorem dX6_leave_55 : decode cX6_leave 55 = .ok (.iconst 1, 1) := by decide +kernel
theorem dX6_leave_56 : decode cX6_leave 56 = .ok (.isub, 1) := by decide +kernel
theorem dX6_leave_57 : decode cX6_leave 57 = .ok (.putfield 15, 3) := by decide +kernel
theorem dX6_leave_60 : decode cX6_leave 60 = .ok (.aload_n 0, 1) := by decide +kernel
theorem dX6_leave_61 : decode cX6_leave 61 = .ok (.getfield 15, 3) := by decide +kernel
theorem dX6_leave_64 : decode cX6_leave 64 = .ok (.aload_n 0, 1) := by decide +kernel
theorem dX6_leave_65 : decode cX6_leave 65 = .ok (.getfield 19, 3) := by decide +kernel
theorem dX6_leave_68 : decode cX6_leave 68 = .ok (.if_icmp .lt 8, 3) := by decide +kernel
theorem dX6_leave_71 : decode cX6_leave 71 = .ok (.aload_n 0, 1) := by decide +kernel
theorem dX6_leave_72 : decode cX6_leave 72 = .ok (.iconst 0, 1) := by decide +kernel
theorem dX6_leave_73 : decode cX6_leave 73 = .ok (.putfield 15, 3) := by decide +kernel
theorem dX6_leave_76 : decode cX6_leave 76 = .ok (.return_, 1) := by decide +kernel
theorem dX6_join_0 : decode cX6_join 0 = .ok (.aload_n 0, 1) := by decide +kernel
theorem dX6_join_1 : decode cX6_join 1 = .ok (.getfield 9, 3) := by decide +kernel
theorem dX6_join_4 : decode cX6_join 4 = .ok (.aload_n 0, 1) := by decide +kernel
theorem dX6_join_5 : decode cX6_join 5 = .ok (.getfield 19, 3) := by decide +kernel
theorem dX6_join_8 : decode cX6_join 8 = .ok (.iload_n 1, 1) := by decide +kernel
theorem dX6_join_9 : decode cX6_join 9 = .ok (.iastore, 1) := by decide +kernel
theorem dX6_join_10 : decode cX6_join 10 = .ok (.aload_n 0, 1) := by decide +kernel
theorem dX6_join_11 : decode cX6_join 11 = .ok (.dup, 1) := by decide +kernel
theorem dX6_join_12 : decode cX6_join 12 = .ok (.getfield 19, 3) := by decide +kernel
theorem dX6_join_15 : decode cX6_join 15 = .ok (.iconst 1, 1) := by decide +kernel
theorem dX6_join_16 : decode cX6_join 16 = .ok (.iadd, 1) := by decide +kernel
theorem dX6_join_17 : decode cX6_join 17 = .ok (.putfield 19, 3) := by decide +kernel
theorem dX6_join_20 : decode cX6_join 20 = .ok (.return_, 1) := by decide +kernel
theorem dX6_next_0 : decode cX6_next 0 = .ok (.aload_n 0, 1) := by decide +kernel
theorem dX6_next_1 : decode cX6_next 1 = .ok (.getfield 19, 3) := by decide +kernel
theorem dX6_next_4 : decode cX6_next 4 = .ok (.ifCond .ne 7, 3) := by decide +kernel
theorem dX6_next_7 : decode cX6_next 7 = .ok (.iconst (-1), 1) := by decide +kernel
theorem dX6_next_8 : decode cX6_next 8 = .ok (.goto 12, 3) := by decide +kernel
theorem dX6_next_11 : decode cX6_next 11 = .ok (.aload_n 0, 1) := by decide +kernel
theorem dX6_next_12 : decode cX6_next 12 = .ok (.getfield 9, 3) := by decide +kernel
theorem dX6_next_15 : decode cX6_next 15 = .ok (.aload_n 0, 1) := by decide +kernel
theorem dX6_next_16 : decode cX6_next 16 = .ok (.getfield 15, 3) := by decide +kernel
theorem dX6_next_19 : decode cX6_next 19 = .ok (.iaload, 1) := by decide +kernel
theorem dX6_next_20 : decode cX6_next 20 = .ok (.ireturn, 1) := by decide +kernel
theorem dX6_pass_0 : decode cX6_pass 0 = .ok (.aload_n 0, 1) := by decide +kernel
theorem dX6_pass_1 : decode cX6_pass 1 = .ok (.aload_n 0, 1) := by decide +kernel
theorem dX6_pass_2 : decode cX6_pass 2 = .ok (.getfield 15, 3) := by decide +kernel
theorem dX6_pass_5 : decode cX6_pass 5 = .ok (.iconst 1, 1) := by decide +kernel
theorem dX6_pass_6 : decode cX6_pass 6 = .ok (.iadd, 1) := by decide +kernel
theorem dX6_pass_7 : decode cX6_pass 7 = .ok (.aload_n 0, 1) := by decide +kernel
theorem dX6_pass_8 : decode cX6_pass 8 = .ok (.getfield 19, 3) := by decide +kernel
theorem dX6_pass_11 : decode cX6_pass 11 = .ok (.if_icmp .ge 12, 3) := by decide +kernel
theorem dX6_pass_14 : decode cX6_pass 14 = .ok (.aload_n 0, 1) := by decide +kernel
theorem dX6_pass_15 : decode cX6_pass 15 = .ok (.getfield 15, 3) := by decide +kernel
theorem dX6_pass_18 : decode cX6_pass 18 = .ok (.iconst 1, 1) := by decide +kernel
theorem dX6_pass_19 : decode cX6_pass 19 = .ok (.iadd, 1) := by decide +kernel
theorem dX6_pass_20 : decode cX6_pass 20 = .ok (.goto 4, 3) := by decide +kernel
theorem dX6_pass_23 : decode cX6_pass 23 = .ok (.iconst 0, 1) := by decide +kernel
theorem dX6_pass_24 : decode cX6_pass 24 = .ok (.putfield 15, 3) := by decide +kernel
theorem dX6_pass_27 : decode cX6_pass 27 = .ok (.return_, 1) := by decide +kernel
set_option maxRecDepth 20000 in
theorem ggX7_init_X4_init : GoodIn wsX7_init wsX4_init := goodIn_r _ [10, 11, 2, 3, 12, 13, 14, 15, 22, 23, 24] (by decide +kernel) (by decide +kernel)
set_option maxRecDepth 20000 in
theorem gX7_init_X4_init_n17 : GoodIn wsX7_init (wsX4_init) := ggX7_init_X4_init
set_option maxRecDepth 20000 in
theorem ggX7_init_X4_add : GoodIn wsX7_init wsX4_add := goodIn_r _ [19, 13, 15, 14, 22, 23, 24] (by decide +kernel) (by decide +kernel)
set_option maxRecDepth 20000 in
theorem gX7_init_X4_add : GoodIn wsX7_init (wsV RX7 22 RX4 yX4_add wsX4_add) := goodIn_app (goodIn_of _ (by decide +kernel)) ggX7_init_X4_add
theorem dX7_init_0 : decode cX7_init 0 = .ok (.aload_n 0, 1) := by decide +kernel
theorem dX7_init_1 : decode cX7_init 1 = .ok (.invokespecial 3, 3) := by decide +kernel
theorem dX7_init_4 : decode cX7_init 4 = .ok (.aload_n 0, 1) := by decide +kernel
theorem dX7_init_5 : decode cX7_init 5 = .ok (.iconst 3, 1) := by decide +kernel
theorem dX7_init_6 : decode cX7_init 6 = .ok (.anewarray 9, 3) := by decide +kernel
theorem dX7_init_9 : decode cX7_init 9 = .ok (.putfield 11, 3) := by decide +kernel
theorem dX7_init_12 : decode cX7_init 12 = .ok (.aload_n 0, 1) := by decide +kernel
theorem dX7_init_13 : decode cX7_init 13 = .ok (.new 9, 3) := by decide +kernel
theorem dX7_init_16 : decode cX7_init 16 = .ok (.dup, 1) := by decide +kernel
theorem dX7_init_17 : decode cX7_init 17 = .ok (.invokespecial 17, 3) := by decide +kernel
theorem dX7_init_20 : decode cX7_init 20 = .ok (.putfield 18, 3) := by decide +kernel
theorem dX7_init_23 : decode cX7_init 23 = .ok (.iconst 0, 1) := by decide +kernel
theorem dX7_init_24 : decode cX7_init 24 = .ok (.istore_n 1, 1) := by decide +kernel
theorem dX7_init_25 : decode cX7_init 25 = .ok (.iload_n 1, 1) := by decide +kernel
theorem dX7_init_26 : decode cX7_init 26 = .ok (.iconst 3, 1) := by decide +kernel
theorem dX7_init_27 : decode cX7_init 27 = .ok (.if_icmp .ge 37, 3) := by decide +kernel
theorem dX7_init_30 : decode cX7_init 30 = .ok (.aload_n 0, 1) := by decide +kernel
theorem dX7_init_31 : decode cX7_init 31 = .ok (.getfield 11, 3) := by decide +kernel
theorem dX7_init_34 : decode cX7_init 34 = .ok (.iload_n 1, 1) := by decide +kernel
theorem dX7_init_35 : decode cX7_init 35 = .ok (.new 9, 3) := by decide +kernel
theorem dX7_init_38 : decode cX7_init 38 = .ok (.dup, 1) := by decide +kernel
theorem dX7_init_39 : decode cX7_init 39 = .ok (.invokespecial 17, 3) := by decide +kernel
theorem dX7_init_42 : decode cX7_init 42 = .ok (.aastore, 1) := by decide +kernel
theorem dX7_init_43 : decode cX7_init 43 = .ok (.aload_n 0, 1) := by decide +kernel
theorem dX7_init_44 : decode cX7_init 44 = .ok (.getfield 11, 3) := by decide +kernel
theorem dX7_init_47 : decode cX7_init 47 = .ok (.iload_n 1, 1) := by decide +kernel
theorem dX7_init_48 : decode cX7_init 48 = .ok (.aaload, 1) := by decide +kernel
theorem dX7_init_49 : decode cX7_init 49 = .ok (.iconst 0, 1) := by decide +kernel
theorem dX7_init_50 : decode cX7_init 50 = .ok (.sipush 300, 3) := by decide +kernel
theorem dX7_init_53 : decode cX7_init 53 = .ok (.iload_n 1, 1) := by decide +kernel
theorem dX7_init_54 : decode cX7_init 54 = .ok (.imul, 1) := by decide +kernel
theorem dX7_init_55 : decode cX7_init 55 = .ok (.invokevirtual 22, 3) := by decide +kernel
theorem dX7_init_58 : decode cX7_init 58 = .ok (.iinc 1 1, 3) := by decide +kernel
theorem dX7_init_61 : decode cX7_init 61 = .ok (.goto (-36), 3) := by decide +kernel
theorem dX7_init_64 : decode cX7_init 64 = .ok (.return_, 1) := by decide +kernel
theorem dX7_swapWithTold_0 : decode cX7_swapWithTold 0 = .ok (.aload_n 0, 1) := by decide +kernel
theorem dX7_swapWithTold_1 : decode cX7_swapWithTold 1 = .ok (.getfield 11, 3) := by decide +kernel
theorem dX7_swapWithTold_4 : decode cX7_swapWithTold 4 = .ok (.iload_n 1, 1) := by decide +kernel
theorem dX7_swapWithTold_5 : decode cX7_swapWithTold 5 = .ok (.aaload, 1) := by decide +kernel
theorem dX7_swapWithTold_6 : decode cX7_swapWithTold 6 = .ok (.astore_n 2, 1) := by decide +kernel
theorem dX7_swapWithTold_7 : decode cX7_swapWithTold 7 = .ok (.aload_n 0, 1) := by decide +kernel
theorem dX7_swapWithTold_8 : decode cX7_swapWithTold 8 = .ok (.getfield 11, 3) := by decide +kernel
theorem dX7_swapWithTold_11 : decode cX7_swapWithTold 11 = .ok (.iload_n 1, 1) := by decide +kernel
theorem dX7_swapWithTold_12 : decode cX7_swapWithTold 12 = .ok (.aload_n 0, 1) := by decide +kernel
theorem dX7_swapWithTold_13 : decode cX7_swapWithTold 13 = .ok (.getfield 18, 3) := by decide +kernel
theorem dX7_swapWithTold_16 : decode cX7_swapWithTold 16 = .ok (.aastore, 1) := by decide +kernel
theorem dX7_swapWithTold_17 : decode cX7_swapWithTold 17 = .ok (.aload_n 0, 1) := by decide +kernel
theorem dX7_swapWithTold_18 : decode cX7_swapWithTold 18 = .ok (.aload_n 2, 1) := by decide +kernel
theorem dX7_swapWithTold_19 : decode cX7_swapWithTold 19 = .ok (.putfield 18, 3) := by decide +kernel
theorem dX7_swapWithTold_22 : decode cX7_swapWithTold 22 = .ok (.return_, 1) := by decide +kernel
set_option maxRecDepth 20000 in
theorem ggX7_isClear_X7_isPairClear : GoodIn wsX7_isClear wsX7_isPairClear := goodIn_r _ [5, 6, 7, 8, 9, 4, 10, 11, 12, 13, 14, 15, 16, 17, 18, 19, 20, 21, 22, 23, 24, 25, 26, 27, 28, 29, 30, 31, 32, 33, 34, 35, 36, 37, 38, 41, 42, 43] (by decide +kernel) (by decide +kernel)
set_option maxRecDepth 20000 in
theorem gX7_isClear_X7_isPairClear : GoodIn wsX7_isClear (va_wsS RX7 26 yX7_isPairClear wsX7_isPairClear) := goodIn_app (goodIn_of _ (by decide +kernel)) ggX7_isClear_X7_isPairClear
theorem dX7_isClear_0 : decode cX7_isClear 0 = .ok (.iconst 0, 1) := by decide +kernel
theorem dX7_isClear_1 : decode cX7_isClear 1 = .ok (.istore_n 1, 1) := by decide +kernel
theorem dX7_isClear_2 : decode cX7_isClear 2 = .ok (.iload_n 1, 1) := by decide +kernel
theorem dX7_isClear_3 : decode cX7_isClear 3 = .ok (.iconst 3, 1) := by decide +kernel
theorem dX7_isClear_4 : decode cX7_isClear 4 = .ok (.if_icmp .ge 44, 3) := by decide +kernel
theorem dX7_isClear_7 : decode cX7_isClear 7 = .ok (.iload_n 1, 1) := by decide +kernel
theorem dX7_isClear_8 : decode cX7_isClear 8 = .ok (.iconst 1, 1) := by decide +kernel
theorem dX7_isClear_9 : decode cX7_isClear 9 = .ok (.iadd, 1) := by decide +kernel
theorem dX7_isClear_10 : decode cX7_isClear 10 = .ok (.istore_n 2, 1) := by decide +kernel
theorem dX7_isClear_11 : decode cX7_isClear 11 = .ok (.iload_n 2, 1) := by decide +kernel
theorem dX7_isClear_12 : decode cX7_isClear 12 = .ok (.iconst 3, 1) := by decide +kernel
theorem dX7_isClear_13 : decode cX7_isClear 13 = .ok (.if_icmp .ge 29, 3) := by decide +kernel
theorem dX7_isClear_16 : decode cX7_isClear 16 = .ok (.aload_n 0, 1) := by decide +kernel
theorem dX7_isClear_17 : decode cX7_isClear 17 = .ok (.getfield 11, 3) := by decide +kernel
theorem dX7_isClear_20 : decode cX7_isClear 20 = .ok (.iload_n 1, 1) := by decide +kernel
theorem dX7_isClear_21 : decode cX7_isClear 21 = .ok (.aaload, 1) := by decide +kernel
theorem dX7_isClear_22 : decode cX7_isClear 22 = .ok (.aload_n 0, 1) := by decide +kernel
theorem dX7_isClear_23 : decode cX7_isClear 23 = .ok (.getfield 11, 3) := by decide +kernel
theorem dX7_isClear_26 : decode cX7_isClear 26 = .ok (.iload_n 2, 1) := by decide +kernel
theorem dX7_isClear_27 : decode cX7_isClear 27 = .ok (.aaload, 1) := by decide +kernel
theorem dX7_isClear_28 : decode cX7_isClear 28 = .ok (.invokestatic 26, 3) := by decide +kernel
theorem dX7_isClear_31 : decode cX7_isClear 31 = .ok (.ifCond .ne 5, 3) := by decide +kernel
theorem dX7_isClear_34 : decode cX7_isClear 34 = .ok (.iconst 0, 1) := by decide +kernel
theorem dX7_isClear_35 : decode cX7_isClear 35 = .ok (.ireturn, 1) := by decide +kernel
theorem dX7_isClear_36 : decode cX7_isClear 36 = .ok (.iinc 2 1, 3) := by decide +kernel
theorem dX7_isClear_39 : decode cX7_isClear 39 = .ok (.goto (-28), 3) := by decide +kernel
theorem dX7_isClear_42 : decode cX7_isClear 42 = .ok (.iinc 1 1, 3) := by decide +kernel
theorem dX7_isClear_45 : decode cX7_isClear 45 = .ok (.goto (-43), 3) := by decide +kernel
theorem dX7_isClear_48 : decode cX7_isClear 48 = .ok (.iconst 1, 1) := by decide +kernel
theorem dX7_isClear_49 : decode cX7_isClear 49 = .ok (.ireturn, 1) := by decide +kernel
set_option maxRecDepth 20000 in
theorem ggX7_nearestDegree_X7_nearerDegree : GoodIn wsX7_nearestDegree wsX7_nearerDegree := goodIn_r _ [6, 7, 8, 9, 10, 11, 12, 5, 13, 14, 15, 16, 17, 18, 19, 20, 21, 22, 23, 24, 25, 26, 27, 28, 29, 30, 31, 32, 33, 34, 35, 36, 37, 38, 39, 40, 41, 42, 43, 44, 45, 46] (by decide +kernel) (by decide +kernel)
set_option maxRecDepth 20000 in
theorem gX7_nearestDegree_X7_nearerDegree : GoodIn wsX7_nearestDegree (va_wsS RX7 38 yX7_nearerDegree wsX7_nearerDegree) := goodIn_app (goodIn_of _ (by decide +kernel)) ggX7_nearestDegree_X7_nearerDegree
theorem dX7_nearestDegree_0 : decode cX7_nearestDegree 0 = .ok (.iconst 0, 1) := by decide +kernel
theorem dX7_nearestDegree_1 : decode cX7_nearestDegree 1 = .ok (.istore_n 3, 1) := by decide +kernel
theorem dX7_nearestDegree_2 : decode cX7_nearestDegree 2 = .ok (.iconst 0, 1) := by decide +kernel
theorem dX7_nearestDegree_3 : decode cX7_nearestDegree 3 = .ok (.istore 4, 2) := by decide +kernel
theorem dX7_nearestDegree_5 : decode cX7_nearestDegree 5 = .ok (.iload 4, 2) := by decide +kernel
theorem dX7_nearestDegree_7 : decode cX7_nearestDegree 7 = .ok (.aload_n 1, 1) := by decide +kernel
theorem dX7_nearestDegree_8 : decode cX7_nearestDegree 8 = .ok (.getfield 30, 3) := by decide +kernel
theorem dX7_nearestDegree_11 : decode cX7_nearestDegree 11 = .ok (.if_icmp .ge 23, 3) := by decide +kernel
theorem dX7_nearestDegree_14 : decode cX7_nearestDegree 14 = .ok (.aload_n 1, 1) := by decide +kernel
theorem dX7_nearestDegree_15 : decode cX7_nearestDegree 15 = .ok (.aload_n 2, 1) := by decide +kernel
theorem dX7_nearestDegree_16 : decode cX7_nearestDegree 16 = .ok (.iload_n 3, 1) := by decide +kernel
theorem dX7_nearestDegree_17 : decode cX7_nearestDegree 17 = .ok (.aload_n 1, 1) := by decide +kernel
theorem dX7_nearestDegree_18 : decode cX7_nearestDegree 18 = .ok (.getfield 34, 3) := by decide +kernel
theorem dX7_nearestDegree_21 : decode cX7_nearestDegree 21 = .ok (.iload 4, 2) := by decide +kernel
theorem dX7_nearestDegree_23 : decode cX7_nearestDegree 23 = .ok (.iaload, 1) := by decide +kernel
theorem dX7_nearestDegree_24 : decode cX7_nearestDegree 24 = .ok (.invokestatic 38, 3) := by decide +kernel
theorem dX7_nearestDegree_27 : decode cX7_nearestDegree 27 = .ok (.istore_n 3, 1) := by decide +kernel
theorem dX7_nearestDegree_28 : decode cX7_nearestDegree 28 = .ok (.iinc 4 1, 3) := by decide +kernel
theorem dX7_nearestDegree_31 : decode cX7_nearestDegree 31 = .ok (.goto (-26), 3) := by decide +kernel
theorem dX7_nearestDegree_34 : decode cX7_nearestDegree 34 = .ok (.iconst 0, 1) := by decide +kernel
theorem dX7_nearestDegree_35 : decode cX7_nearestDegree 35 = .ok (.istore 4, 2) := by decide +kernel
theorem dX7_nearestDegree_37 : decode cX7_nearestDegree 37 = .ok (.iload 4, 2) := by decide +kernel
theorem dX7_nearestDegree_39 : decode cX7_nearestDegree 39 = .ok (.aload_n 2, 1) := by decide +kernel
theorem dX7_nearestDegree_40 : decode cX7_nearestDegree 40 = .ok (.getfield 30, 3) := by decide +kernel
theorem dX7_nearestDegree_43 : decode cX7_nearestDegree 43 = .ok (.if_icmp .ge 23, 3) := by decide +kernel
theorem dX7_nearestDegree_46 : decode cX7_nearestDegree 46 = .ok (.aload_n 1, 1) := by decide +kernel
theorem dX7_nearestDegree_47 : decode cX7_nearestDegree 47 = .ok (.aload_n 2, 1) := by decide +kernel
theorem dX7_nearestDegree_48 : decode cX7_nearestDegree 48 = .ok (.iload_n 3, 1) := by decide +kernel
theorem dX7_nearestDegree_49 : decode cX7_nearestDegree 49 = .ok (.aload_n 2, 1) := by decide +kernel
theorem dX7_nearestDegree_50 : decode cX7_nearestDegree 50 = .ok (.getfield 34, 3) := by decide +kernel
theorem dX7_nearestDegree_53 : decode cX7_nearestDegree 53 = .ok (.iload 4, 2) := by decide +kernel
theorem dX7_nearestDegree_55 : decode cX7_nearestDegree 55 = .ok (.iaload, 1) := by decide +kernel
theorem dX7_nearestDegree_56 : decode cX7_nearestDegree 56 = .ok (.invokestatic 38, 3) := by decide +kernel
theorem dX7_nearestDegree_59 : decode cX7_nearestDegree 59 = .ok (.istore_n 3, 1) := by decide +kernel
theorem dX7_nearestDegree_60 : decode cX7_nearestDegree 60 = .ok (.iinc 4 1, 3) := by decide +kernel
theorem dX7_nearestDegree_63 : decode cX7_nearestDegree 63 = .ok (.goto (-26), 3) := by decide +kernel
theorem dX7_nearestDegree_66 : decode cX7_nearestDegree 66 = .ok (.iload_n 3, 1) := by decide +kernel
theorem dX7_nearestDegree_67 : decode cX7_nearestDegree 67 = .ok (.ireturn, 1) := by decide +kernel
set_option maxRecDepth 20000 in
theorem ggX7_isPairClear_X7_isClearAt : GoodIn wsX7_isPairClear wsX7_isClearAt := goodIn_r _ [6, 7, 8, 9, 10, 11, 12, 13, 14, 15, 16, 17, 18, 19, 20, 21, 22, 23, 24, 25, 26, 27, 28, 29, 30, 31, 32, 33, 34, 35, 36, 37] (by decide +kernel) (by decide +kernel)
set_option maxRecDepth 20000 in
theorem gX7_isPairClear_X7_isClearAt : GoodIn wsX7_isPairClear (va_wsS RX7 42 yX7_isClearAt wsX7_isClearAt) := goodIn_app (goodIn_of _ (by decide +kernel)) ggX7_isPairClear_X7_isClearAt
theorem dX7_isPairClear_0 : decode cX7_isPairClear 0 = .ok (.iconst 0, 1) := by decide +kernel
theorem dX7_isPairClear_1 : decode cX7_isPairClear 1 = .ok (.istore_n 2, 1) := by decide +kernel
theorem dX7_isPairClear_2 : decode cX7_isPairClear 2 = .ok (.iload_n 2, 1) := by decide +kernel
theorem dX7_isPairClear_3 : decode cX7_isPairClear 3 = .ok (.aload_n 0, 1) := by decide +kernel
theorem dX7_isPairClear_4 : decode cX7_isPairClear 4 = .ok (.getfield 30, 3) := by decide +kernel
theorem dX7_isPairClear_7 : decode cX7_isPairClear 7 = .ok (.if_icmp .ge 25, 3) := by decide +kernel
theorem dX7_isPairClear_10 : decode cX7_isPairClear 10 = .ok (.aload_n 0, 1) := by decide +kernel
theorem dX7_isPairClear_11 : decode cX7_isPairClear 11 = .ok (.aload_n 1, 1) := by decide +kernel
theorem dX7_isPairClear_12 : decode cX7_isPairClear 12 = .ok (.aload_n 0, 1) := by decide +kernel
theorem dX7_isPairClear_13 : decode cX7_isPairClear 13 = .ok (.getfield 34, 3) := by decide +kernel
theorem dX7_isPairClear_16 : decode cX7_isPairClear 16 = .ok (.iload_n 2, 1) := by decide +kernel
theorem dX7_isPairClear_17 : decode cX7_isPairClear 17 = .ok (.iaload, 1) := by decide +kernel
theorem dX7_isPairClear_18 : decode cX7_isPairClear 18 = .ok (.invokestatic 42, 3) := by decide +kernel
theorem dX7_isPairClear_21 : decode cX7_isPairClear 21 = .ok (.ifCond .ne 5, 3) := by decide +kernel
theorem dX7_isPairClear_24 : decode cX7_isPairClear 24 = .ok (.iconst 0, 1) := by decide +kernel
theorem dX7_isPairClear_25 : decode cX7_isPairClear 25 = .ok (.ireturn, 1) := by decide +kernel
theorem dX7_isPairClear_26 : decode cX7_isPairClear 26 = .ok (.iinc 2 1, 3) := by decide +kernel
theorem dX7_isPairClear_29 : decode cX7_isPairClear 29 = .ok (.goto (-27), 3) := by decide +kernel
theorem dX7_isPairClear_32 : decode cX7_isPairClear 32 = .ok (.iconst 0, 1) := by decide +kernel
theorem dX7_isPairClear_33 : decode cX7_isPairClear 33 = .ok (.istore_n 2, 1) := by decide +kernel
theorem dX7_isPairClear_34 : decode cX7_isPairClear 34 = .ok (.iload_n 2, 1) := by decide +kernel
theorem dX7_isPairClear_35 : decode cX7_isPairClear 35 = .ok (.aload_n 1, 1) := by decide +kernel
theorem dX7_isPairClear_36 : decode cX7_isPairClear 36 = .ok (.getfield 30, 3) := by decide +kernel
theorem dX7_isPairClear_39 : decode cX7_isPairClear 39 = .ok (.if_icmp .ge 25, 3) := by decide +kernel
theorem dX7_isPairClear_42 : decode cX7_isPairClear 42 = .ok (.aload_n 0, 1) := by decide +kernel
theorem dX7_isPairClear_43 : decode cX7_isPairClear 43 = .ok (.aload_n 1, 1) := by decide +kernel
theorem dX7_isPairClear_44 : decode cX7_isPairClear 44 = .ok (.aload_n 1, 1) := by decide +kernel
theorem dX7_isPairClear_45 : decode cX7_isPairClear 45 = .ok (.getfield 34, 3) := by decide +kernel
theorem dX7_isPairClear_48 : decode cX7_isPairClear 48 = .ok (.iload_n 2, 1) := by decide +kernel
theorem dX7_isPairClear_49 : decode cX7_isPairClear 49 = .ok (.iaload, 1) := by decide +kernel
theorem dX7_isPairClear_50 : decode cX7_isPairClear 50 = .ok (.invokestatic 42, 3) := by decide +kernel
theorem dX7_isPairClear_53 : decode cX7_isPairClear 53 = .ok (.ifCond .ne 5, 3) := by decide +kernel
theorem dX7_isPairClear_56 : decode cX7_isPairClear 56 = .ok (.iconst 0, 1) := by decide +kernel
theorem dX7_isPairClear_57 : decode cX7_isPairClear 57 = .ok (.ireturn, 1) := by decide +kernel
theorem dX7_isPairClear_58 : decode cX7_isPairClear 58 = .ok (.iinc 2 1, 3) := by decide +kernel
theorem dX7_isPairClear_61 : decode cX7_isPairClear 61 = .ok (.goto (-27), 3) := by decide +kernel
theorem dX7_isPairClear_64 : decode cX7_isPairClear 64 = .ok (.iconst 1, 1) := by decide +kernel
theorem dX7_isPairClear_65 : decode cX7_isPairClear 65 = .ok (.ireturn, 1) := by decide +kernel
set_option maxRecDepth 20000 in
theorem ggX7_isClearAt_X4_below : GoodIn wsX7_isClearAt wsX4_below := goodIn_r _ [5, 6, 7, 8, 9, 4, 10, 11, 12, 13, 14, 15, 16, 17, 18, 19, 20, 21, 22, 29, 30, 31] (by decide +kernel) (by decide +kernel)
set_option maxRecDepth 20000 in
theorem gX7_isClearAt_X4_below : GoodIn wsX7_isClearAt (wsV RX7 46 RX4 yX4_below wsX4_below) := goodIn_app (goodIn_of _ (by decide +kernel)) ggX7_isClearAt_X4_below
set_option maxRecDepth 20000 in
theorem ggX7_isClearAt_X4_above : GoodIn wsX7_isClearAt wsX4_above := goodIn_r _ [26, 27, 6, 7, 8, 9, 4, 10, 11, 12, 13, 14, 15, 16, 17, 18, 19, 28, 2, 3, 5, 20, 21, 22, 29, 30, 31] (by decide +kernel) (by decide +kernel)
set_option maxRecDepth 20000 in
theorem gX7_isClearAt_X4_above : GoodIn wsX7_isClearAt (wsV RX7 50 RX4 yX4_above wsX4_above) := goodIn_app (goodIn_of _ (by decide +kernel)) ggX7_isClearAt_X4_above
theorem dX7_isClearAt_0 : decode cX7_isClearAt 0 = .ok (.aload_n 0, 1) := by decide +kernel
theorem dX7_isClearAt_1 : decode cX7_isClearAt 1 = .ok (.iload_n 2, 1) := by decide +kernel
theorem dX7_isClearAt_2 : decode cX7_isClearAt 2 = .ok (.invokevirtual 46, 3) := by decide +kernel
theorem dX7_isClearAt_5 : decode cX7_isClearAt 5 = .ok (.istore_n 3, 1) := by decide +kernel
theorem dX7_isClearAt_6 : decode cX7_isClearAt 6 = .ok (.aload_n 0, 1) := by decide +kernel
theorem dX7_isClearAt_7 : decode cX7_isClearAt 7 = .ok (.iload_n 2, 1) := by decide +kernel
theorem dX7_isClearAt_8 : decode cX7_isClearAt 8 = .ok (.invokevirtual 50, 3) := by decide +kernel
theorem dX7_isClearAt_11 : decode cX7_isClearAt 11 = .ok (.bipush 50, 2) := by decide +kernel
theorem dX7_isClearAt_13 : decode cX7_isClearAt 13 = .ok (.iload_n 3, 1) := by decide +kernel
theorem dX7_isClearAt_14 : decode cX7_isClearAt 14 = .ok (.imul, 1) := by decide +kernel
theorem dX7_isClearAt_15 : decode cX7_isClearAt 15 = .ok (.iadd, 1) := by decide +kernel
theorem dX7_isClearAt_16 : decode cX7_isClearAt 16 = .ok (.i2l, 1) := by decide +kernel
theorem dX7_isClearAt_17 : decode cX7_isClearAt 17 = .ok (.aload_n 1, 1) := by decide +kernel
theorem dX7_isClearAt_18 : decode cX7_isClearAt 18 = .ok (.iload_n 2, 1) := by decide +kernel
theorem dX7_isClearAt_19 : decode cX7_isClearAt 19 = .ok (.invokevirtual 46, 3) := by decide +kernel
theorem dX7_isClearAt_22 : decode cX7_isClearAt 22 = .ok (.i2l, 1) := by decide +kernel
theorem dX7_isClearAt_23 : decode cX7_isClearAt 23 = .ok (.lmul, 1) := by decide +kernel
theorem dX7_isClearAt_24 : decode cX7_isClearAt 24 = .ok (.lstore 4, 2) := by decide +kernel
theorem dX7_isClearAt_26 : decode cX7_isClearAt 26 = .ok (.lload 4, 2) := by decide +kernel
theorem dX7_isClearAt_28 : decode cX7_isClearAt 28 = .ok (.aload_n 1, 1) := by decide +kernel
theorem dX7_isClearAt_29 : decode cX7_isClearAt 29 = .ok (.iload_n 2, 1) := by decide +kernel
theorem dX7_isClearAt_30 : decode cX7_isClearAt 30 = .ok (.invokevirtual 50, 3) := by decide +kernel
theorem dX7_isClearAt_33 : decode cX7_isClearAt 33 = .ok (.i2l, 1) := by decide +kernel
theorem dX7_isClearAt_34 : decode cX7_isClearAt 34 = .ok (.iload_n 3, 1) := by decide +kernel
theorem dX7_isClearAt_35 : decode cX7_isClearAt 35 = .ok (.i2l, 1) := by decide +kernel
theorem dX7_isClearAt_36 : decode cX7_isClearAt 36 = .ok (.lmul, 1) := by decide +kernel
theorem dX7_isClearAt_37 : decode cX7_isClearAt 37 = .ok (.lcmp, 1) := by decide +kernel
theorem dX7_isClearAt_38 : decode cX7_isClearAt 38 = .ok (.ifCond .gt 7, 3) := by decide +kernel
theorem dX7_isClearAt_41 : decode cX7_isClearAt 41 = .ok (.iconst 1, 1) := by decide +kernel
theorem dX7_isClearAt_42 : decode cX7_isClearAt 42 = .ok (.goto 4, 3) := by decide +kernel
theorem dX7_isClearAt_45 : decode cX7_isClearAt 45 = .ok (.iconst 0, 1) := by decide +kernel
theorem dX7_isClearAt_46 : decode cX7_isClearAt 46 = .ok (.ireturn, 1) := by decide +kernel
set_option maxRecDepth 20000 in
theorem ggX7_nearerDegree_X7_distanceAbove : GoodIn wsX7_nearerDegree wsX7_distanceAbove := goodIn_r _ [8, 9, 10, 11, 12, 13, 14, 15, 16, 17, 18, 19, 20, 21, 22, 3, 23, 24, 25, 26, 27, 28, 29, 30, 31, 32, 33, 34, 35, 39, 40, 41] (by decide +kernel) (by decide +kernel)
set_option maxRecDepth 20000 in
theorem gX7_nearerDegree_X7_distanceAbove : GoodIn wsX7_nearerDegree (va_wsS RX7 53 yX7_distanceAbove wsX7_distanceAbove) := goodIn_app (goodIn_of _ (by decide +kernel)) ggX7_nearerDegree_X7_distanceAbove
set_option maxRecDepth 20000 in
theorem ggX7_nearerDegree_X7_distanceBelow : GoodIn wsX7_nearerDegree wsX7_distanceBelow := goodIn_r _ [38, 35, 29, 30, 12, 31, 15, 16, 17, 18, 19, 20, 21, 22, 3, 23, 24, 25, 26, 27, 32, 33, 34, 39, 40, 41] (by decide +kernel) (by decide +kernel)
set_option maxRecDepth 20000 in
theorem gX7_nearerDegree_X7_distanceBelow : GoodIn wsX7_nearerDegree (va_wsS RX7 57 yX7_distanceBelow wsX7_distanceBelow) := goodIn_app (goodIn_of _ (by decide +kernel)) ggX7_nearerDegree_X7_distanceBelow
theorem dX7_nearerDegree_0 : decode cX7_nearerDegree 0 = .ok (.aload_n 0, 1) := by decide +kernel
theorem dX7_nearerDegree_1 : decode cX7_nearerDegree 1 = .ok (.aload_n 1, 1) := by decide +kernel
theorem dX7_nearerDegree_2 : decode cX7_nearerDegree 2 = .ok (.iload_n 2, 1) := by decide +kernel
theorem dX7_nearerDegree_3 : decode cX7_nearerDegree 3 = .ok (.invokestatic 53, 3) := by decide +kernel
theorem dX7_nearerDegree_6 : decode cX7_nearerDegree 6 = .ok (.aload_n 0, 1) := by decide +kernel
theorem dX7_nearerDegree_7 : decode cX7_nearerDegree 7 = .ok (.aload_n 1, 1) := by decide +kernel
theorem dX7_nearerDegree_8 : decode cX7_nearerDegree 8 = .ok (.iload_n 3, 1) := by decide +kernel
theorem dX7_nearerDegree_9 : decode cX7_nearerDegree 9 = .ok (.invokestatic 57, 3) := by decide +kernel
theorem dX7_nearerDegree_12 : decode cX7_nearerDegree 12 = .ok (.lmul, 1) := by decide +kernel
theorem dX7_nearerDegree_13 : decode cX7_nearerDegree 13 = .ok (.lstore 4, 2) := by decide +kernel
theorem dX7_nearerDegree_15 : decode cX7_nearerDegree 15 = .ok (.aload_n 0, 1) := by decide +kernel
theorem dX7_nearerDegree_16 : decode cX7_nearerDegree 16 = .ok (.aload_n 1, 1) := by decide +kernel
theorem dX7_nearerDegree_17 : decode cX7_nearerDegree 17 = .ok (.iload_n 3, 1) := by decide +kernel
theorem dX7_nearerDegree_18 : decode cX7_nearerDegree 18 = .ok (.invokestatic 53, 3) := by decide +kernel
theorem dX7_nearerDegree_21 : decode cX7_nearerDegree 21 = .ok (.aload_n 0, 1) := by decide +kernel
theorem dX7_nearerDegree_22 : decode cX7_nearerDegree 22 = .ok (.aload_n 1, 1) := by decide +kernel
theorem dX7_nearerDegree_23 : decode cX7_nearerDegree 23 = .ok (.iload_n 2, 1) := by decide +kernel
theorem dX7_nearerDegree_24 : decode cX7_nearerDegree 24 = .ok (.invokestatic 57, 3) := by decide +kernel
theorem dX7_nearerDegree_27 : decode cX7_nearerDegree 27 = .ok (.lmul, 1) := by decide +kernel
theorem dX7_nearerDegree_28 : decode cX7_nearerDegree 28 = .ok (.lstore 6, 2) := by decide +kernel
theorem dX7_nearerDegree_30 : decode cX7_nearerDegree 30 = .ok (.lload 6, 2) := by decide +kernel
theorem dX7_nearerDegree_32 : decode cX7_nearerDegree 32 = .ok (.lload 4, 2) := by decide +kernel
theorem dX7_nearerDegree_34 : decode cX7_nearerDegree 34 = .ok (.lcmp, 1) := by decide +kernel
theorem dX7_nearerDegree_35 : decode cX7_nearerDegree 35 = .ok (.ifCond .ne 9, 3) := by decide +kernel
theorem dX7_nearerDegree_38 : decode cX7_nearerDegree 38 = .ok (.iload_n 2, 1) := by decide +kernel
theorem dX7_nearerDegree_39 : decode cX7_nearerDegree 39 = .ok (.iload_n 3, 1) := by decide +kernel
theorem dX7_nearerDegree_40 : decode cX7_nearerDegree 40 = .ok (.invokestatic 60, 3) := by decide +kernel
theorem dX7_nearerDegree_43 : decode cX7_nearerDegree 43 = .ok (.ireturn, 1) := by decide +kernel
theorem dX7_nearerDegree_44 : decode cX7_nearerDegree 44 = .ok (.lload 6, 2) := by decide +kernel
theorem dX7_nearerDegree_46 : decode cX7_nearerDegree 46 = .ok (.lload 4, 2) := by decide +kernel
theorem dX7_nearerDegree_48 : decode cX7_nearerDegree 48 = .ok (.lcmp, 1) := by decide +kernel
theorem dX7_nearerDegree_49 : decode cX7_nearerDegree 49 = .ok (.ifCond .ge 7, 3) := by decide +kernel
theorem dX7_nearerDegree_52 : decode cX7_nearerDegree 52 = .ok (.iload_n 3, 1) := by decide +kernel
theorem dX7_nearerDegree_53 : decode cX7_nearerDegree 53 = .ok (.goto 4, 3) := by decide +kernel
theorem dX7_nearerDegree_56 : decode cX7_nearerDegree 56 = .ok (.iload_n 2, 1) := by decide +kernel
theorem dX7_nearerDegree_57 : decode cX7_nearerDegree 57 = .ok (.ireturn, 1) := by decide +kernel
set_option maxRecDepth 20000 in
theorem ggX7_distanceAbove_X4_above : GoodIn wsX7_distanceAbove wsX4_above := goodIn_r _ [5, 6, 7, 8, 9, 10, 4, 11, 12, 13, 14, 15, 16, 17, 18, 19, 20, 21, 22, 23, 24, 25, 26, 27, 29, 30, 31] (by decide +kernel) (by decide +kernel)
set_option maxRecDepth 20000 in
theorem gX7_distanceAbove_X4_above : GoodIn wsX7_distanceAbove (wsV RX7 50 RX4 yX4_above wsX4_above) := goodIn_app (goodIn_of _ (by decide +kernel)) ggX7_distanceAbove_X4_above
set_option maxRecDepth 20000 in
theorem ggX7_distanceAbove_X4_below : GoodIn wsX7_distanceAbove wsX4_below := goodIn_r _ [24, 7, 8, 9, 10, 4, 11, 12, 13, 14, 15, 16, 17, 18, 19, 20, 25, 26, 27, 29, 30, 31] (by decide +kernel) (by decide +kernel)
set_option maxRecDepth 20000 in
theorem gX7_distanceAbove_X4_below : GoodIn wsX7_distanceAbove (wsV RX7 46 RX4 yX4_below wsX4_below) := goodIn_app (goodIn_of _ (by decide +kernel)) ggX7_distanceAbove_X4_below
theorem dX7_distanceAbove_0 : decode cX7_distanceAbove 0 = .ok (.aload_n 1, 1) := by decide +kernel
theorem dX7_distanceAbove_1 : decode cX7_distanceAbove 1 = .ok (.iload_n 2, 1) := by decide +kernel
theorem dX7_distanceAbove_2 : decode cX7_distanceAbove 2 = .ok (.invokevirtual 50, 3) := by decide +kernel
theorem dX7_distanceAbove_5 : decode cX7_distanceAbove 5 = .ok (.i2l, 1) := by decide +kernel
theorem dX7_distanceAbove_6 : decode cX7_distanceAbove 6 = .ok (.aload_n 0, 1) := by decide +kernel
theorem dX7_distanceAbove_7 : decode cX7_distanceAbove 7 = .ok (.iload_n 2, 1) := by decide +kernel
theorem dX7_distanceAbove_8 : decode cX7_distanceAbove 8 = .ok (.invokevirtual 46, 3) := by decide +kernel
theorem dX7_distanceAbove_11 : decode cX7_distanceAbove 11 = .ok (.i2l, 1) := by decide +kernel
theorem dX7_distanceAbove_12 : decode cX7_distanceAbove 12 = .ok (.lmul, 1) := by decide +kernel
theorem dX7_distanceAbove_13 : decode cX7_distanceAbove 13 = .ok (.lstore_n 3, 1) := by decide +kernel
theorem dX7_distanceAbove_14 : decode cX7_distanceAbove 14 = .ok (.aload_n 0, 1) := by decide +kernel
theorem dX7_distanceAbove_15 : decode cX7_distanceAbove 15 = .ok (.iload_n 2, 1) := by decide +kernel
theorem dX7_distanceAbove_16 : decode cX7_distanceAbove 16 = .ok (.invokevirtual 50, 3) := by decide +kernel
theorem dX7_distanceAbove_19 : decode cX7_distanceAbove 19 = .ok (.i2l, 1) := by decide +kernel
theorem dX7_distanceAbove_20 : decode cX7_distanceAbove 20 = .ok (.aload_n 1, 1) := by decide +kernel
theorem dX7_distanceAbove_21 : decode cX7_distanceAbove 21 = .ok (.iload_n 2, 1) := by decide +kernel
theorem dX7_distanceAbove_22 : decode cX7_distanceAbove 22 = .ok (.invokevirtual 46, 3) := by decide +kernel
theorem dX7_distanceAbove_25 : decode cX7_distanceAbove 25 = .ok (.i2l, 1) := by decide +kernel
theorem dX7_distanceAbove_26 : decode cX7_distanceAbove 26 = .ok (.lmul, 1) := by decide +kernel
theorem dX7_distanceAbove_27 : decode cX7_distanceAbove 27 = .ok (.lstore 5, 2) := by decide +kernel
theorem dX7_distanceAbove_29 : decode cX7_distanceAbove 29 = .ok (.lload_n 3, 1) := by decide +kernel
theorem dX7_distanceAbove_30 : decode cX7_distanceAbove 30 = .ok (.lload 5, 2) := by decide +kernel
theorem dX7_distanceAbove_32 : decode cX7_distanceAbove 32 = .ok (.lsub, 1) := by decide +kernel
theorem dX7_distanceAbove_33 : decode cX7_distanceAbove 33 = .ok (.lreturn, 1) := by decide +kernel
set_option maxRecDepth 20000 in
theorem ggX7_distanceBelow_X4_below : GoodIn wsX7_distanceBelow wsX4_below := goodIn_r _ [5, 6, 7, 8, 9, 4, 10, 11, 12, 13, 14, 15, 16, 17, 18, 19, 20, 21, 22, 23, 24, 25] (by decide +kernel) (by decide +kernel)
set_option maxRecDepth 20000 in
theorem gX7_distanceBelow_X4_below : GoodIn wsX7_distanceBelow (wsV RX7 46 RX4 yX4_below wsX4_below) := goodIn_app (goodIn_of _ (by decide +kernel)) ggX7_distanceBelow_X4_below
theorem dX7_distanceBelow_0 : decode cX7_distanceBelow 0 = .ok (.aload_n 0, 1) := by decide +kernel
theorem dX7_distanceBelow_1 : decode cX7_distanceBelow 1 = .ok (.iload_n 2, 1) := by decide +kernel
theorem dX7_distanceBelow_2 : decode cX7_distanceBelow 2 = .ok (.invokevirtual 46, 3) := by decide +kernel
theorem dX7_distanceBelow_5 : decode cX7_distanceBelow 5 = .ok (.i2l, 1) := by decide +kernel
theorem dX7_distanceBelow_6 : decode cX7_distanceBelow 6 = .ok (.aload_n 1, 1) := by decide +kernel
theorem dX7_distanceBelow_7 : decode cX7_distanceBelow 7 = .ok (.iload_n 2, 1) := by decide +kernel
theorem dX7_distanceBelow_8 : decode cX7_distanceBelow 8 = .ok (.invokevirtual 46, 3) := by decide +kernel
theorem dX7_distanceBelow_11 : decode cX7_distanceBelow 11 = .ok (.i2l, 1) := by decide +kernel
theorem dX7_distanceBelow_12 : decode cX7_distanceBelow 12 = .ok (.lmul, 1) := by decide +kernel
theorem dX7_distanceBelow_13 : decode cX7_distanceBelow 13 = .ok (.lreturn, 1) := by decide +kernel
theorem dX8_init_0 : decode cX8_init 0 = .ok (.aload_n 0, 1) := by decide +kernel
theorem dX8_init_1 : decode cX8_init 1 = .ok (.invokespecial 3, 3) := by decide +kernel
theorem dX8_init_4 : decode cX8_init 4 = .ok (.aload_n 0, 1) := by decide +kernel
theorem dX8_init_5 : decode cX8_init 5 = .ok (.iconst 0, 1) := by decide +kernel
theorem dX8_init_6 : decode cX8_init 6 = .ok (.putfield 9, 3) := by decide +kernel
theorem dX8_init_9 : decode cX8_init 9 = .ok (.aload_n 0, 1) := by decide +kernel
theorem dX8_init_10 : decode cX8_init 10 = .ok (.iconst 0, 1) := by decide +kernel
theorem dX8_init_11 : decode cX8_init 11 = .ok (.putfield 15, 3) := by decide +kernel
theorem dX8_init_14 : decode cX8_init 14 = .ok (.aload_n 0, 1) := by decide +kernel
theorem dX8_init_15 : decode cX8_init 15 = .ok (.iconst 0, 1) := by decide +kernel
theorem dX8_init_16 : decode cX8_init 16 = .ok (.putfield 18, 3) := by decide +kernel
theorem dX8_init_19 : decode cX8_init 19 = .ok (.aload_n 0, 1) := by decide +kernel
theorem dX8_init_20 : decode cX8_init 20 = .ok (.iconst 0, 1) := by decide +kernel
theorem dX8_init_21 : decode cX8_init 21 = .ok (.putfield 21, 3) := by decide +kernel
theorem dX8_init_24 : decode cX8_init 24 = .ok (.return_, 1) := by decide +kernel
theorem dX8_become_0 : decode cX8_become 0 = .ok (.aload_n 0, 1) := by decide +kernel
theorem dX8_become_1 : decode cX8_become 1 = .ok (.iload_n 1, 1) := by decide +kernel
theorem dX8_become_2 : decode cX8_become 2 = .ok (.putfield 9, 3) := by decide +kernel
theorem dX8_become_5 : decode cX8_become 5 = .ok (.aload_n 0, 1) := by decide +kernel
theorem dX8_become_6 : decode cX8_become 6 = .ok (.iload_n 2, 1) := by decide +kernel
theorem dX8_become_7 : decode cX8_become 7 = .ok (.putfield 15, 3) := by decide +kernel
theorem dX8_become_10 : decode cX8_become 10 = .ok (.aload_n 0, 1) := by decide +kernel
