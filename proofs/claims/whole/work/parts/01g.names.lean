theorem dX10_pull_4 : decode cX10_pull 4 = .ok (.ifCond .ne 5, 3) := by decide +kernel
theorem dX10_pull_7 : decode cX10_pull 7 = .ok (.iconst (-1), 1) := by decide +kernel
theorem dX10_pull_8 : decode cX10_pull 8 = .ok (.ireturn, 1) := by decide +kernel
theorem dX10_pull_9 : decode cX10_pull 9 = .ok (.aload_n 0, 1) := by decide +kernel
theorem dX10_pull_10 : decode cX10_pull 10 = .ok (.getfield 71, 3) := by decide +kernel
theorem dX10_pull_13 : decode cX10_pull 13 = .ok (.iload_n 1, 1) := by decide +kernel
theorem dX10_pull_14 : decode cX10_pull 14 = .ok (.baload, 1) := by decide +kernel
theorem dX10_pull_15 : decode cX10_pull 15 = .ok (.istore_n 3, 1) := by decide +kernel
theorem dX10_pull_16 : decode cX10_pull 16 = .ok (.aload_n 0, 1) := by decide +kernel
theorem dX10_pull_17 : decode cX10_pull 17 = .ok (.getfield 71, 3) := by decide +kernel
theorem dX10_pull_20 : decode cX10_pull 20 = .ok (.iload_n 1, 1) := by decide +kernel
theorem dX10_pull_21 : decode cX10_pull 21 = .ok (.iload_n 2, 1) := by decide +kernel
theorem dX10_pull_22 : decode cX10_pull 22 = .ok (.bastore, 1) := by decide +kernel
theorem dX10_pull_23 : decode cX10_pull 23 = .ok (.iload_n 3, 1) := by decide +kernel
theorem dX10_pull_24 : decode cX10_pull 24 = .ok (.iload_n 2, 1) := by decide +kernel
theorem dX10_pull_25 : decode cX10_pull 25 = .ok (.if_icmp .ne 7, 3) := by decide +kernel
theorem dX10_pull_28 : decode cX10_pull 28 = .ok (.iconst 0, 1) := by decide +kernel
theorem dX10_pull_29 : decode cX10_pull 29 = .ok (.goto 4, 3) := by decide +kernel
theorem dX10_pull_32 : decode cX10_pull 32 = .ok (.iconst 1, 1) := by decide +kernel
theorem dX10_pull_33 : decode cX10_pull 33 = .ok (.ireturn, 1) := by decide +kernel
set_option maxRecDepth 20000 in
theorem ggX10_rule_X10_in : GoodIn wsX10_rule wsX10_in := goodIn_r _ [6] (by decide +kernel) (by decide +kernel)
set_option maxRecDepth 20000 in
theorem gX10_rule_X10_in : GoodIn wsX10_rule (va_wsS RX10 117 yX10_in wsX10_in) := goodIn_app (goodIn_of _ (by decide +kernel)) ggX10_rule_X10_in
theorem dX10_rule_0 : decode cX10_rule 0 = .ok (.iload_n 1, 1) := by decide +kernel
theorem dX10_rule_1 : decode cX10_rule 1 = .ok (.iconst 0, 1) := by decide +kernel
theorem dX10_rule_2 : decode cX10_rule 2 = .ok (.iconst 1, 1) := by decide +kernel
theorem dX10_rule_3 : decode cX10_rule 3 = .ok (.invokestatic 117, 3) := by decide +kernel
theorem dX10_rule_6 : decode cX10_rule 6 = .ok (.ifCond .eq 34, 3) := by decide +kernel
theorem dX10_rule_9 : decode cX10_rule 9 = .ok (.iload_n 2, 1) := by decide +kernel
theorem dX10_rule_10 : decode cX10_rule 10 = .ok (.iload_n 1, 1) := by decide +kernel
theorem dX10_rule_11 : decode cX10_rule 11 = .ok (.ifCond .ne 9, 3) := by decide +kernel
theorem dX10_rule_14 : decode cX10_rule 14 = .ok (.sipush (-200), 3) := by decide +kernel
theorem dX10_rule_17 : decode cX10_rule 17 = .ok (.goto 4, 3) := by decide +kernel
theorem dX10_rule_20 : decode cX10_rule 20 = .ok (.iconst 1, 1) := by decide +kernel
theorem dX10_rule_21 : decode cX10_rule 21 = .ok (.iload_n 1, 1) := by decide +kernel
theorem dX10_rule_22 : decode cX10_rule 22 = .ok (.ifCond .ne 9, 3) := by decide +kernel
theorem dX10_rule_25 : decode cX10_rule 25 = .ok (.sipush 200, 3) := by decide +kernel
theorem dX10_rule_28 : decode cX10_rule 28 = .ok (.goto 6, 3) := by decide +kernel
theorem dX10_rule_31 : decode cX10_rule 31 = .ok (.sipush 1000, 3) := by decide +kernel
theorem dX10_rule_34 : decode cX10_rule 34 = .ok (.invokestatic 117, 3) := by decide +kernel
theorem dX10_rule_37 : decode cX10_rule 37 = .ok (.ifCond .ne 7, 3) := by decide +kernel
theorem dX10_rule_40 : decode cX10_rule 40 = .ok (.sipush (-1000), 3) := by decide +kernel
theorem dX10_rule_43 : decode cX10_rule 43 = .ok (.ireturn, 1) := by decide +kernel
theorem dX10_rule_44 : decode cX10_rule 44 = .ok (.iload_n 1, 1) := by decide +kernel
theorem dX10_rule_45 : decode cX10_rule 45 = .ok (.ifCond .ne 10, 3) := by decide +kernel
theorem dX10_rule_48 : decode cX10_rule 48 = .ok (.aload_n 0, 1) := by decide +kernel
theorem dX10_rule_49 : decode cX10_rule 49 = .ok (.getfield 202, 3) := by decide +kernel
theorem dX10_rule_52 : decode cX10_rule 52 = .ok (.goto 7, 3) := by decide +kernel
theorem dX10_rule_55 : decode cX10_rule 55 = .ok (.aload_n 0, 1) := by decide +kernel
theorem dX10_rule_56 : decode cX10_rule 56 = .ok (.getfield 84, 3) := by decide +kernel
theorem dX10_rule_59 : decode cX10_rule 59 = .ok (.istore_n 3, 1) := by decide +kernel
theorem dX10_rule_60 : decode cX10_rule 60 = .ok (.iload_n 1, 1) := by decide +kernel
theorem dX10_rule_61 : decode cX10_rule 61 = .ok (.ifCond .ne 11, 3) := by decide +kernel
theorem dX10_rule_64 : decode cX10_rule 64 = .ok (.aload_n 0, 1) := by decide +kernel
theorem dX10_rule_65 : decode cX10_rule 65 = .ok (.iload_n 2, 1) := by decide +kernel
theorem dX10_rule_66 : decode cX10_rule 66 = .ok (.putfield 202, 3) := by decide +kernel
theorem dX10_rule_69 : decode cX10_rule 69 = .ok (.goto 8, 3) := by decide +kernel
theorem dX10_rule_72 : decode cX10_rule 72 = .ok (.aload_n 0, 1) := by decide +kernel
theorem dX10_rule_73 : decode cX10_rule 73 = .ok (.iload_n 2, 1) := by decide +kernel
theorem dX10_rule_74 : decode cX10_rule 74 = .ok (.putfield 84, 3) := by decide +kernel
theorem dX10_rule_77 : decode cX10_rule 77 = .ok (.iload_n 3, 1) := by decide +kernel
theorem dX10_rule_78 : decode cX10_rule 78 = .ok (.ireturn, 1) := by decide +kernel
set_option maxRecDepth 20000 in
theorem ggX10_book_X10_isMould : GoodIn wsX10_book wsX10_isMould := goodIn_r _ [9, 10, 11, 8, 12] (by decide +kernel) (by decide +kernel)
set_option maxRecDepth 20000 in
theorem gX10_book_X10_isMould : GoodIn wsX10_book (va_wsS RX10 196 yX10_isMould wsX10_isMould) := goodIn_app (goodIn_of _ (by decide +kernel)) ggX10_book_X10_isMould
set_option maxRecDepth 20000 in
theorem ggX10_book_X10_sectionOf : GoodIn wsX10_book wsX10_sectionOf := goodIn_r _ [16, 17, 18, 19, 20, 21, 22, 23, 24, 25, 26, 27, 28, 29, 30, 31, 32, 33, 34, 35, 36, 37, 38, 39, 40, 41, 42, 43, 44, 45, 46, 47, 48, 49, 50, 51, 52, 53, 54, 55, 56, 57, 58, 59, 60, 61, 62] (by decide +kernel) (by decide +kernel)
set_option maxRecDepth 20000 in
theorem gX10_book_X10_sectionOf : GoodIn wsX10_book (wsV RX10 199 RX10 yX10_sectionOf wsX10_sectionOf) := goodIn_app (goodIn_of _ (by decide +kernel)) ggX10_book_X10_sectionOf
theorem dX10_book_0 : decode cX10_book 0 = .ok (.iload_n 1, 1) := by decide +kernel
theorem dX10_book_1 : decode cX10_book 1 = .ok (.invokestatic 196, 3) := by decide +kernel
theorem dX10_book_4 : decode cX10_book 4 = .ok (.ifCond .ne 5, 3) := by decide +kernel
theorem dX10_book_7 : decode cX10_book 7 = .ok (.iconst (-1), 1) := by decide +kernel
theorem dX10_book_8 : decode cX10_book 8 = .ok (.ireturn, 1) := by decide +kernel
theorem dX10_book_9 : decode cX10_book 9 = .ok (.iload_n 2, 1) := by decide +kernel
theorem dX10_book_10 : decode cX10_book 10 = .ok (.tableswitch 87 0 5 #[38, 45, 52, 67, 74, 81], 38) := by decide +kernel
theorem dX10_book_48 : decode cX10_book 48 = .ok (.aload_n 0, 1) := by decide +kernel
theorem dX10_book_49 : decode cX10_book 49 = .ok (.getfield 65, 3) := by decide +kernel
theorem dX10_book_52 : decode cX10_book 52 = .ok (.iload_n 1, 1) := by decide +kernel
theorem dX10_book_53 : decode cX10_book 53 = .ok (.iaload, 1) := by decide +kernel
theorem dX10_book_54 : decode cX10_book 54 = .ok (.ireturn, 1) := by decide +kernel
theorem dX10_book_55 : decode cX10_book 55 = .ok (.aload_n 0, 1) := by decide +kernel
theorem dX10_book_56 : decode cX10_book 56 = .ok (.getfield 68, 3) := by decide +kernel
theorem dX10_book_59 : decode cX10_book 59 = .ok (.iload_n 1, 1) := by decide +kernel
theorem dX10_book_60 : decode cX10_book 60 = .ok (.iaload, 1) := by decide +kernel
theorem dX10_book_61 : decode cX10_book 61 = .ok (.ireturn, 1) := by decide +kernel
theorem dX10_book_62 : decode cX10_book 62 = .ok (.aload_n 0, 1) := by decide +kernel
theorem dX10_book_63 : decode cX10_book 63 = .ok (.getfield 71, 3) := by decide +kernel
theorem dX10_book_66 : decode cX10_book 66 = .ok (.iload_n 1, 1) := by decide +kernel
theorem dX10_book_67 : decode cX10_book 67 = .ok (.baload, 1) := by decide +kernel
theorem dX10_book_68 : decode cX10_book 68 = .ok (.ifCond .eq 7, 3) := by decide +kernel
theorem dX10_book_71 : decode cX10_book 71 = .ok (.iconst 1, 1) := by decide +kernel
theorem dX10_book_72 : decode cX10_book 72 = .ok (.goto 4, 3) := by decide +kernel
theorem dX10_book_75 : decode cX10_book 75 = .ok (.iconst 0, 1) := by decide +kernel
theorem dX10_book_76 : decode cX10_book 76 = .ok (.ireturn, 1) := by decide +kernel
theorem dX10_book_77 : decode cX10_book 77 = .ok (.aload_n 0, 1) := by decide +kernel
theorem dX10_book_78 : decode cX10_book 78 = .ok (.getfield 75, 3) := by decide +kernel
theorem dX10_book_81 : decode cX10_book 81 = .ok (.iload_n 1, 1) := by decide +kernel
theorem dX10_book_82 : decode cX10_book 82 = .ok (.iaload, 1) := by decide +kernel
theorem dX10_book_83 : decode cX10_book 83 = .ok (.ireturn, 1) := by decide +kernel
theorem dX10_book_84 : decode cX10_book 84 = .ok (.aload_n 0, 1) := by decide +kernel
theorem dX10_book_85 : decode cX10_book 85 = .ok (.getfield 78, 3) := by decide +kernel
theorem dX10_book_88 : decode cX10_book 88 = .ok (.iload_n 1, 1) := by decide +kernel
theorem dX10_book_89 : decode cX10_book 89 = .ok (.iaload, 1) := by decide +kernel
theorem dX10_book_90 : decode cX10_book 90 = .ok (.ireturn, 1) := by decide +kernel
theorem dX10_book_91 : decode cX10_book 91 = .ok (.aload_n 0, 1) := by decide +kernel
theorem dX10_book_92 : decode cX10_book 92 = .ok (.iload_n 1, 1) := by decide +kernel
theorem dX10_book_93 : decode cX10_book 93 = .ok (.invokevirtual 199, 3) := by decide +kernel
theorem dX10_book_96 : decode cX10_book 96 = .ok (.ireturn, 1) := by decide +kernel
theorem dX10_book_97 : decode cX10_book 97 = .ok (.iconst (-1), 1) := by decide +kernel
theorem dX10_book_98 : decode cX10_book 98 = .ok (.ireturn, 1) := by decide +kernel
theorem dX10_judgeOf_0 : decode cX10_judgeOf 0 = .ok (.aload_n 0, 1) := by decide +kernel
theorem dX10_judgeOf_1 : decode cX10_judgeOf 1 = .ok (.getfield 105, 3) := by decide +kernel
theorem dX10_judgeOf_4 : decode cX10_judgeOf 4 = .ok (.iload_n 1, 1) := by decide +kernel
theorem dX10_judgeOf_5 : decode cX10_judgeOf 5 = .ok (.iaload, 1) := by decide +kernel
theorem dX10_judgeOf_6 : decode cX10_judgeOf 6 = .ok (.ifCond .le 10, 3) := by decide +kernel
theorem dX10_judgeOf_9 : decode cX10_judgeOf 9 = .ok (.aload_n 0, 1) := by decide +kernel
theorem dX10_judgeOf_10 : decode cX10_judgeOf 10 = .ok (.getfield 105, 3) := by decide +kernel
theorem dX10_judgeOf_13 : decode cX10_judgeOf 13 = .ok (.iload_n 1, 1) := by decide +kernel
theorem dX10_judgeOf_14 : decode cX10_judgeOf 14 = .ok (.iaload, 1) := by decide +kernel
theorem dX10_judgeOf_15 : decode cX10_judgeOf 15 = .ok (.ireturn, 1) := by decide +kernel
theorem dX10_judgeOf_16 : decode cX10_judgeOf 16 = .ok (.aload_n 0, 1) := by decide +kernel
theorem dX10_judgeOf_17 : decode cX10_judgeOf 17 = .ok (.getfield 99, 3) := by decide +kernel
theorem dX10_judgeOf_20 : decode cX10_judgeOf 20 = .ok (.iload_n 1, 1) := by decide +kernel
theorem dX10_judgeOf_21 : decode cX10_judgeOf 21 = .ok (.iaload, 1) := by decide +kernel
theorem dX10_judgeOf_22 : decode cX10_judgeOf 22 = .ok (.aload_n 0, 1) := by decide +kernel
theorem dX10_judgeOf_23 : decode cX10_judgeOf 23 = .ok (.getfield 102, 3) := by decide +kernel
theorem dX10_judgeOf_26 : decode cX10_judgeOf 26 = .ok (.iload_n 1, 1) := by decide +kernel
theorem dX10_judgeOf_27 : decode cX10_judgeOf 27 = .ok (.iaload, 1) := by decide +kernel
theorem dX10_judgeOf_28 : decode cX10_judgeOf 28 = .ok (.isub, 1) := by decide +kernel
theorem dX10_judgeOf_29 : decode cX10_judgeOf 29 = .ok (.istore_n 2, 1) := by decide +kernel
theorem dX10_judgeOf_30 : decode cX10_judgeOf 30 = .ok (.aload_n 0, 1) := by decide +kernel
theorem dX10_judgeOf_31 : decode cX10_judgeOf 31 = .ok (.getfield 71, 3) := by decide +kernel
theorem dX10_judgeOf_34 : decode cX10_judgeOf 34 = .ok (.aload_n 0, 1) := by decide +kernel
theorem dX10_judgeOf_35 : decode cX10_judgeOf 35 = .ok (.getfield 93, 3) := by decide +kernel
theorem dX10_judgeOf_38 : decode cX10_judgeOf 38 = .ok (.iload_n 1, 1) := by decide +kernel
theorem dX10_judgeOf_39 : decode cX10_judgeOf 39 = .ok (.iaload, 1) := by decide +kernel
theorem dX10_judgeOf_40 : decode cX10_judgeOf 40 = .ok (.baload, 1) := by decide +kernel
theorem dX10_judgeOf_41 : decode cX10_judgeOf 41 = .ok (.ifCond .eq 7, 3) := by decide +kernel
theorem dX10_judgeOf_44 : decode cX10_judgeOf 44 = .ok (.iconst 5, 1) := by decide +kernel
theorem dX10_judgeOf_45 : decode cX10_judgeOf 45 = .ok (.goto 21, 3) := by decide +kernel
theorem dX10_judgeOf_48 : decode cX10_judgeOf 48 = .ok (.iload_n 2, 1) := by decide +kernel
theorem dX10_judgeOf_49 : decode cX10_judgeOf 49 = .ok (.bipush 20, 2) := by decide +kernel
theorem dX10_judgeOf_51 : decode cX10_judgeOf 51 = .ok (.if_icmp .gt 9, 3) := by decide +kernel
theorem dX10_judgeOf_54 : decode cX10_judgeOf 54 = .ok (.iload_n 2, 1) := by decide +kernel
theorem dX10_judgeOf_55 : decode cX10_judgeOf 55 = .ok (.bipush (-20), 2) := by decide +kernel
theorem dX10_judgeOf_57 : decode cX10_judgeOf 57 = .ok (.if_icmp .ge 8, 3) := by decide +kernel
theorem dX10_judgeOf_60 : decode cX10_judgeOf 60 = .ok (.bipush 6, 2) := by decide +kernel
theorem dX10_judgeOf_62 : decode cX10_judgeOf 62 = .ok (.goto 4, 3) := by decide +kernel
theorem dX10_judgeOf_65 : decode cX10_judgeOf 65 = .ok (.iconst 0, 1) := by decide +kernel
theorem dX10_judgeOf_66 : decode cX10_judgeOf 66 = .ok (.ireturn, 1) := by decide +kernel
set_option maxRecDepth 20000 in
theorem ggX10_comeOff_X10_judgeOf : GoodIn wsX10_comeOff wsX10_judgeOf := goodIn_r _ [17, 12, 8, 7, 18, 3, 19, 20, 21, 22, 23, 24, 25, 26, 27, 28, 29, 30, 31, 32, 33, 34, 35, 36, 37, 38, 39, 40, 41, 42, 43, 44, 45, 46, 47, 48, 49, 50, 51, 52, 53, 54, 55, 56, 57, 58, 59, 60, 61, 62, 63] (by decide +kernel) (by decide +kernel)
set_option maxRecDepth 20000 in
theorem gX10_comeOff_X10_judgeOf : GoodIn wsX10_comeOff (wsV RX10 205 RX10 yX10_judgeOf wsX10_judgeOf) := goodIn_app (goodIn_of _ (by decide +kernel)) ggX10_comeOff_X10_judgeOf
theorem dX10_comeOff_0 : decode cX10_comeOff 0 = .ok (.aload_n 0, 1) := by decide +kernel
theorem dX10_comeOff_1 : decode cX10_comeOff 1 = .ok (.iconst 0, 1) := by decide +kernel
theorem dX10_comeOff_2 : decode cX10_comeOff 2 = .ok (.invokevirtual 205, 3) := by decide +kernel
theorem dX10_comeOff_5 : decode cX10_comeOff 5 = .ok (.istore_n 1, 1) := by decide +kernel
theorem dX10_comeOff_6 : decode cX10_comeOff 6 = .ok (.aload_n 0, 1) := by decide +kernel
theorem dX10_comeOff_7 : decode cX10_comeOff 7 = .ok (.getfield 108, 3) := by decide +kernel
theorem dX10_comeOff_10 : decode cX10_comeOff 10 = .ok (.iload_n 1, 1) := by decide +kernel
theorem dX10_comeOff_11 : decode cX10_comeOff 11 = .ok (.dup2, 1) := by decide +kernel
theorem dX10_comeOff_12 : decode cX10_comeOff 12 = .ok (.iaload, 1) := by decide +kernel
theorem dX10_comeOff_13 : decode cX10_comeOff 13 = .ok (.iconst 1, 1) := by decide +kernel
theorem dX10_comeOff_14 : decode cX10_comeOff 14 = .ok (.iadd, 1) := by decide +kernel
theorem dX10_comeOff_15 : decode cX10_comeOff 15 = .ok (.iastore, 1) := by decide +kernel
theorem dX10_comeOff_16 : decode cX10_comeOff 16 = .ok (.aload_n 0, 1) := by decide +kernel
theorem dX10_comeOff_17 : decode cX10_comeOff 17 = .ok (.getfield 75, 3) := by decide +kernel
theorem dX10_comeOff_20 : decode cX10_comeOff 20 = .ok (.aload_n 0, 1) := by decide +kernel
theorem dX10_comeOff_21 : decode cX10_comeOff 21 = .ok (.getfield 93, 3) := by decide +kernel
theorem dX10_comeOff_24 : decode cX10_comeOff 24 = .ok (.iconst 0, 1) := by decide +kernel
theorem dX10_comeOff_25 : decode cX10_comeOff 25 = .ok (.iaload, 1) := by decide +kernel
theorem dX10_comeOff_26 : decode cX10_comeOff 26 = .ok (.dup2, 1) := by decide +kernel
theorem dX10_comeOff_27 : decode cX10_comeOff 27 = .ok (.iaload, 1) := by decide +kernel
theorem dX10_comeOff_28 : decode cX10_comeOff 28 = .ok (.iload_n 1, 1) := by decide +kernel
theorem dX10_comeOff_29 : decode cX10_comeOff 29 = .ok (.ifCond .ne 7, 3) := by decide +kernel
theorem dX10_comeOff_32 : decode cX10_comeOff 32 = .ok (.iconst 1, 1) := by decide +kernel
theorem dX10_comeOff_33 : decode cX10_comeOff 33 = .ok (.goto 4, 3) := by decide +kernel
theorem dX10_comeOff_36 : decode cX10_comeOff 36 = .ok (.iconst 0, 1) := by decide +kernel
theorem dX10_comeOff_37 : decode cX10_comeOff 37 = .ok (.iadd, 1) := by decide +kernel
theorem dX10_comeOff_38 : decode cX10_comeOff 38 = .ok (.iastore, 1) := by decide +kernel
theorem dX10_comeOff_39 : decode cX10_comeOff 39 = .ok (.aload_n 0, 1) := by decide +kernel
theorem dX10_comeOff_40 : decode cX10_comeOff 40 = .ok (.getfield 78, 3) := by decide +kernel
theorem dX10_comeOff_43 : decode cX10_comeOff 43 = .ok (.aload_n 0, 1) := by decide +kernel
theorem dX10_comeOff_44 : decode cX10_comeOff 44 = .ok (.getfield 93, 3) := by decide +kernel
theorem dX10_comeOff_47 : decode cX10_comeOff 47 = .ok (.iconst 0, 1) := by decide +kernel
theorem dX10_comeOff_48 : decode cX10_comeOff 48 = .ok (.iaload, 1) := by decide +kernel
theorem dX10_comeOff_49 : decode cX10_comeOff 49 = .ok (.dup2, 1) := by decide +kernel
theorem dX10_comeOff_50 : decode cX10_comeOff 50 = .ok (.iaload, 1) := by decide +kernel
theorem dX10_comeOff_51 : decode cX10_comeOff 51 = .ok (.iload_n 1, 1) := by decide +kernel
theorem dX10_comeOff_52 : decode cX10_comeOff 52 = .ok (.ifCond .ne 7, 3) := by decide +kernel
theorem dX10_comeOff_55 : decode cX10_comeOff 55 = .ok (.iconst 0, 1) := by decide +kernel
theorem dX10_comeOff_56 : decode cX10_comeOff 56 = .ok (.goto 4, 3) := by decide +kernel
theorem dX10_comeOff_59 : decode cX10_comeOff 59 = .ok (.iconst 1, 1) := by decide +kernel
theorem dX10_comeOff_60 : decode cX10_comeOff 60 = .ok (.iadd, 1) := by decide +kernel
theorem dX10_comeOff_61 : decode cX10_comeOff 61 = .ok (.iastore, 1) := by decide +kernel
theorem dX10_comeOff_62 : decode cX10_comeOff 62 = .ok (.aload_n 0, 1) := by decide +kernel
theorem dX10_comeOff_63 : decode cX10_comeOff 63 = .ok (.getfield 87, 3) := by decide +kernel
theorem dX10_comeOff_66 : decode cX10_comeOff 66 = .ok (.iconst 0, 1) := by decide +kernel
theorem dX10_comeOff_67 : decode cX10_comeOff 67 = .ok (.iaload, 1) := by decide +kernel
theorem dX10_comeOff_68 : decode cX10_comeOff 68 = .ok (.iconst 4, 1) := by decide +kernel
theorem dX10_comeOff_69 : decode cX10_comeOff 69 = .ok (.irem, 1) := by decide +kernel
theorem dX10_comeOff_70 : decode cX10_comeOff 70 = .ok (.ifCond .ne 65, 3) := by decide +kernel
theorem dX10_comeOff_73 : decode cX10_comeOff 73 = .ok (.aload_n 0, 1) := by decide +kernel
theorem dX10_comeOff_74 : decode cX10_comeOff 74 = .ok (.dup, 1) := by decide +kernel
theorem dX10_comeOff_75 : decode cX10_comeOff 75 = .ok (.getfield 81, 3) := by decide +kernel
theorem dX10_comeOff_78 : decode cX10_comeOff 78 = .ok (.aload_n 0, 1) := by decide +kernel
theorem dX10_comeOff_79 : decode cX10_comeOff 79 = .ok (.getfield 102, 3) := by decide +kernel
theorem dX10_comeOff_82 : decode cX10_comeOff 82 = .ok (.iconst 0, 1) := by decide +kernel
theorem dX10_comeOff_83 : decode cX10_comeOff 83 = .ok (.iaload, 1) := by decide +kernel
theorem dX10_comeOff_84 : decode cX10_comeOff 84 = .ok (.aload_n 0, 1) := by decide +kernel
theorem dX10_comeOff_85 : decode cX10_comeOff 85 = .ok (.getfield 99, 3) := by decide +kernel
theorem dX10_comeOff_88 : decode cX10_comeOff 88 = .ok (.iconst 0, 1) := by decide +kernel
theorem dX10_comeOff_89 : decode cX10_comeOff 89 = .ok (.iaload, 1) := by decide +kernel
theorem dX10_comeOff_90 : decode cX10_comeOff 90 = .ok (.isub, 1) := by decide +kernel
theorem dX10_comeOff_91 : decode cX10_comeOff 91 = .ok (.iconst 2, 1) := by decide +kernel
theorem dX10_comeOff_92 : decode cX10_comeOff 92 = .ok (.idiv, 1) := by decide +kernel
theorem dX10_comeOff_93 : decode cX10_comeOff 93 = .ok (.iadd, 1) := by decide +kernel
theorem dX10_comeOff_94 : decode cX10_comeOff 94 = .ok (.putfield 81, 3) := by decide +kernel
theorem dX10_comeOff_97 : decode cX10_comeOff 97 = .ok (.aload_n 0, 1) := by decide +kernel
theorem dX10_comeOff_98 : decode cX10_comeOff 98 = .ok (.aload_n 0, 1) := by decide +kernel
theorem dX10_comeOff_99 : decode cX10_comeOff 99 = .ok (.getfield 81, 3) := by decide +kernel
theorem dX10_comeOff_102 : decode cX10_comeOff 102 = .ok (.bipush 100, 2) := by decide +kernel
theorem dX10_comeOff_104 : decode cX10_comeOff 104 = .ok (.if_icmp .ge 8, 3) := by decide +kernel
theorem dX10_comeOff_107 : decode cX10_comeOff 107 = .ok (.bipush 100, 2) := by decide +kernel
theorem dX10_comeOff_109 : decode cX10_comeOff 109 = .ok (.goto 23, 3) := by decide +kernel
theorem dX10_comeOff_112 : decode cX10_comeOff 112 = .ok (.aload_n 0, 1) := by decide +kernel
theorem dX10_comeOff_113 : decode cX10_comeOff 113 = .ok (.getfield 81, 3) := by decide +kernel
theorem dX10_comeOff_116 : decode cX10_comeOff 116 = .ok (.sipush 900, 3) := by decide +kernel
theorem dX10_comeOff_119 : decode cX10_comeOff 119 = .ok (.if_icmp .le 9, 3) := by decide +kernel
theorem dX10_comeOff_122 : decode cX10_comeOff 122 = .ok (.sipush 900, 3) := by decide +kernel
theorem dX10_comeOff_125 : decode cX10_comeOff 125 = .ok (.goto 7, 3) := by decide +kernel
theorem dX10_comeOff_128 : decode cX10_comeOff 128 = .ok (.aload_n 0, 1) := by decide +kernel
theorem dX10_comeOff_129 : decode cX10_comeOff 129 = .ok (.getfield 81, 3) := by decide +kernel
theorem dX10_comeOff_132 : decode cX10_comeOff 132 = .ok (.putfield 81, 3) := by decide +kernel
theorem dX10_comeOff_135 : decode cX10_comeOff 135 = .ok (.aload_n 0, 1) := by decide +kernel
theorem dX10_comeOff_136 : decode cX10_comeOff 136 = .ok (.dup, 1) := by decide +kernel
theorem dX10_comeOff_137 : decode cX10_comeOff 137 = .ok (.getfield 208, 3) := by decide +kernel
theorem dX10_comeOff_140 : decode cX10_comeOff 140 = .ok (.iconst 1, 1) := by decide +kernel
theorem dX10_comeOff_141 : decode cX10_comeOff 141 = .ok (.isub, 1) := by decide +kernel
theorem dX10_comeOff_142 : decode cX10_comeOff 142 = .ok (.putfield 208, 3) := by decide +kernel
theorem dX10_comeOff_145 : decode cX10_comeOff 145 = .ok (.iconst 0, 1) := by decide +kernel
theorem dX10_comeOff_146 : decode cX10_comeOff 146 = .ok (.istore_n 2, 1) := by decide +kernel
theorem dX10_comeOff_147 : decode cX10_comeOff 147 = .ok (.iload_n 2, 1) := by decide +kernel
theorem dX10_comeOff_148 : decode cX10_comeOff 148 = .ok (.aload_n 0, 1) := by decide +kernel
theorem dX10_comeOff_149 : decode cX10_comeOff 149 = .ok (.getfield 208, 3) := by decide +kernel
theorem dX10_comeOff_152 : decode cX10_comeOff 152 = .ok (.if_icmp .ge 107, 3) := by decide +kernel
theorem dX10_comeOff_155 : decode cX10_comeOff 155 = .ok (.aload_n 0, 1) := by decide +kernel
theorem dX10_comeOff_156 : decode cX10_comeOff 156 = .ok (.getfield 87, 3) := by decide +kernel
theorem dX10_comeOff_159 : decode cX10_comeOff 159 = .ok (.iload_n 2, 1) := by decide +kernel
theorem dX10_comeOff_160 : decode cX10_comeOff 160 = .ok (.aload_n 0, 1) := by decide +kernel
theorem dX10_comeOff_161 : decode cX10_comeOff 161 = .ok (.getfield 87, 3) := by decide +kernel
theorem dX10_comeOff_164 : decode cX10_comeOff 164 = .ok (.iload_n 2, 1) := by decide +kernel
theorem dX10_comeOff_165 : decode cX10_comeOff 165 = .ok (.iconst 1, 1) := by decide +kernel
theorem dX10_comeOff_166 : decode cX10_comeOff 166 = .ok (.iadd, 1) := by decide +kernel
theorem dX10_comeOff_167 : decode cX10_comeOff 167 = .ok (.iaload, 1) := by decide +kernel
theorem dX10_comeOff_168 : decode cX10_comeOff 168 = .ok (.iastore, 1) := by decide +kernel
theorem dX10_comeOff_169 : decode cX10_comeOff 169 = .ok (.aload_n 0, 1) := by decide +kernel
theorem dX10_comeOff_170 : decode cX10_comeOff 170 = .ok (.getfield 90, 3) := by decide +kernel
theorem dX10_comeOff_173 : decode cX10_comeOff 173 = .ok (.iload_n 2, 1) := by decide +kernel
theorem dX10_comeOff_174 : decode cX10_comeOff 174 = .ok (.aload_n 0, 1) := by decide +kernel
theorem dX10_comeOff_175 : decode cX10_comeOff 175 = .ok (.getfield 90, 3) := by decide +kernel
theorem dX10_comeOff_178 : decode cX10_comeOff 178 = .ok (.iload_n 2, 1) := by decide +kernel
theorem dX10_comeOff_179 : decode cX10_comeOff 179 = .ok (.iconst 1, 1) := by decide +kernel
theorem dX10_comeOff_180 : decode cX10_comeOff 180 = .ok (.iadd, 1) := by decide +kernel
theorem dX10_comeOff_181 : decode cX10_comeOff 181 = .ok (.iaload, 1) := by decide +kernel
theorem dX10_comeOff_182 : decode cX10_comeOff 182 = .ok (.iastore, 1) := by decide +kernel
theorem dX10_comeOff_183 : decode cX10_comeOff 183 = .ok (.aload_n 0, 1) := by decide +kernel
theorem dX10_comeOff_184 : decode cX10_comeOff 184 = .ok (.getfield 93, 3) := by decide +kernel
theorem dX10_comeOff_187 : decode cX10_comeOff 187 = .ok (.iload_n 2, 1) := by decide +kernel
theorem dX10_comeOff_188 : decode cX10_comeOff 188 = .ok (.aload_n 0, 1) := by decide +kernel
theorem dX10_comeOff_189 : decode cX10_comeOff 189 = .ok (.getfield 93, 3) := by decide +kernel
theorem dX10_comeOff_192 : decode cX10_comeOff 192 = .ok (.iload_n 2, 1) := by decide +kernel
theorem dX10_comeOff_193 : decode cX10_comeOff 193 = .ok (.iconst 1, 1) := by decide +kernel
theorem dX10_comeOff_194 : decode cX10_comeOff 194 = .ok (.iadd, 1) := by decide +kernel
theorem dX10_comeOff_195 : decode cX10_comeOff 195 = .ok (.iaload, 1) := by decide +kernel
theorem dX10_comeOff_196 : decode cX10_comeOff 196 = .ok (.iastore, 1) := by decide +kernel
theorem dX10_comeOff_197 : decode cX10_comeOff 197 = .ok (.aload_n 0, 1) := by decide +kernel
theorem dX10_comeOff_198 : decode cX10_comeOff 198 = .ok (.getfield 96, 3) := by decide +kernel
theorem dX10_comeOff_201 : decode cX10_comeOff 201 = .ok (.iload_n 2, 1) := by decide +kernel
theorem dX10_comeOff_202 : decode cX10_comeOff 202 = .ok (.aload_n 0, 1) := by decide +kernel
theorem dX10_comeOff_203 : decode cX10_comeOff 203 = .ok (.getfield 96, 3) := by decide +kernel
theorem dX10_comeOff_206 : decode cX10_comeOff 206 = .ok (.iload_n 2, 1) := by decide +kernel
theorem dX10_comeOff_207 : decode cX10_comeOff 207 = .ok (.iconst 1, 1) := by decide +kernel
theorem dX10_comeOff_208 : decode cX10_comeOff 208 = .ok (.iadd, 1) := by decide +kernel
theorem dX10_comeOff_209 : decode cX10_comeOff 209 = .ok (.iaload, 1) := by decide +kernel
theorem dX10_comeOff_210 : decode cX10_comeOff 210 = .ok (.iastore, 1) := by decide +kernel
theorem dX10_comeOff_211 : decode cX10_comeOff 211 = .ok (.aload_n 0, 1) := by decide +kernel
theorem dX10_comeOff_212 : decode cX10_comeOff 212 = .ok (.getfield 99, 3) := by decide +kernel
theorem dX10_comeOff_215 : decode cX10_comeOff 215 = .ok (.iload_n 2, 1) := by decide +kernel
theorem dX10_comeOff_216 : decode cX10_comeOff 216 = .ok (.aload_n 0, 1) := by decide +kernel
theorem dX10_comeOff_217 : decode cX10_comeOff 217 = .ok (.getfield 99, 3) := by decide +kernel
theorem dX10_comeOff_220 : decode cX10_comeOff 220 = .ok (.iload_n 2, 1) := by decide +kernel
theorem dX10_comeOff_221 : decode cX10_comeOff 221 = .ok (.iconst 1, 1) := by decide +kernel
theorem dX10_comeOff_222 : decode cX10_comeOff 222 = .ok (.iadd, 1) := by decide +kernel
theorem dX10_comeOff_223 : decode cX10_comeOff 223 = .ok (.iaload, 1) := by decide +kernel
theorem dX10_comeOff_224 : decode cX10_comeOff 224 = .ok (.iastore, 1) := by decide +kernel
theorem dX10_comeOff_225 : decode cX10_comeOff 225 = .ok (.aload_n 0, 1) := by decide +kernel
theorem dX10_comeOff_226 : decode cX10_comeOff 226 = .ok (.getfield 102, 3) := by decide +kernel
theorem dX10_comeOff_229 : decode cX10_comeOff 229 = .ok (.iload_n 2, 1) := by decide +kernel
theorem dX10_comeOff_230 : decode cX10_comeOff 230 = .ok (.aload_n 0, 1) := by decide +kernel
theorem dX10_comeOff_231 : decode cX10_comeOff 231 = .ok (.getfield 102, 3) := by decide +kernel
theorem dX10_comeOff_234 : decode cX10_comeOff 234 = .ok (.iload_n 2, 1) := by decide +kernel
theorem dX10_comeOff_235 : decode cX10_comeOff 235 = .ok (.iconst 1, 1) := by decide +kernel
theorem dX10_comeOff_236 : decode cX10_comeOff 236 = .ok (.iadd, 1) := by decide +kernel
theorem dX10_comeOff_237 : decode cX10_comeOff 237 = .ok (.iaload, 1) := by decide +kernel
theorem dX10_comeOff_238 : decode cX10_comeOff 238 = .ok (.iastore, 1) := by decide +kernel
theorem dX10_comeOff_239 : decode cX10_comeOff 239 = .ok (.aload_n 0, 1) := by decide +kernel
theorem dX10_comeOff_240 : decode cX10_comeOff 240 = .ok (.getfield 105, 3) := by decide +kernel
theorem dX10_comeOff_243 : decode cX10_comeOff 243 = .ok (.iload_n 2, 1) := by decide +kernel
theorem dX10_comeOff_244 : decode cX10_comeOff 244 = .ok (.aload_n 0, 1) := by decide +kernel
theorem dX10_comeOff_245 : decode cX10_comeOff 245 = .ok (.getfield 105, 3) := by decide +kernel
theorem dX10_comeOff_248 : decode cX10_comeOff 248 = .ok (.iload_n 2, 1) := by decide +kernel
theorem dX10_comeOff_249 : decode cX10_comeOff 249 = .ok (.iconst 1, 1) := by decide +kernel
theorem dX10_comeOff_250 : decode cX10_comeOff 250 = .ok (.iadd, 1) := by decide +kernel
theorem dX10_comeOff_251 : decode cX10_comeOff 251 = .ok (.iaload, 1) := by decide +kernel
theorem dX10_comeOff_252 : decode cX10_comeOff 252 = .ok (.iastore, 1) := by decide +kernel
theorem dX10_comeOff_253 : decode cX10_comeOff 253 = .ok (.iinc 2 1, 3) := by decide +kernel
theorem dX10_comeOff_256 : decode cX10_comeOff 256 = .ok (.goto (-109), 3) := by decide +kernel
theorem dX10_comeOff_259 : decode cX10_comeOff 259 = .ok (.return_, 1) := by decide +kernel
theorem dX10_cutOne_0 : decode cX10_cutOne 0 = .ok (.aload_n 0, 1) := by decide +kernel
theorem dX10_cutOne_1 : decode cX10_cutOne 1 = .ok (.getfield 50, 3) := by decide +kernel
theorem dX10_cutOne_4 : decode cX10_cutOne 4 = .ok (.aload_n 0, 1) := by decide +kernel
theorem dX10_cutOne_5 : decode cX10_cutOne 5 = .ok (.getfield 184, 3) := by decide +kernel
theorem dX10_cutOne_8 : decode cX10_cutOne 8 = .ok (.iaload, 1) := by decide +kernel
theorem dX10_cutOne_9 : decode cX10_cutOne 9 = .ok (.istore_n 1, 1) := by decide +kernel
theorem dX10_cutOne_10 : decode cX10_cutOne 10 = .ok (.aload_n 0, 1) := by decide +kernel
theorem dX10_cutOne_11 : decode cX10_cutOne 11 = .ok (.getfield 56, 3) := by decide +kernel
theorem dX10_cutOne_14 : decode cX10_cutOne 14 = .ok (.iload_n 1, 1) := by decide +kernel
theorem dX10_cutOne_15 : decode cX10_cutOne 15 = .ok (.iaload, 1) := by decide +kernel
theorem dX10_cutOne_16 : decode cX10_cutOne 16 = .ok (.istore_n 2, 1) := by decide +kernel
theorem dX10_cutOne_17 : decode cX10_cutOne 17 = .ok (.aload_n 0, 1) := by decide +kernel
theorem dX10_cutOne_18 : decode cX10_cutOne 18 = .ok (.getfield 53, 3) := by decide +kernel
theorem dX10_cutOne_21 : decode cX10_cutOne 21 = .ok (.iload_n 1, 1) := by decide +kernel
theorem dX10_cutOne_22 : decode cX10_cutOne 22 = .ok (.iaload, 1) := by decide +kernel
theorem dX10_cutOne_23 : decode cX10_cutOne 23 = .ok (.istore_n 3, 1) := by decide +kernel
theorem dX10_cutOne_24 : decode cX10_cutOne 24 = .ok (.aload_n 0, 1) := by decide +kernel
theorem dX10_cutOne_25 : decode cX10_cutOne 25 = .ok (.getfield 65, 3) := by decide +kernel
theorem dX10_cutOne_28 : decode cX10_cutOne 28 = .ok (.iload_n 2, 1) := by decide +kernel
theorem dX10_cutOne_29 : decode cX10_cutOne 29 = .ok (.dup2, 1) := by decide +kernel
theorem dX10_cutOne_30 : decode cX10_cutOne 30 = .ok (.iaload, 1) := by decide +kernel
theorem dX10_cutOne_31 : decode cX10_cutOne 31 = .ok (.iconst 1, 1) := by decide +kernel
theorem dX10_cutOne_32 : decode cX10_cutOne 32 = .ok (.iadd, 1) := by decide +kernel
theorem dX10_cutOne_33 : decode cX10_cutOne 33 = .ok (.iastore, 1) := by decide +kernel
theorem dX10_cutOne_34 : decode cX10_cutOne 34 = .ok (.aload_n 0, 1) := by decide +kernel
theorem dX10_cutOne_35 : decode cX10_cutOne 35 = .ok (.getfield 68, 3) := by decide +kernel
theorem dX10_cutOne_38 : decode cX10_cutOne 38 = .ok (.iload_n 2, 1) := by decide +kernel
theorem dX10_cutOne_39 : decode cX10_cutOne 39 = .ok (.dup2, 1) := by decide +kernel
theorem dX10_cutOne_40 : decode cX10_cutOne 40 = .ok (.iaload, 1) := by decide +kernel
theorem dX10_cutOne_41 : decode cX10_cutOne 41 = .ok (.iconst 1, 1) := by decide +kernel
theorem dX10_cutOne_42 : decode cX10_cutOne 42 = .ok (.iadd, 1) := by decide +kernel
theorem dX10_cutOne_43 : decode cX10_cutOne 43 = .ok (.iastore, 1) := by decide +kernel
theorem dX10_cutOne_44 : decode cX10_cutOne 44 = .ok (.aload_n 0, 1) := by decide +kernel
theorem dX10_cutOne_45 : decode cX10_cutOne 45 = .ok (.getfield 208, 3) := by decide +kernel
theorem dX10_cutOne_48 : decode cX10_cutOne 48 = .ok (.istore 4, 2) := by decide +kernel
theorem dX10_cutOne_50 : decode cX10_cutOne 50 = .ok (.aload_n 0, 1) := by decide +kernel
theorem dX10_cutOne_51 : decode cX10_cutOne 51 = .ok (.getfield 87, 3) := by decide +kernel
theorem dX10_cutOne_54 : decode cX10_cutOne 54 = .ok (.iload 4, 2) := by decide +kernel
theorem dX10_cutOne_56 : decode cX10_cutOne 56 = .ok (.aload_n 0, 1) := by decide +kernel
theorem dX10_cutOne_57 : decode cX10_cutOne 57 = .ok (.getfield 211, 3) := by decide +kernel
theorem dX10_cutOne_60 : decode cX10_cutOne 60 = .ok (.iastore, 1) := by decide +kernel
theorem dX10_cutOne_61 : decode cX10_cutOne 61 = .ok (.aload_n 0, 1) := by decide +kernel
theorem dX10_cutOne_62 : decode cX10_cutOne 62 = .ok (.getfield 90, 3) := by decide +kernel
theorem dX10_cutOne_65 : decode cX10_cutOne 65 = .ok (.iload 4, 2) := by decide +kernel
theorem dX10_cutOne_67 : decode cX10_cutOne 67 = .ok (.iload_n 1, 1) := by decide +kernel
theorem dX10_cutOne_68 : decode cX10_cutOne 68 = .ok (.iastore, 1) := by decide +kernel
theorem dX10_cutOne_69 : decode cX10_cutOne 69 = .ok (.aload_n 0, 1) := by decide +kernel
theorem dX10_cutOne_70 : decode cX10_cutOne 70 = .ok (.getfield 93, 3) := by decide +kernel
theorem dX10_cutOne_73 : decode cX10_cutOne 73 = .ok (.iload 4, 2) := by decide +kernel
theorem dX10_cutOne_75 : decode cX10_cutOne 75 = .ok (.iload_n 2, 1) := by decide +kernel
theorem dX10_cutOne_76 : decode cX10_cutOne 76 = .ok (.iastore, 1) := by decide +kernel
theorem dX10_cutOne_77 : decode cX10_cutOne 77 = .ok (.aload_n 0, 1) := by decide +kernel
theorem dX10_cutOne_78 : decode cX10_cutOne 78 = .ok (.getfield 96, 3) := by decide +kernel
theorem dX10_cutOne_81 : decode cX10_cutOne 81 = .ok (.iload 4, 2) := by decide +kernel
theorem dX10_cutOne_83 : decode cX10_cutOne 83 = .ok (.iload_n 3, 1) := by decide +kernel
theorem dX10_cutOne_84 : decode cX10_cutOne 84 = .ok (.iastore, 1) := by decide +kernel
theorem dX10_cutOne_85 : decode cX10_cutOne 85 = .ok (.aload_n 0, 1) := by decide +kernel
theorem dX10_cutOne_86 : decode cX10_cutOne 86 = .ok (.getfield 99, 3) := by decide +kernel
theorem dX10_cutOne_89 : decode cX10_cutOne 89 = .ok (.iload 4, 2) := by decide +kernel
theorem dX10_cutOne_91 : decode cX10_cutOne 91 = .ok (.aload_n 0, 1) := by decide +kernel
theorem dX10_cutOne_92 : decode cX10_cutOne 92 = .ok (.getfield 81, 3) := by decide +kernel
theorem dX10_cutOne_95 : decode cX10_cutOne 95 = .ok (.aload_n 0, 1) := by decide +kernel
theorem dX10_cutOne_96 : decode cX10_cutOne 96 = .ok (.getfield 202, 3) := by decide +kernel
theorem dX10_cutOne_99 : decode cX10_cutOne 99 = .ok (.iadd, 1) := by decide +kernel
theorem dX10_cutOne_100 : decode cX10_cutOne 100 = .ok (.aload_n 0, 1) := by decide +kernel
theorem dX10_cutOne_101 : decode cX10_cutOne 101 = .ok (.getfield 59, 3) := by decide +kernel
theorem dX10_cutOne_104 : decode cX10_cutOne 104 = .ok (.iload_n 3, 1) := by decide +kernel
theorem dX10_cutOne_105 : decode cX10_cutOne 105 = .ok (.iaload, 1) := by decide +kernel
theorem dX10_cutOne_106 : decode cX10_cutOne 106 = .ok (.iadd, 1) := by decide +kernel
theorem dX10_cutOne_107 : decode cX10_cutOne 107 = .ok (.sipush 500, 3) := by decide +kernel
theorem dX10_cutOne_110 : decode cX10_cutOne 110 = .ok (.isub, 1) := by decide +kernel
theorem dX10_cutOne_111 : decode cX10_cutOne 111 = .ok (.iastore, 1) := by decide +kernel
theorem dX10_cutOne_112 : decode cX10_cutOne 112 = .ok (.aload_n 0, 1) := by decide +kernel
theorem dX10_cutOne_113 : decode cX10_cutOne 113 = .ok (.getfield 102, 3) := by decide +kernel
theorem dX10_cutOne_116 : decode cX10_cutOne 116 = .ok (.iload 4, 2) := by decide +kernel
theorem dX10_cutOne_118 : decode cX10_cutOne 118 = .ok (.aload_n 0, 1) := by decide +kernel
theorem dX10_cutOne_119 : decode cX10_cutOne 119 = .ok (.getfield 59, 3) := by decide +kernel
theorem dX10_cutOne_122 : decode cX10_cutOne 122 = .ok (.iload_n 3, 1) := by decide +kernel
theorem dX10_cutOne_123 : decode cX10_cutOne 123 = .ok (.iaload, 1) := by decide +kernel
theorem dX10_cutOne_124 : decode cX10_cutOne 124 = .ok (.iastore, 1) := by decide +kernel
theorem dX10_cutOne_125 : decode cX10_cutOne 125 = .ok (.aload_n 0, 1) := by decide +kernel
theorem dX10_cutOne_126 : decode cX10_cutOne 126 = .ok (.getfield 105, 3) := by decide +kernel
theorem dX10_cutOne_129 : decode cX10_cutOne 129 = .ok (.iload 4, 2) := by decide +kernel
theorem dX10_cutOne_131 : decode cX10_cutOne 131 = .ok (.aload_n 0, 1) := by decide +kernel
theorem dX10_cutOne_132 : decode cX10_cutOne 132 = .ok (.getfield 193, 3) := by decide +kernel
theorem dX10_cutOne_135 : decode cX10_cutOne 135 = .ok (.ifCond .le 7, 3) := by decide +kernel
theorem dX10_cutOne_138 : decode cX10_cutOne 138 = .ok (.iconst 1, 1) := by decide +kernel
theorem dX10_cutOne_139 : decode cX10_cutOne 139 = .ok (.goto 53, 3) := by decide +kernel
theorem dX10_cutOne_142 : decode cX10_cutOne 142 = .ok (.aload_n 0, 1) := by decide +kernel
theorem dX10_cutOne_143 : decode cX10_cutOne 143 = .ok (.getfield 190, 3) := by decide +kernel
theorem dX10_cutOne_146 : decode cX10_cutOne 146 = .ok (.aload_n 0, 1) := by decide +kernel
theorem dX10_cutOne_147 : decode cX10_cutOne 147 = .ok (.getfield 62, 3) := by decide +kernel
theorem dX10_cutOne_150 : decode cX10_cutOne 150 = .ok (.iload_n 3, 1) := by decide +kernel
theorem dX10_cutOne_151 : decode cX10_cutOne 151 = .ok (.iaload, 1) := by decide +kernel
theorem dX10_cutOne_152 : decode cX10_cutOne 152 = .ok (.if_icmp .eq 7, 3) := by decide +kernel
theorem dX10_cutOne_155 : decode cX10_cutOne 155 = .ok (.iconst 2, 1) := by decide +kernel
theorem dX10_cutOne_156 : decode cX10_cutOne 156 = .ok (.goto 36, 3) := by decide +kernel
theorem dX10_cutOne_159 : decode cX10_cutOne 159 = .ok (.aload_n 0, 1) := by decide +kernel
theorem dX10_cutOne_160 : decode cX10_cutOne 160 = .ok (.getfield 68, 3) := by decide +kernel
theorem dX10_cutOne_163 : decode cX10_cutOne 163 = .ok (.iload_n 2, 1) := by decide +kernel
theorem dX10_cutOne_164 : decode cX10_cutOne 164 = .ok (.iaload, 1) := by decide +kernel
theorem dX10_cutOne_165 : decode cX10_cutOne 165 = .ok (.bipush 8, 2) := by decide +kernel
theorem dX10_cutOne_167 : decode cX10_cutOne 167 = .ok (.if_icmp .le 7, 3) := by decide +kernel
theorem dX10_cutOne_170 : decode cX10_cutOne 170 = .ok (.iconst 3, 1) := by decide +kernel
theorem dX10_cutOne_171 : decode cX10_cutOne 171 = .ok (.goto 21, 3) := by decide +kernel
theorem dX10_cutOne_174 : decode cX10_cutOne 174 = .ok (.aload_n 0, 1) := by decide +kernel
theorem dX10_cutOne_175 : decode cX10_cutOne 175 = .ok (.getfield 65, 3) := by decide +kernel
theorem dX10_cutOne_178 : decode cX10_cutOne 178 = .ok (.iload_n 2, 1) := by decide +kernel
theorem dX10_cutOne_179 : decode cX10_cutOne 179 = .ok (.iaload, 1) := by decide +kernel
theorem dX10_cutOne_180 : decode cX10_cutOne 180 = .ok (.aload_n 0, 1) := by decide +kernel
theorem dX10_cutOne_181 : decode cX10_cutOne 181 = .ok (.getfield 84, 3) := by decide +kernel
theorem dX10_cutOne_184 : decode cX10_cutOne 184 = .ok (.if_icmp .le 7, 3) := by decide +kernel
theorem dX10_cutOne_187 : decode cX10_cutOne 187 = .ok (.iconst 4, 1) := by decide +kernel
theorem dX10_cutOne_188 : decode cX10_cutOne 188 = .ok (.goto 4, 3) := by decide +kernel
theorem dX10_cutOne_191 : decode cX10_cutOne 191 = .ok (.iconst 0, 1) := by decide +kernel
theorem dX10_cutOne_192 : decode cX10_cutOne 192 = .ok (.iastore, 1) := by decide +kernel
theorem dX10_cutOne_193 : decode cX10_cutOne 193 = .ok (.aload_n 0, 1) := by decide +kernel
theorem dX10_cutOne_194 : decode cX10_cutOne 194 = .ok (.dup, 1) := by decide +kernel
theorem dX10_cutOne_195 : decode cX10_cutOne 195 = .ok (.getfield 193, 3) := by decide +kernel
theorem dX10_cutOne_198 : decode cX10_cutOne 198 = .ok (.aload_n 0, 1) := by decide +kernel
theorem dX10_cutOne_199 : decode cX10_cutOne 199 = .ok (.getfield 193, 3) := by decide +kernel
theorem dX10_cutOne_202 : decode cX10_cutOne 202 = .ok (.ifCond .le 7, 3) := by decide +kernel
theorem dX10_cutOne_205 : decode cX10_cutOne 205 = .ok (.iconst 1, 1) := by decide +kernel
theorem dX10_cutOne_206 : decode cX10_cutOne 206 = .ok (.goto 4, 3) := by decide +kernel
theorem dX10_cutOne_209 : decode cX10_cutOne 209 = .ok (.iconst 0, 1) := by decide +kernel
theorem dX10_cutOne_210 : decode cX10_cutOne 210 = .ok (.isub, 1) := by decide +kernel
theorem dX10_cutOne_211 : decode cX10_cutOne 211 = .ok (.putfield 193, 3) := by decide +kernel
theorem dX10_cutOne_214 : decode cX10_cutOne 214 = .ok (.aload_n 0, 1) := by decide +kernel
theorem dX10_cutOne_215 : decode cX10_cutOne 215 = .ok (.dup, 1) := by decide +kernel
theorem dX10_cutOne_216 : decode cX10_cutOne 216 = .ok (.getfield 208, 3) := by decide +kernel
theorem dX10_cutOne_219 : decode cX10_cutOne 219 = .ok (.iconst 1, 1) := by decide +kernel
theorem dX10_cutOne_220 : decode cX10_cutOne 220 = .ok (.iadd, 1) := by decide +kernel
theorem dX10_cutOne_221 : decode cX10_cutOne 221 = .ok (.putfield 208, 3) := by decide +kernel
theorem dX10_cutOne_224 : decode cX10_cutOne 224 = .ok (.aload_n 0, 1) := by decide +kernel
theorem dX10_cutOne_225 : decode cX10_cutOne 225 = .ok (.dup, 1) := by decide +kernel
theorem dX10_cutOne_226 : decode cX10_cutOne 226 = .ok (.getfield 211, 3) := by decide +kernel
theorem dX10_cutOne_229 : decode cX10_cutOne 229 = .ok (.iconst 1, 1) := by decide +kernel
theorem dX10_cutOne_230 : decode cX10_cutOne 230 = .ok (.iadd, 1) := by decide +kernel
theorem dX10_cutOne_231 : decode cX10_cutOne 231 = .ok (.putfield 211, 3) := by decide +kernel
theorem dX10_cutOne_234 : decode cX10_cutOne 234 = .ok (.aload_n 0, 1) := by decide +kernel
theorem dX10_cutOne_235 : decode cX10_cutOne 235 = .ok (.aload_n 0, 1) := by decide +kernel
theorem dX10_cutOne_236 : decode cX10_cutOne 236 = .ok (.getfield 184, 3) := by decide +kernel
theorem dX10_cutOne_239 : decode cX10_cutOne 239 = .ok (.iconst 1, 1) := by decide +kernel
theorem dX10_cutOne_240 : decode cX10_cutOne 240 = .ok (.iadd, 1) := by decide +kernel
theorem dX10_cutOne_241 : decode cX10_cutOne 241 = .ok (.aload_n 0, 1) := by decide +kernel
theorem dX10_cutOne_242 : decode cX10_cutOne 242 = .ok (.getfield 47, 3) := by decide +kernel
theorem dX10_cutOne_245 : decode cX10_cutOne 245 = .ok (.irem, 1) := by decide +kernel
theorem dX10_cutOne_246 : decode cX10_cutOne 246 = .ok (.putfield 184, 3) := by decide +kernel
theorem dX10_cutOne_249 : decode cX10_cutOne 249 = .ok (.return_, 1) := by decide +kernel
set_option maxRecDepth 20000 in
theorem ggX10_cut_X10_in : GoodIn wsX10_cut wsX10_in := goodIn_r _ [6] (by decide +kernel) (by decide +kernel)
set_option maxRecDepth 20000 in
theorem gX10_cut_X10_in : GoodIn wsX10_cut (va_wsS RX10 117 yX10_in wsX10_in) := goodIn_app (goodIn_of _ (by decide +kernel)) ggX10_cut_X10_in
set_option maxRecDepth 20000 in
theorem ggX10_cut_X10_comeOff : GoodIn wsX10_cut wsX10_comeOff := goodIn_r _ [10, 11, 12, 13, 14, 15, 16, 17, 18, 2, 19, 20, 21, 22, 23, 24, 5, 25, 26, 44, 45, 46, 47, 48, 49, 50, 51, 52, 53, 54, 55, 56, 57, 58, 59, 60, 61, 62, 63, 64, 65, 66, 67, 68, 69, 70, 71, 72, 73, 74, 75, 76, 77, 78, 79, 80, 81, 82, 83, 84, 85, 86, 87, 88] (by decide +kernel) (by decide +kernel)
set_option maxRecDepth 20000 in
theorem gX10_cut_X10_comeOff : GoodIn wsX10_cut (wsV RX10 214 RX10 yX10_comeOff wsX10_comeOff) := goodIn_app (goodIn_of _ (by decide +kernel)) ggX10_cut_X10_comeOff
set_option maxRecDepth 20000 in
theorem ggX10_cut_X10_cutOne : GoodIn wsX10_cut wsX10_cutOne := goodIn_r _ [30, 31, 32, 33, 34, 35, 36, 2, 15, 37, 19, 13, 20, 18, 16, 38, 39, 17, 21, 40, 41, 42, 43, 1, 44, 45, 46, 47, 48, 49, 50, 51, 52, 53, 54, 55, 56, 57, 58, 59, 60, 61, 62, 63, 64, 65, 66, 67, 68, 69, 70, 71, 72, 73, 74, 75, 76, 77, 78, 79, 80, 81, 82, 83, 84, 85, 86, 87, 88] (by decide +kernel) (by decide +kernel)
set_option maxRecDepth 20000 in
theorem gX10_cut_X10_cutOne : GoodIn wsX10_cut (wsV RX10 217 RX10 yX10_cutOne wsX10_cutOne) := goodIn_app (goodIn_of _ (by decide +kernel)) ggX10_cut_X10_cutOne
theorem dX10_cut_0 : decode cX10_cut 0 = .ok (.iload_n 1, 1) := by decide +kernel
theorem dX10_cut_1 : decode cX10_cut 1 = .ok (.iconst 1, 1) := by decide +kernel
theorem dX10_cut_2 : decode cX10_cut 2 = .ok (.bipush 100, 2) := by decide +kernel
theorem dX10_cut_4 : decode cX10_cut 4 = .ok (.invokestatic 117, 3) := by decide +kernel
theorem dX10_cut_7 : decode cX10_cut 7 = .ok (.ifCond .ne 5, 3) := by decide +kernel
theorem dX10_cut_10 : decode cX10_cut 10 = .ok (.iconst (-1), 1) := by decide +kernel
theorem dX10_cut_11 : decode cX10_cut 11 = .ok (.ireturn, 1) := by decide +kernel
theorem dX10_cut_12 : decode cX10_cut 12 = .ok (.aload_n 0, 1) := by decide +kernel
theorem dX10_cut_13 : decode cX10_cut 13 = .ok (.getfield 47, 3) := by decide +kernel
theorem dX10_cut_16 : decode cX10_cut 16 = .ok (.ifCond .ne 6, 3) := by decide +kernel
theorem dX10_cut_19 : decode cX10_cut 19 = .ok (.bipush (-4), 2) := by decide +kernel
theorem dX10_cut_21 : decode cX10_cut 21 = .ok (.ireturn, 1) := by decide +kernel
theorem dX10_cut_22 : decode cX10_cut 22 = .ok (.iconst 0, 1) := by decide +kernel
theorem dX10_cut_23 : decode cX10_cut 23 = .ok (.istore_n 2, 1) := by decide +kernel
theorem dX10_cut_24 : decode cX10_cut 24 = .ok (.iconst 0, 1) := by decide +kernel
theorem dX10_cut_25 : decode cX10_cut 25 = .ok (.istore_n 3, 1) := by decide +kernel
theorem dX10_cut_26 : decode cX10_cut 26 = .ok (.iload_n 3, 1) := by decide +kernel
theorem dX10_cut_27 : decode cX10_cut 27 = .ok (.iload_n 1, 1) := by decide +kernel
theorem dX10_cut_28 : decode cX10_cut 28 = .ok (.if_icmp .ge 29, 3) := by decide +kernel
theorem dX10_cut_31 : decode cX10_cut 31 = .ok (.aload_n 0, 1) := by decide +kernel
theorem dX10_cut_32 : decode cX10_cut 32 = .ok (.getfield 208, 3) := by decide +kernel
theorem dX10_cut_35 : decode cX10_cut 35 = .ok (.bipush 12, 2) := by decide +kernel
theorem dX10_cut_37 : decode cX10_cut 37 = .ok (.if_icmp .ne 10, 3) := by decide +kernel
theorem dX10_cut_40 : decode cX10_cut 40 = .ok (.aload_n 0, 1) := by decide +kernel
theorem dX10_cut_41 : decode cX10_cut 41 = .ok (.invokevirtual 214, 3) := by decide +kernel
theorem dX10_cut_44 : decode cX10_cut 44 = .ok (.iinc 2 1, 3) := by decide +kernel
theorem dX10_cut_47 : decode cX10_cut 47 = .ok (.aload_n 0, 1) := by decide +kernel
theorem dX10_cut_48 : decode cX10_cut 48 = .ok (.invokevirtual 217, 3) := by decide +kernel
theorem dX10_cut_51 : decode cX10_cut 51 = .ok (.iinc 3 1, 3) := by decide +kernel
theorem dX10_cut_54 : decode cX10_cut 54 = .ok (.goto (-28), 3) := by decide +kernel
theorem dX10_cut_57 : decode cX10_cut 57 = .ok (.iload_n 2, 1) := by decide +kernel
theorem dX10_cut_58 : decode cX10_cut 58 = .ok (.ireturn, 1) := by decide +kernel
set_option maxRecDepth 20000 in
theorem ggX10_drain_X10_comeOff : GoodIn wsX10_drain wsX10_comeOff := goodIn_r _ [6, 7, 8, 9, 10, 11, 12, 13, 14, 1, 15, 16, 17, 18, 19, 20, 5, 21, 22, 23, 24, 25, 26, 27, 28, 29, 30, 31, 32, 33, 34, 35, 36, 37, 38, 39, 40, 41, 42, 43, 44, 45, 46, 47, 48, 49, 50, 51, 52, 53, 54, 55, 56, 57, 58, 59, 60, 61, 62, 63, 64, 65, 66, 67] (by decide +kernel) (by decide +kernel)
set_option maxRecDepth 20000 in
theorem gX10_drain_X10_comeOff : GoodIn wsX10_drain (wsV RX10 214 RX10 yX10_comeOff wsX10_comeOff) := goodIn_app (goodIn_of _ (by decide +kernel)) ggX10_drain_X10_comeOff
theorem dX10_drain_0 : decode cX10_drain 0 = .ok (.aload_n 0, 1) := by decide +kernel
theorem dX10_drain_1 : decode cX10_drain 1 = .ok (.getfield 208, 3) := by decide +kernel
theorem dX10_drain_4 : decode cX10_drain 4 = .ok (.istore_n 1, 1) := by decide +kernel
theorem dX10_drain_5 : decode cX10_drain 5 = .ok (.iconst 0, 1) := by decide +kernel
theorem dX10_drain_6 : decode cX10_drain 6 = .ok (.istore_n 2, 1) := by decide +kernel
theorem dX10_drain_7 : decode cX10_drain 7 = .ok (.iload_n 2, 1) := by decide +kernel
theorem dX10_drain_8 : decode cX10_drain 8 = .ok (.iload_n 1, 1) := by decide +kernel
theorem dX10_drain_9 : decode cX10_drain 9 = .ok (.if_icmp .ge 13, 3) := by decide +kernel
theorem dX10_drain_12 : decode cX10_drain 12 = .ok (.aload_n 0, 1) := by decide +kernel
theorem dX10_drain_13 : decode cX10_drain 13 = .ok (.invokevirtual 214, 3) := by decide +kernel
theorem dX10_drain_16 : decode cX10_drain 16 = .ok (.iinc 2 1, 3) := by decide +kernel
theorem dX10_drain_19 : decode cX10_drain 19 = .ok (.goto (-12), 3) := by decide +kernel
theorem dX10_drain_22 : decode cX10_drain 22 = .ok (.iload_n 1, 1) := by decide +kernel
theorem dX10_drain_23 : decode cX10_drain 23 = .ok (.ireturn, 1) := by decide +kernel
set_option maxRecDepth 20000 in
theorem ggX10_bottle_X10_in : GoodIn wsX10_bottle wsX10_in := goodIn_r _ [10] (by decide +kernel) (by decide +kernel)
set_option maxRecDepth 20000 in
theorem gX10_bottle_X10_in : GoodIn wsX10_bottle (va_wsS RX10 117 yX10_in wsX10_in) := goodIn_app (goodIn_of _ (by decide +kernel)) ggX10_bottle_X10_in
set_option maxRecDepth 20000 in
theorem ggX10_bottle_X10_judgeOf : GoodIn wsX10_bottle wsX10_judgeOf := goodIn_r _ [14, 15, 6, 16, 17, 4, 18, 19, 20, 21, 22, 23, 24, 25, 26, 27, 28, 29, 30, 31, 32, 33, 34, 35, 36, 37, 38, 39, 40, 41, 42, 43, 44, 45, 46, 47, 48, 49, 50, 51, 52, 53, 54, 55, 56, 57, 58, 59, 60, 61, 62] (by decide +kernel) (by decide +kernel)
set_option maxRecDepth 20000 in
theorem gX10_bottle_X10_judgeOf : GoodIn wsX10_bottle (wsV RX10 205 RX10 yX10_judgeOf wsX10_judgeOf) := goodIn_app (goodIn_of _ (by decide +kernel)) ggX10_bottle_X10_judgeOf
theorem dX10_bottle_0 : decode cX10_bottle 0 = .ok (.iload_n 1, 1) := by decide +kernel
theorem dX10_bottle_1 : decode cX10_bottle 1 = .ok (.iconst 0, 1) := by decide +kernel
theorem dX10_bottle_2 : decode cX10_bottle 2 = .ok (.aload_n 0, 1) := by decide +kernel
theorem dX10_bottle_3 : decode cX10_bottle 3 = .ok (.getfield 208, 3) := by decide +kernel
theorem dX10_bottle_6 : decode cX10_bottle 6 = .ok (.iconst 1, 1) := by decide +kernel
theorem dX10_bottle_7 : decode cX10_bottle 7 = .ok (.isub, 1) := by decide +kernel
theorem dX10_bottle_8 : decode cX10_bottle 8 = .ok (.invokestatic 117, 3) := by decide +kernel
theorem dX10_bottle_11 : decode cX10_bottle 11 = .ok (.ifCond .ne 5, 3) := by decide +kernel
theorem dX10_bottle_14 : decode cX10_bottle 14 = .ok (.iconst (-1), 1) := by decide +kernel
theorem dX10_bottle_15 : decode cX10_bottle 15 = .ok (.ireturn, 1) := by decide +kernel
theorem dX10_bottle_16 : decode cX10_bottle 16 = .ok (.iload_n 2, 1) := by decide +kernel
theorem dX10_bottle_17 : decode cX10_bottle 17 = .ok (.tableswitch 80 0 5 #[39, 46, 53, 60, 67, 74], 39) := by decide +kernel
theorem dX10_bottle_56 : decode cX10_bottle 56 = .ok (.aload_n 0, 1) := by decide +kernel
theorem dX10_bottle_57 : decode cX10_bottle 57 = .ok (.getfield 87, 3) := by decide +kernel
theorem dX10_bottle_60 : decode cX10_bottle 60 = .ok (.iload_n 1, 1) := by decide +kernel
theorem dX10_bottle_61 : decode cX10_bottle 61 = .ok (.iaload, 1) := by decide +kernel
theorem dX10_bottle_62 : decode cX10_bottle 62 = .ok (.ireturn, 1) := by decide +kernel
theorem dX10_bottle_63 : decode cX10_bottle 63 = .ok (.aload_n 0, 1) := by decide +kernel
theorem dX10_bottle_64 : decode cX10_bottle 64 = .ok (.getfield 90, 3) := by decide +kernel
theorem dX10_bottle_67 : decode cX10_bottle 67 = .ok (.iload_n 1, 1) := by decide +kernel
theorem dX10_bottle_68 : decode cX10_bottle 68 = .ok (.iaload, 1) := by decide +kernel
theorem dX10_bottle_69 : decode cX10_bottle 69 = .ok (.ireturn, 1) := by decide +kernel
theorem dX10_bottle_70 : decode cX10_bottle 70 = .ok (.aload_n 0, 1) := by decide +kernel
theorem dX10_bottle_71 : decode cX10_bottle 71 = .ok (.getfield 93, 3) := by decide +kernel
theorem dX10_bottle_74 : decode cX10_bottle 74 = .ok (.iload_n 1, 1) := by decide +kernel
theorem dX10_bottle_75 : decode cX10_bottle 75 = .ok (.iaload, 1) := by decide +kernel
theorem dX10_bottle_76 : decode cX10_bottle 76 = .ok (.ireturn, 1) := by decide +kernel
theorem dX10_bottle_77 : decode cX10_bottle 77 = .ok (.aload_n 0, 1) := by decide +kernel
theorem dX10_bottle_78 : decode cX10_bottle 78 = .ok (.getfield 96, 3) := by decide +kernel
theorem dX10_bottle_81 : decode cX10_bottle 81 = .ok (.iload_n 1, 1) := by decide +kernel
theorem dX10_bottle_82 : decode cX10_bottle 82 = .ok (.iaload, 1) := by decide +kernel
theorem dX10_bottle_83 : decode cX10_bottle 83 = .ok (.ireturn, 1) := by decide +kernel
theorem dX10_bottle_84 : decode cX10_bottle 84 = .ok (.aload_n 0, 1) := by decide +kernel
theorem dX10_bottle_85 : decode cX10_bottle 85 = .ok (.getfield 99, 3) := by decide +kernel
theorem dX10_bottle_88 : decode cX10_bottle 88 = .ok (.iload_n 1, 1) := by decide +kernel
theorem dX10_bottle_89 : decode cX10_bottle 89 = .ok (.iaload, 1) := by decide +kernel
theorem dX10_bottle_90 : decode cX10_bottle 90 = .ok (.ireturn, 1) := by decide +kernel
theorem dX10_bottle_91 : decode cX10_bottle 91 = .ok (.aload_n 0, 1) := by decide +kernel
theorem dX10_bottle_92 : decode cX10_bottle 92 = .ok (.iload_n 1, 1) := by decide +kernel
theorem dX10_bottle_93 : decode cX10_bottle 93 = .ok (.invokevirtual 205, 3) := by decide +kernel
theorem dX10_bottle_96 : decode cX10_bottle 96 = .ok (.ireturn, 1) := by decide +kernel
theorem dX10_bottle_97 : decode cX10_bottle 97 = .ok (.iconst (-1), 1) := by decide +kernel
theorem dX10_bottle_98 : decode cX10_bottle 98 = .ok (.ireturn, 1) := by decide +kernel
set_option maxRecDepth 20000 in
theorem ggX10_many_X10_in : GoodIn wsX10_many wsX10_in := goodIn_r _ [15] (by decide +kernel) (by decide +kernel)
set_option maxRecDepth 20000 in
theorem gX10_many_X10_in : GoodIn wsX10_many (va_wsS RX10 117 yX10_in wsX10_in) := goodIn_app (goodIn_of _ (by decide +kernel)) ggX10_many_X10_in
theorem dX10_many_0 : decode cX10_many 0 = .ok (.iload_n 1, 1) := by decide +kernel
theorem dX10_many_1 : decode cX10_many 1 = .ok (.iconst 2, 1) := by decide +kernel
theorem dX10_many_2 : decode cX10_many 2 = .ok (.bipush 8, 2) := by decide +kernel
theorem dX10_many_4 : decode cX10_many 4 = .ok (.invokestatic 117, 3) := by decide +kernel
theorem dX10_many_7 : decode cX10_many 7 = .ok (.ifCond .eq 12, 3) := by decide +kernel
theorem dX10_many_10 : decode cX10_many 10 = .ok (.aload_n 0, 1) := by decide +kernel
theorem dX10_many_11 : decode cX10_many 11 = .ok (.getfield 108, 3) := by decide +kernel
theorem dX10_many_14 : decode cX10_many 14 = .ok (.iload_n 1, 1) := by decide +kernel
theorem dX10_many_15 : decode cX10_many 15 = .ok (.iconst 2, 1) := by decide +kernel
theorem dX10_many_16 : decode cX10_many 16 = .ok (.isub, 1) := by decide +kernel
theorem dX10_many_17 : decode cX10_many 17 = .ok (.iaload, 1) := by decide +kernel
theorem dX10_many_18 : decode cX10_many 18 = .ok (.ireturn, 1) := by decide +kernel
theorem dX10_many_19 : decode cX10_many 19 = .ok (.iload_n 1, 1) := by decide +kernel
theorem dX10_many_20 : decode cX10_many 20 = .ok (.tableswitch 141 0 15 #[80, 85, 141, 141, 141, 141, 141, 141, 141, 90, 95, 100, 121, 126, 131, 136], 80) := by decide +kernel
theorem dX10_many_100 : decode cX10_many 100 = .ok (.aload_n 0, 1) := by decide +kernel
theorem dX10_many_101 : decode cX10_many 101 = .ok (.getfield 211, 3) := by decide +kernel
theorem dX10_many_104 : decode cX10_many 104 = .ok (.ireturn, 1) := by decide +kernel
theorem dX10_many_105 : decode cX10_many 105 = .ok (.aload_n 0, 1) := by decide +kernel
theorem dX10_many_106 : decode cX10_many 106 = .ok (.getfield 208, 3) := by decide +kernel
theorem dX10_many_109 : decode cX10_many 109 = .ok (.ireturn, 1) := by decide +kernel
theorem dX10_many_110 : decode cX10_many 110 = .ok (.aload_n 0, 1) := by decide +kernel
theorem dX10_many_111 : decode cX10_many 111 = .ok (.getfield 47, 3) := by decide +kernel
theorem dX10_many_114 : decode cX10_many 114 = .ok (.ireturn, 1) := by decide +kernel
theorem dX10_many_115 : decode cX10_many 115 = .ok (.aload_n 0, 1) := by decide +kernel
theorem dX10_many_116 : decode cX10_many 116 = .ok (.getfield 81, 3) := by decide +kernel
theorem dX10_many_119 : decode cX10_many 119 = .ok (.ireturn, 1) := by decide +kernel
theorem dX10_many_120 : decode cX10_many 120 = .ok (.aload_n 0, 1) := by decide +kernel
theorem dX10_many_121 : decode cX10_many 121 = .ok (.getfield 47, 3) := by decide +kernel
theorem dX10_many_124 : decode cX10_many 124 = .ok (.ifCond .ne 7, 3) := by decide +kernel
theorem dX10_many_127 : decode cX10_many 127 = .ok (.iconst (-1), 1) := by decide +kernel
theorem dX10_many_128 : decode cX10_many 128 = .ok (.goto 12, 3) := by decide +kernel
theorem dX10_many_131 : decode cX10_many 131 = .ok (.aload_n 0, 1) := by decide +kernel
theorem dX10_many_132 : decode cX10_many 132 = .ok (.getfield 50, 3) := by decide +kernel
theorem dX10_many_135 : decode cX10_many 135 = .ok (.aload_n 0, 1) := by decide +kernel
theorem dX10_many_136 : decode cX10_many 136 = .ok (.getfield 184, 3) := by decide +kernel
theorem dX10_many_139 : decode cX10_many 139 = .ok (.iaload, 1) := by decide +kernel
theorem dX10_many_140 : decode cX10_many 140 = .ok (.ireturn, 1) := by decide +kernel
theorem dX10_many_141 : decode cX10_many 141 = .ok (.aload_n 0, 1) := by decide +kernel
theorem dX10_many_142 : decode cX10_many 142 = .ok (.getfield 193, 3) := by decide +kernel
theorem dX10_many_145 : decode cX10_many 145 = .ok (.ireturn, 1) := by decide +kernel
theorem dX10_many_146 : decode cX10_many 146 = .ok (.aload_n 0, 1) := by decide +kernel
theorem dX10_many_147 : decode cX10_many 147 = .ok (.getfield 128, 3) := by decide +kernel
theorem dX10_many_150 : decode cX10_many 150 = .ok (.ireturn, 1) := by decide +kernel
theorem dX10_many_151 : decode cX10_many 151 = .ok (.aload_n 0, 1) := by decide +kernel
theorem dX10_many_152 : decode cX10_many 152 = .ok (.getfield 28, 3) := by decide +kernel
theorem dX10_many_155 : decode cX10_many 155 = .ok (.ireturn, 1) := by decide +kernel
theorem dX10_many_156 : decode cX10_many 156 = .ok (.aload_n 0, 1) := by decide +kernel
theorem dX10_many_157 : decode cX10_many 157 = .ok (.getfield 190, 3) := by decide +kernel
theorem dX10_many_160 : decode cX10_many 160 = .ok (.ireturn, 1) := by decide +kernel
theorem dX10_many_161 : decode cX10_many 161 = .ok (.iconst (-1), 1) := by decide +kernel
theorem dX10_many_162 : decode cX10_many 162 = .ok (.ireturn, 1) := by decide +kernel
theorem dJ9_floorMod_7cf53_0 : decode cJ9_floorMod_7cf53 0 = .ok (.iload_n 0, 1) := by decide +kernel
theorem dJ9_floorMod_7cf53_1 : decode cJ9_floorMod_7cf53 1 = .ok (.iload_n 1, 1) := by decide +kernel
theorem dJ9_floorMod_7cf53_2 : decode cJ9_floorMod_7cf53 2 = .ok (.irem, 1) := by decide +kernel
theorem dJ9_floorMod_7cf53_3 : decode cJ9_floorMod_7cf53 3 = .ok (.istore_n 2, 1) := by decide +kernel
theorem dJ9_floorMod_7cf53_4 : decode cJ9_floorMod_7cf53 4 = .ok (.iload_n 0, 1) := by decide +kernel
theorem dJ9_floorMod_7cf53_5 : decode cJ9_floorMod_7cf53 5 = .ok (.iload_n 1, 1) := by decide +kernel
theorem dJ9_floorMod_7cf53_6 : decode cJ9_floorMod_7cf53 6 = .ok (.ixor, 1) := by decide +kernel
theorem dJ9_floorMod_7cf53_7 : decode cJ9_floorMod_7cf53 7 = .ok (.ifCond .ge 11, 3) := by decide +kernel
theorem dJ9_floorMod_7cf53_10 : decode cJ9_floorMod_7cf53 10 = .ok (.iload_n 2, 1) := by decide +kernel
theorem dJ9_floorMod_7cf53_11 : decode cJ9_floorMod_7cf53 11 = .ok (.ifCond .eq 7, 3) := by decide +kernel
theorem dJ9_floorMod_7cf53_14 : decode cJ9_floorMod_7cf53 14 = .ok (.iload_n 2, 1) := by decide +kernel
theorem dJ9_floorMod_7cf53_15 : decode cJ9_floorMod_7cf53 15 = .ok (.iload_n 1, 1) := by decide +kernel
theorem dJ9_floorMod_7cf53_16 : decode cJ9_floorMod_7cf53 16 = .ok (.iadd, 1) := by decide +kernel
theorem dJ9_floorMod_7cf53_17 : decode cJ9_floorMod_7cf53 17 = .ok (.ireturn, 1) := by decide +kernel
theorem dJ9_floorMod_7cf53_18 : decode cJ9_floorMod_7cf53 18 = .ok (.iload_n 2, 1) := by decide +kernel
theorem dJ9_floorMod_7cf53_19 : decode cJ9_floorMod_7cf53 19 = .ok (.ireturn, 1) := by decide +kernel
theorem dJ9_abs_0f7a4_0 : decode cJ9_abs_0f7a4 0 = .ok (.iload_n 0, 1) := by decide +kernel
theorem dJ9_abs_0f7a4_1 : decode cJ9_abs_0f7a4 1 = .ok (.ifCond .ge 8, 3) := by decide +kernel
theorem dJ9_abs_0f7a4_4 : decode cJ9_abs_0f7a4 4 = .ok (.iload_n 0, 1) := by decide +kernel
theorem dJ9_abs_0f7a4_5 : decode cJ9_abs_0f7a4 5 = .ok (.ineg, 1) := by decide +kernel
theorem dJ9_abs_0f7a4_6 : decode cJ9_abs_0f7a4 6 = .ok (.goto 4, 3) := by decide +kernel
theorem dJ9_abs_0f7a4_9 : decode cJ9_abs_0f7a4 9 = .ok (.iload_n 0, 1) := by decide +kernel
theorem dJ9_abs_0f7a4_10 : decode cJ9_abs_0f7a4 10 = .ok (.ireturn, 1) := by decide +kernel
theorem dJ9_max_7cf53_0 : decode cJ9_max_7cf53 0 = .ok (.iload_n 0, 1) := by decide +kernel
theorem dJ9_max_7cf53_1 : decode cJ9_max_7cf53 1 = .ok (.iload_n 1, 1) := by decide +kernel
theorem dJ9_max_7cf53_2 : decode cJ9_max_7cf53 2 = .ok (.if_icmp .lt 7, 3) := by decide +kernel
theorem dJ9_max_7cf53_5 : decode cJ9_max_7cf53 5 = .ok (.iload_n 0, 1) := by decide +kernel
theorem dJ9_max_7cf53_6 : decode cJ9_max_7cf53 6 = .ok (.goto 4, 3) := by decide +kernel
theorem dJ9_max_7cf53_9 : decode cJ9_max_7cf53 9 = .ok (.iload_n 1, 1) := by decide +kernel
theorem dJ9_max_7cf53_10 : decode cJ9_max_7cf53 10 = .ok (.ireturn, 1) := by decide +kernel
theorem dJ9_min_7cf53_0 : decode cJ9_min_7cf53 0 = .ok (.iload_n 0, 1) := by decide +kernel
theorem dJ9_min_7cf53_1 : decode cJ9_min_7cf53 1 = .ok (.iload_n 1, 1) := by decide +kernel
theorem dJ9_min_7cf53_2 : decode cJ9_min_7cf53 2 = .ok (.if_icmp .gt 7, 3) := by decide +kernel
theorem dJ9_min_7cf53_5 : decode cJ9_min_7cf53 5 = .ok (.iload_n 0, 1) := by decide +kernel
theorem dJ9_min_7cf53_6 : decode cJ9_min_7cf53 6 = .ok (.goto 4, 3) := by decide +kernel
theorem dJ9_min_7cf53_9 : decode cJ9_min_7cf53 9 = .ok (.iload_n 1, 1) := by decide +kernel
theorem dJ9_min_7cf53_10 : decode cJ9_min_7cf53 10 = .ok (.ireturn, 1) := by decide +kernel
set_option maxRecDepth 20000 in
theorem ggL_law_X9_init : GoodIn wsL_law wsX9_init := goodIn_r _ [8, 9, 10, 11, 12, 13, 14, 15, 16, 17, 18, 19, 20, 21, 22, 23, 24, 25, 26, 27, 28, 29, 30, 31, 32, 33, 34, 35, 36, 37, 38, 39, 40, 41, 42, 43, 44, 45, 46, 47, 48, 49, 50, 51, 52, 53, 54, 55, 56, 57, 58, 59, 60, 61, 62, 63, 64, 65, 66, 67, 68, 69, 70, 71, 72, 73, 74, 75, 76, 77, 78, 79, 80, 81, 82, 83, 84, 85, 86, 87, 88, 89, 90, 91, 92, 93, 94, 95, 96, 97, 98, 99, 100, 101, 102, 103, 104, 105, 106, 107, 108, 109, 110, 111, 112, 113, 114, 115, 116, 117, 118, 119, 120, 121, 122, 123, 124, 125, 126, 127, 801, 802, 803, 804, 805, 741, 742, 743, 744, 745, 746, 747, 748, 749, 750, 751, 752, 753, 754, 755, 806, 807, 808, 809, 810, 811, 812, 813, 814, 815, 816, 817, 818, 819, 820, 821, 822, 823, 824, 825, 826, 827, 828, 829, 830, 831, 832, 833, 834, 835] (by decide +kernel) (by decide +kernel)
set_option maxRecDepth 20000 in
theorem gL_law_X9_init : GoodIn wsL_law (wsX9_init) := ggL_law_X9_init
set_option maxRecDepth 20000 in
theorem ggL_law_X10_init : GoodIn wsL_law wsX10_init := goodIn_r _ [130, 131, 10, 11, 32, 132, 133, 134, 135, 136, 137, 138, 139, 140, 141, 142, 143, 144, 145, 146, 147, 148, 149, 150, 151, 103, 152, 153, 154, 155, 156, 157, 158, 159, 160, 161, 162, 163, 164, 165, 166, 756, 757, 758, 759, 760, 761, 762, 763, 764, 765, 766, 767, 768, 769, 770, 771, 772, 773, 774, 775, 776, 777, 778, 779, 780, 781, 782, 783, 784, 785, 786, 787, 788, 789, 790, 791, 792, 793, 794, 795, 796, 797, 798, 799, 800] (by decide +kernel) (by decide +kernel)
set_option maxRecDepth 20000 in
theorem gL_law_X10_init : GoodIn wsL_law (wsX10_init) := ggL_law_X10_init
set_option maxRecDepth 20000 in
theorem ggL_law_X9_set : GoodIn wsL_law wsX9_set := goodIn_r _ [170, 15, 171, 172, 173, 2, 174, 175, 176, 177, 178, 179, 180, 181, 182, 183, 184, 185, 186, 187, 188, 189, 14, 190, 53, 48, 54, 50, 55, 191, 192, 193, 52, 194, 62, 63, 195, 196, 197, 198, 199, 200, 201, 57, 202, 67, 203, 68, 204, 69, 70, 205, 206, 207, 208, 209, 210, 211, 212, 213, 214, 215, 216, 217, 218, 219, 220, 741, 742, 743, 744, 745, 746, 747, 748, 749, 750, 751, 752, 753, 754, 755, 801, 802, 803, 804, 805, 820, 821, 822, 823, 824, 825] (by decide +kernel) (by decide +kernel)
set_option maxRecDepth 20000 in
theorem gL_law_X9_set : GoodIn wsL_law (wsV RL 13 RX9 yX9_set wsX9_set) := goodIn_app (goodIn_of _ (by decide +kernel)) ggL_law_X9_set
set_option maxRecDepth 20000 in
theorem ggL_law_X10_set : GoodIn wsL_law wsX10_set := goodIn_r _ [224, 132, 133, 225, 226, 227, 5, 228, 229, 230, 231, 232, 233, 234, 235, 236, 237, 238, 239, 240, 241, 242, 243, 244, 245, 138, 246, 247, 248, 249, 135, 136, 137, 134, 250, 251, 252, 253, 254, 255, 256, 257, 756, 757, 758, 759, 760, 761, 762, 763, 764, 765, 766, 767, 768, 769, 770, 771, 772, 773, 774, 775, 776, 777, 778, 779, 780, 781, 782, 783, 784, 785, 786, 787, 788, 789, 790, 791, 792, 793, 794, 795, 796, 797, 798, 799, 800] (by decide +kernel) (by decide +kernel)
set_option maxRecDepth 20000 in
theorem gL_law_X10_set : GoodIn wsL_law (wsV RL 17 RX10 yX10_set wsX10_set) := goodIn_app (goodIn_of _ (by decide +kernel)) ggL_law_X10_set
set_option maxRecDepth 20000 in
theorem ggL_law_X9_turn : GoodIn wsL_law wsX9_turn := goodIn_r _ [261, 15, 171, 175, 176, 2, 177, 178, 179, 180, 262, 263, 264, 52, 265, 62, 63, 266, 267, 268, 269, 741, 742, 743, 744, 745, 746, 747, 748, 749, 750, 751, 752, 753, 754, 755, 801, 802, 803, 804, 805, 820, 821] (by decide +kernel) (by decide +kernel)
set_option maxRecDepth 20000 in
theorem gL_law_X9_turn : GoodIn wsL_law (wsV RL 18 RX9 yX9_turn wsX9_turn) := goodIn_app (goodIn_of _ (by decide +kernel)) ggL_law_X9_turn
set_option maxRecDepth 20000 in
theorem ggL_law_X10_turn : GoodIn wsL_law wsX10_turn := goodIn_r _ [273, 132, 133, 229, 230, 5, 231, 232, 233, 234, 756, 757, 758, 759, 760, 761, 762, 763, 764, 765, 766, 767, 768, 769, 770, 771, 772, 773, 774, 775, 776, 777, 778, 779, 780, 781, 782, 783, 784, 785, 786, 787, 788, 789, 790, 791, 792, 793, 794, 795, 796, 797, 798, 799, 800] (by decide +kernel) (by decide +kernel)
set_option maxRecDepth 20000 in
theorem gL_law_X10_turn : GoodIn wsL_law (wsV RL 22 RX10 yX10_turn wsX10_turn) := goodIn_app (goodIn_of _ (by decide +kernel)) ggL_law_X10_turn
set_option maxRecDepth 20000 in
theorem ggL_law_X9_copy : GoodIn wsL_law wsX9_copy := goodIn_r _ [277, 15, 171, 175, 176, 2, 177, 178, 179, 180, 278, 192, 193, 52, 194, 62, 63, 741, 742, 743, 744, 745, 746, 747, 748, 749, 750, 751, 752, 753, 754, 755, 801, 802, 803, 804, 805, 820, 821] (by decide +kernel) (by decide +kernel)
set_option maxRecDepth 20000 in
theorem gL_law_X9_copy : GoodIn wsL_law (wsV RL 23 RX9 yX9_copy wsX9_copy) := goodIn_app (goodIn_of _ (by decide +kernel)) ggL_law_X9_copy
set_option maxRecDepth 20000 in
theorem ggL_law_X10_copy : GoodIn wsL_law wsX10_copy := goodIn_r _ [282, 132, 133, 229, 230, 5, 231, 232, 233, 234, 756, 757, 758, 759, 760, 761, 762, 763, 764, 765, 766, 767, 768, 769, 770, 771, 772, 773, 774, 775, 776, 777, 778, 779, 780, 781, 782, 783, 784, 785, 786, 787, 788, 789, 790, 791, 792, 793, 794, 795, 796, 797, 798, 799, 800] (by decide +kernel) (by decide +kernel)
set_option maxRecDepth 20000 in
theorem gL_law_X10_copy : GoodIn wsL_law (wsV RL 26 RX10 yX10_copy wsX10_copy) := goodIn_app (goodIn_of _ (by decide +kernel)) ggL_law_X10_copy
set_option maxRecDepth 20000 in
theorem ggL_law_X9_law : GoodIn wsL_law wsX9_law := goodIn_r _ [286, 15, 287, 288, 289, 290, 291, 2, 292, 293, 178, 179, 180, 181, 182, 183, 294, 295, 296, 57, 297, 67, 68, 69, 70, 298, 299, 300, 14, 301, 50, 48, 199, 200, 201, 202, 203, 204, 205, 206, 207, 208, 209, 52, 210, 62, 211, 212, 213, 214, 63, 215, 216, 217, 218, 219, 741, 742, 743, 744, 745, 746, 747, 748, 749, 750, 751, 752, 753, 754, 755, 801, 802, 803, 804, 805, 822, 823, 824, 825, 820, 821] (by decide +kernel) (by decide +kernel)
set_option maxRecDepth 20000 in
theorem gL_law_X9_law : GoodIn wsL_law (wsV RL 27 RX9 yX9_law wsX9_law) := goodIn_app (goodIn_of _ (by decide +kernel)) ggL_law_X9_law
set_option maxRecDepth 20000 in
theorem ggL_law_X10_law : GoodIn wsL_law wsX10_law := goodIn_r _ [305, 306, 245, 134, 135, 136, 137, 138, 232, 233, 5, 234, 235, 236, 237, 246, 247, 248, 249, 132, 133, 250, 251, 252, 253, 254, 255, 256, 257, 756, 757, 758, 759, 760, 761, 762, 763, 764, 765, 766, 767, 768, 769, 770, 771, 772, 773, 774, 775, 776, 777, 778, 779, 780, 781, 782, 783, 784, 785, 786, 787, 788, 789, 790, 791, 792, 793, 794, 795, 796, 797, 798, 799, 800] (by decide +kernel) (by decide +kernel)
set_option maxRecDepth 20000 in
theorem gL_law_X10_law : GoodIn wsL_law (wsV RL 30 RX10 yX10_law wsX10_law) := goodIn_app (goodIn_of _ (by decide +kernel)) ggL_law_X10_law
set_option maxRecDepth 20000 in
theorem ggL_law_X9_repeal : GoodIn wsL_law wsX9_repeal := goodIn_r _ [310, 15, 287, 741, 742, 743, 744, 745, 746, 747, 748, 749, 750, 751, 752, 753, 754, 755, 801, 802, 803, 804, 805] (by decide +kernel) (by decide +kernel)
set_option maxRecDepth 20000 in
theorem gL_law_X9_repeal : GoodIn wsL_law (wsV RL 31 RX9 yX9_repeal wsX9_repeal) := goodIn_app (goodIn_of _ (by decide +kernel)) ggL_law_X9_repeal
set_option maxRecDepth 20000 in
theorem ggL_law_X10_repeal : GoodIn wsL_law wsX10_repeal := goodIn_r _ [314, 245, 756, 757, 758, 759, 760, 761, 762, 763, 764, 765, 766, 767, 768, 769, 770, 771, 772, 773, 774, 775, 776, 777, 778, 779, 780, 781, 782, 783, 784, 785, 786, 787, 788, 789, 790, 791, 792, 793, 794, 795, 796, 797, 798, 799, 800] (by decide +kernel) (by decide +kernel)
set_option maxRecDepth 20000 in
theorem gL_law_X10_repeal : GoodIn wsL_law (wsV RL 35 RX10 yX10_repeal wsX10_repeal) := goodIn_app (goodIn_of _ (by decide +kernel)) ggL_law_X10_repeal
set_option maxRecDepth 20000 in
theorem ggL_law_X9_pace : GoodIn wsL_law wsX9_pace := goodIn_r _ [318, 15, 289, 178, 179, 2, 180, 319, 320, 321, 14, 322, 54, 323, 299, 300, 301, 50, 48, 199, 200, 201, 57, 202, 67, 203, 68, 204, 69, 70, 205, 206, 207, 208, 209, 52, 210, 62, 211, 212, 213, 214, 63, 215, 216, 217, 218, 219, 741, 742, 743, 744, 745, 746, 747, 748, 749, 750, 751, 752, 753, 754, 755, 801, 802, 803, 804, 805, 822, 823, 824, 825, 820, 821] (by decide +kernel) (by decide +kernel)
set_option maxRecDepth 20000 in
theorem gL_law_X9_pace : GoodIn wsL_law (wsV RL 36 RX9 yX9_pace wsX9_pace) := goodIn_app (goodIn_of _ (by decide +kernel)) ggL_law_X9_pace
set_option maxRecDepth 20000 in
theorem ggL_law_X10_pace : GoodIn wsL_law wsX10_pace := goodIn_r _ [327, 138, 232, 233, 5, 234, 328, 329, 330, 331, 245, 246, 247, 248, 249, 135, 136, 137, 134, 132, 133, 250, 251, 252, 253, 254, 255, 256, 257, 756, 757, 758, 759, 760, 761, 762, 763, 764, 765, 766, 767, 768, 769, 770, 771, 772, 773, 774, 775, 776, 777, 778, 779, 780, 781, 782, 783, 784, 785, 786, 787, 788, 789, 790, 791, 792, 793, 794, 795, 796, 797, 798, 799, 800] (by decide +kernel) (by decide +kernel)
set_option maxRecDepth 20000 in
theorem gL_law_X10_pace : GoodIn wsL_law (wsV RL 40 RX10 yX10_pace wsX10_pace) := goodIn_app (goodIn_of _ (by decide +kernel)) ggL_law_X10_pace
set_option maxRecDepth 20000 in
theorem ggL_law_X9_fastest : GoodIn wsL_law wsX9_fastest := goodIn_r _ [335, 15, 336, 337, 338, 14, 339, 54, 50, 48, 340, 341, 342, 343, 344, 345, 346, 57, 347, 67, 70, 68, 215, 212, 213, 52, 214, 62, 63, 205, 2, 206, 741, 742, 743, 744, 745, 746, 747, 748, 749, 750, 751, 752, 753, 754, 755, 801, 802, 803, 804, 805, 822, 823, 824, 825, 820, 821] (by decide +kernel) (by decide +kernel)
set_option maxRecDepth 20000 in
theorem gL_law_X9_fastest : GoodIn wsL_law (wsV RL 41 RX9 yX9_fastest wsX9_fastest) := goodIn_app (goodIn_of _ (by decide +kernel)) ggL_law_X9_fastest
set_option maxRecDepth 20000 in
theorem ggL_law_X10_fastest : GoodIn wsL_law wsX10_fastest := goodIn_r _ [351, 328, 329, 330, 5, 331, 245, 246, 247, 248, 249, 135, 136, 137, 134, 132, 133, 250, 251, 252, 253, 254, 255, 256, 257, 756, 757, 758, 759, 760, 761, 762, 763, 764, 765, 766, 767, 768, 769, 770, 771, 772, 773, 774, 775, 776, 777, 778, 779, 780, 781, 782, 783, 784, 785, 786, 787, 788, 789, 790, 791, 792, 793, 794, 795, 796, 797, 798, 799, 800] (by decide +kernel) (by decide +kernel)
set_option maxRecDepth 20000 in
theorem gL_law_X10_fastest : GoodIn wsL_law (wsV RL 44 RX10 yX10_fastest wsX10_fastest) := goodIn_app (goodIn_of _ (by decide +kernel)) ggL_law_X10_fastest
set_option maxRecDepth 20000 in
theorem ggL_law_X9_act : GoodIn wsL_law wsX9_act := goodIn_r _ [355, 15, 171, 356, 357, 175, 176, 2, 177, 178, 179, 180, 181, 182, 183, 358, 212, 213, 52, 214, 62, 63, 205, 206, 184, 185, 186, 359, 208, 209, 210, 211, 360, 361, 362, 741, 742, 743, 744, 745, 746, 747, 748, 749, 750, 751, 752, 753, 754, 755, 801, 802, 803, 804, 805, 820, 821] (by decide +kernel) (by decide +kernel)
set_option maxRecDepth 20000 in
theorem gL_law_X9_act : GoodIn wsL_law (wsV RL 45 RX9 yX9_act wsX9_act) := goodIn_app (goodIn_of _ (by decide +kernel)) ggL_law_X9_act
set_option maxRecDepth 20000 in
theorem ggL_law_X10_act : GoodIn wsL_law wsX10_act := goodIn_r _ [366, 132, 133, 229, 230, 5, 231, 232, 233, 234, 235, 236, 237, 238, 239, 240, 250, 251, 252, 253, 254, 255, 256, 257, 756, 757, 758, 759, 760, 761, 762, 763, 764, 765, 766, 767, 768, 769, 770, 771, 772, 773, 774, 775, 776, 777, 778, 779, 780, 781, 782, 783, 784, 785, 786, 787, 788, 789, 790, 791, 792, 793, 794, 795, 796, 797, 798, 799, 800] (by decide +kernel) (by decide +kernel)
set_option maxRecDepth 20000 in
theorem gL_law_X10_act : GoodIn wsL_law (wsV RL 48 RX10 yX10_act wsX10_act) := goodIn_app (goodIn_of _ (by decide +kernel)) ggL_law_X10_act
set_option maxRecDepth 20000 in
theorem ggL_law_X9_would : GoodIn wsL_law wsX9_would := goodIn_r _ [370, 15, 172, 173, 2, 174, 175, 176, 177, 178, 179, 180, 181, 182, 183, 184, 185, 186, 187, 188, 189, 14, 190, 53, 48, 54, 50, 55, 191, 192, 193, 52, 194, 62, 63, 195, 196, 197, 198, 199, 200, 201, 57, 202, 67, 203, 68, 204, 69, 70, 205, 206, 207, 208, 209, 210, 211, 212, 213, 214, 215, 216, 217, 218, 219, 741, 742, 743, 744, 745, 746, 747, 748, 749, 750, 751, 752, 753, 754, 755, 801, 802, 803, 804, 805, 820, 821, 822, 823, 824, 825] (by decide +kernel) (by decide +kernel)
set_option maxRecDepth 20000 in
theorem gL_law_X9_would : GoodIn wsL_law (wsV RL 49 RX9 yX9_would wsX9_would) := goodIn_app (goodIn_of _ (by decide +kernel)) ggL_law_X9_would
set_option maxRecDepth 20000 in
theorem ggL_law_X10_would : GoodIn wsL_law wsX10_would := goodIn_r _ [374, 132, 133, 225, 226, 227, 5, 228, 229, 230, 231, 232, 233, 234, 235, 236, 237, 238, 239, 240, 241, 242, 243, 244, 245, 138, 246, 247, 248, 249, 135, 136, 137, 134, 250, 251, 252, 253, 254, 255, 256, 257, 756, 757, 758, 759, 760, 761, 762, 763, 764, 765, 766, 767, 768, 769, 770, 771, 772, 773, 774, 775, 776, 777, 778, 779, 780, 781, 782, 783, 784, 785, 786, 787, 788, 789, 790, 791, 792, 793, 794, 795, 796, 797, 798, 799, 800] (by decide +kernel) (by decide +kernel)
set_option maxRecDepth 20000 in
theorem gL_law_X10_would : GoodIn wsL_law (wsV RL 52 RX10 yX10_would wsX10_would) := goodIn_app (goodIn_of _ (by decide +kernel)) ggL_law_X10_would
set_option maxRecDepth 20000 in
theorem ggL_law_X9_arm : GoodIn wsL_law wsX9_arm := goodIn_r _ [378, 19, 379, 380, 381, 382, 2, 383, 178, 179, 180, 384, 385, 386, 18, 387, 76, 79, 388, 389, 390, 391, 392, 393, 394, 395, 396, 397, 398, 399, 400, 401, 402, 78, 403, 83, 404, 405, 406, 407, 85, 408, 409, 342, 410, 411, 412, 413, 414, 205, 206, 415, 416, 417, 418, 84, 419, 741, 742, 743, 744, 745, 746, 747, 748, 749, 750, 751, 752, 753, 754, 755, 806, 807, 826, 827, 828] (by decide +kernel) (by decide +kernel)
set_option maxRecDepth 20000 in
theorem gL_law_X9_arm : GoodIn wsL_law (wsV RL 53 RX9 yX9_arm wsX9_arm) := goodIn_app (goodIn_of _ (by decide +kernel)) ggL_law_X9_arm
set_option maxRecDepth 20000 in
theorem ggL_law_X10_arm : GoodIn wsL_law wsX10_arm := goodIn_r _ [423, 424, 139, 165, 140, 166, 141, 142, 143, 425, 426, 5, 427, 232, 233, 234, 428, 429, 430, 431, 432, 433, 434, 435, 436, 437, 438, 756, 757, 758, 759, 760, 761, 762, 763, 764, 765, 766, 767, 768, 769, 770, 771, 772, 773, 774, 775, 776, 777, 778, 779, 780, 781, 782, 783, 784, 785, 786, 787, 788, 789, 790, 791, 792, 793, 794, 795, 796, 797, 798, 799, 800] (by decide +kernel) (by decide +kernel)
set_option maxRecDepth 20000 in
theorem gL_law_X10_arm : GoodIn wsL_law (wsV RL 56 RX10 yX10_arm wsX10_arm) := goodIn_app (goodIn_of _ (by decide +kernel)) ggL_law_X10_arm
set_option maxRecDepth 20000 in
theorem ggL_law_X9_knot : GoodIn wsL_law wsX9_knot := goodIn_r _ [442, 19, 379, 380, 184, 185, 2, 186, 178, 179, 180, 443, 444, 445, 78, 446, 85, 83, 447, 87, 88, 89, 84, 741, 742, 743, 744, 745, 746, 747, 748, 749, 750, 751, 752, 753, 754, 755, 806, 807, 826, 827, 828] (by decide +kernel) (by decide +kernel)
set_option maxRecDepth 20000 in
theorem gL_law_X9_knot : GoodIn wsL_law (wsV RL 57 RX9 yX9_knot wsX9_knot) := goodIn_app (goodIn_of _ (by decide +kernel)) ggL_law_X9_knot
set_option maxRecDepth 20000 in
theorem ggL_law_X10_knot : GoodIn wsL_law wsX10_knot := goodIn_r _ [451, 424, 142, 143, 238, 239, 5, 240, 232, 233, 234, 756, 757, 758, 759, 760, 761, 762, 763, 764, 765, 766, 767, 768, 769, 770, 771, 772, 773, 774, 775, 776, 777, 778, 779, 780, 781, 782, 783, 784, 785, 786, 787, 788, 789, 790, 791, 792, 793, 794, 795, 796, 797, 798, 799, 800] (by decide +kernel) (by decide +kernel)
set_option maxRecDepth 20000 in
theorem gL_law_X10_knot : GoodIn wsL_law (wsV RL 60 RX10 yX10_knot wsX10_knot) := goodIn_app (goodIn_of _ (by decide +kernel)) ggL_law_X10_knot
set_option maxRecDepth 20000 in
theorem ggL_law_X9_forget : GoodIn wsL_law wsX9_forget := goodIn_r _ [455, 19, 379, 380, 741, 742, 743, 744, 745, 746, 747, 748, 749, 750, 751, 752, 753, 754, 755, 806, 807, 826, 827, 828] (by decide +kernel) (by decide +kernel)
set_option maxRecDepth 20000 in
theorem gL_law_X9_forget : GoodIn wsL_law (wsV RL 61 RX9 yX9_forget wsX9_forget) := goodIn_app (goodIn_of _ (by decide +kernel)) ggL_law_X9_forget
set_option maxRecDepth 20000 in
theorem ggL_law_X10_forget : GoodIn wsL_law wsX10_forget := goodIn_r _ [459, 424, 756, 757, 758, 759, 760, 761, 762, 763, 764, 765, 766, 767, 768, 769, 770, 771, 772, 773, 774, 775, 776, 777, 778, 779, 780, 781, 782, 783, 784, 785, 786, 787, 788, 789, 790, 791, 792, 793, 794, 795, 796, 797, 798, 799, 800] (by decide +kernel) (by decide +kernel)
set_option maxRecDepth 20000 in
theorem gL_law_X10_forget : GoodIn wsL_law (wsV RL 64 RX10 yX10_forget wsX10_forget) := goodIn_app (goodIn_of _ (by decide +kernel)) ggL_law_X10_forget
set_option maxRecDepth 20000 in
theorem ggL_law_X9_place : GoodIn wsL_law wsX9_place := goodIn_r _ [463, 19, 464, 381, 382, 2, 383, 178, 179, 180, 184, 185, 186, 465, 416, 417, 78, 418, 84, 83, 404, 405, 406, 407, 85, 408, 409, 342, 410, 411, 412, 413, 414, 419, 401, 402, 403, 205, 206, 466, 467, 468, 469, 470, 741, 742, 743, 744, 745, 746, 747, 748, 749, 750, 751, 752, 753, 754, 755, 806, 807, 826, 827, 828] (by decide +kernel) (by decide +kernel)
set_option maxRecDepth 20000 in
theorem gL_law_X9_place : GoodIn wsL_law (wsV RL 65 RX9 yX9_place wsX9_place) := goodIn_app (goodIn_of _ (by decide +kernel)) ggL_law_X9_place
set_option maxRecDepth 20000 in
theorem ggL_law_X10_place : GoodIn wsL_law wsX10_place := goodIn_r _ [474, 432, 434, 425, 426, 5, 427, 232, 233, 234, 238, 239, 240, 435, 436, 437, 438, 139, 140, 141, 475, 476, 477, 756, 757, 758, 759, 760, 761, 762, 763, 764, 765, 766, 767, 768, 769, 770, 771, 772, 773, 774, 775, 776, 777, 778, 779, 780, 781, 782, 783, 784, 785, 786, 787, 788, 789, 790, 791, 792, 793, 794, 795, 796, 797, 798, 799, 800] (by decide +kernel) (by decide +kernel)
set_option maxRecDepth 20000 in
theorem gL_law_X10_place : GoodIn wsL_law (wsV RL 69 RX10 yX10_place wsX10_place) := goodIn_app (goodIn_of _ (by decide +kernel)) ggL_law_X10_place
set_option maxRecDepth 20000 in
theorem ggL_law_X9_nearest : GoodIn wsL_law wsX9_nearest := goodIn_r _ [481, 19, 464, 381, 382, 2, 383, 178, 179, 180, 482, 483, 484, 18, 485, 395, 396, 486, 487, 488, 489, 341, 342, 343, 490, 491, 492, 415, 416, 417, 78, 418, 84, 83, 404, 405, 406, 407, 85, 408, 409, 410, 411, 412, 413, 414, 419, 401, 402, 403, 205, 206, 400, 493, 494, 495, 741, 742, 743, 744, 745, 746, 747, 748, 749, 750, 751, 752, 753, 754, 755, 806, 807, 826, 827, 828] (by decide +kernel) (by decide +kernel)
set_option maxRecDepth 20000 in
theorem gL_law_X9_nearest : GoodIn wsL_law (wsV RL 70 RX9 yX9_nearest wsX9_nearest) := goodIn_app (goodIn_of _ (by decide +kernel)) ggL_law_X9_nearest
set_option maxRecDepth 20000 in
theorem ggL_law_X10_nearest : GoodIn wsL_law wsX10_nearest := goodIn_r _ [499, 432, 434, 425, 426, 5, 427, 232, 233, 234, 435, 436, 437, 438, 139, 140, 141, 756, 757, 758, 759, 760, 761, 762, 763, 764, 765, 766, 767, 768, 769, 770, 771, 772, 773, 774, 775, 776, 777, 778, 779, 780, 781, 782, 783, 784, 785, 786, 787, 788, 789, 790, 791, 792, 793, 794, 795, 796, 797, 798, 799, 800] (by decide +kernel) (by decide +kernel)
set_option maxRecDepth 20000 in
theorem gL_law_X10_nearest : GoodIn wsL_law (wsV RL 73 RX10 yX10_nearest wsX10_nearest) := goodIn_app (goodIn_of _ (by decide +kernel)) ggL_law_X10_nearest
set_option maxRecDepth 20000 in
theorem ggL_law_X9_stop : GoodIn wsL_law wsX9_stop := goodIn_r _ [503, 23, 504, 175, 176, 2, 177, 178, 179, 180, 505, 506, 507, 22, 508, 96, 94, 509, 510, 511, 512, 95, 741, 742, 743, 744, 745, 746, 747, 748, 749, 750, 751, 752, 753, 754, 755, 808, 809, 810] (by decide +kernel) (by decide +kernel)
set_option maxRecDepth 20000 in
theorem gL_law_X9_stop : GoodIn wsL_law (wsV RL 74 RX9 yX9_stop wsX9_stop) := goodIn_app (goodIn_of _ (by decide +kernel)) ggL_law_X9_stop
set_option maxRecDepth 20000 in
theorem ggL_law_X10_stop : GoodIn wsL_law wsX10_stop := goodIn_r _ [516, 144, 145, 517, 229, 230, 5, 231, 232, 233, 234, 518, 519, 520, 521, 756, 757, 758, 759, 760, 761, 762, 763, 764, 765, 766, 767, 768, 769, 770, 771, 772, 773, 774, 775, 776, 777, 778, 779, 780, 781, 782, 783, 784, 785, 786, 787, 788, 789, 790, 791, 792, 793, 794, 795, 796, 797, 798, 799, 800] (by decide +kernel) (by decide +kernel)
set_option maxRecDepth 20000 in
theorem gL_law_X10_stop : GoodIn wsL_law (wsV RL 77 RX10 yX10_stop wsX10_stop) := goodIn_app (goodIn_of _ (by decide +kernel)) ggL_law_X10_stop
set_option maxRecDepth 20000 in
theorem ggL_law_X9_start : GoodIn wsL_law wsX9_start := goodIn_r _ [525, 23, 504, 175, 176, 2, 177, 178, 179, 180, 505, 506, 507, 22, 508, 96, 94, 526, 527, 528, 529, 741, 742, 743, 744, 745, 746, 747, 748, 749, 750, 751, 752, 753, 754, 755, 808, 809, 810] (by decide +kernel) (by decide +kernel)
set_option maxRecDepth 20000 in
theorem gL_law_X9_start : GoodIn wsL_law (wsV RL 78 RX9 yX9_start wsX9_start) := goodIn_app (goodIn_of _ (by decide +kernel)) ggL_law_X9_start
set_option maxRecDepth 20000 in
theorem ggL_law_X10_start : GoodIn wsL_law wsX10_start := goodIn_r _ [533, 145, 144, 229, 230, 5, 231, 232, 233, 234, 518, 519, 520, 521, 756, 757, 758, 759, 760, 761, 762, 763, 764, 765, 766, 767, 768, 769, 770, 771, 772, 773, 774, 775, 776, 777, 778, 779, 780, 781, 782, 783, 784, 785, 786, 787, 788, 789, 790, 791, 792, 793, 794, 795, 796, 797, 798, 799, 800] (by decide +kernel) (by decide +kernel)
set_option maxRecDepth 20000 in
theorem gL_law_X10_start : GoodIn wsL_law (wsV RL 81 RX10 yX10_start wsX10_start) := goodIn_app (goodIn_of _ (by decide +kernel)) ggL_law_X10_start
set_option maxRecDepth 20000 in
theorem ggL_law_X9_job : GoodIn wsL_law wsX9_job := goodIn_r _ [537, 33, 175, 176, 2, 177, 178, 179, 180, 538, 539, 540, 741, 742, 743, 744, 745, 746, 747, 748, 749, 750, 751, 752, 753, 754, 755] (by decide +kernel) (by decide +kernel)
set_option maxRecDepth 20000 in
theorem gL_law_X9_job : GoodIn wsL_law (wsV RL 82 RX9 yX9_job wsX9_job) := goodIn_app (goodIn_of _ (by decide +kernel)) ggL_law_X9_job
set_option maxRecDepth 20000 in
theorem ggL_law_X10_job : GoodIn wsL_law wsX10_job := goodIn_r _ [544, 146, 229, 230, 5, 231, 232, 233, 234, 545, 546, 547, 756, 757, 758, 759, 760, 761, 762, 763, 764, 765, 766, 767, 768, 769, 770, 771, 772, 773, 774, 775, 776, 777, 778, 779, 780, 781, 782, 783, 784, 785, 786, 787, 788, 789, 790, 791, 792, 793, 794, 795, 796, 797, 798, 799, 800] (by decide +kernel) (by decide +kernel)
set_option maxRecDepth 20000 in
theorem gL_law_X10_job : GoodIn wsL_law (wsV RL 85 RX10 yX10_job wsX10_job) := goodIn_app (goodIn_of _ (by decide +kernel)) ggL_law_X10_job
set_option maxRecDepth 20000 in
theorem ggL_law_X9_aim : GoodIn wsL_law wsX9_aim := goodIn_r _ [551, 34, 35, 538, 539, 2, 540, 178, 179, 180, 552, 553, 554, 741, 742, 743, 744, 745, 746, 747, 748, 749, 750, 751, 752, 753, 754, 755] (by decide +kernel) (by decide +kernel)
set_option maxRecDepth 20000 in
theorem gL_law_X9_aim : GoodIn wsL_law (wsV RL 86 RX9 yX9_aim wsX9_aim) := goodIn_app (goodIn_of _ (by decide +kernel)) ggL_law_X9_aim
set_option maxRecDepth 20000 in
theorem ggL_law_X10_aim : GoodIn wsL_law wsX10_aim := goodIn_r _ [558, 148, 149, 545, 546, 5, 547, 232, 233, 234, 756, 757, 758, 759, 760, 761, 762, 763, 764, 765, 766, 767, 768, 769, 770, 771, 772, 773, 774, 775, 776, 777, 778, 779, 780, 781, 782, 783, 784, 785, 786, 787, 788, 789, 790, 791, 792, 793, 794, 795, 796, 797, 798, 799, 800] (by decide +kernel) (by decide +kernel)
set_option maxRecDepth 20000 in
theorem gL_law_X10_aim : GoodIn wsL_law (wsV RL 89 RX10 yX10_aim wsX10_aim) := goodIn_app (goodIn_of _ (by decide +kernel)) ggL_law_X10_aim
set_option maxRecDepth 20000 in
theorem ggL_law_X9_glass : GoodIn wsL_law wsX9_glass := goodIn_r _ [562, 37, 38, 552, 553, 2, 554, 178, 179, 180, 741, 742, 743, 744, 745, 746, 747, 748, 749, 750, 751, 752, 753, 754, 755] (by decide +kernel) (by decide +kernel)
set_option maxRecDepth 20000 in
theorem gL_law_X9_glass : GoodIn wsL_law (wsV RL 90 RX9 yX9_glass wsX9_glass) := goodIn_app (goodIn_of _ (by decide +kernel)) ggL_law_X9_glass
set_option maxRecDepth 20000 in
theorem ggL_law_X10_glass : GoodIn wsL_law wsX10_glass := goodIn_r _ [566, 567, 568, 232, 233, 5, 234, 756, 757, 758, 759, 760, 761, 762, 763, 764, 765, 766, 767, 768, 769, 770, 771, 772, 773, 774, 775, 776, 777, 778, 779, 780, 781, 782, 783, 784, 785, 786, 787, 788, 789, 790, 791, 792, 793, 794, 795, 796, 797, 798, 799, 800] (by decide +kernel) (by decide +kernel)
set_option maxRecDepth 20000 in
theorem gL_law_X10_glass : GoodIn wsL_law (wsV RL 93 RX10 yX10_glass wsX10_glass) := goodIn_app (goodIn_of _ (by decide +kernel)) ggL_law_X10_glass
set_option maxRecDepth 20000 in
theorem ggL_law_X9_mould : GoodIn wsL_law wsX9_mould := goodIn_r _ [572, 27, 573, 175, 176, 2, 177, 178, 179, 180, 574, 575, 576, 577, 578, 579, 26, 580, 107, 741, 742, 743, 744, 745, 746, 747, 748, 749, 750, 751, 752, 753, 754, 755, 811, 812, 813, 814, 815, 816] (by decide +kernel) (by decide +kernel)
set_option maxRecDepth 20000 in
theorem gL_law_X9_mould : GoodIn wsL_law (wsV RL 94 RX9 yX9_mould wsX9_mould) := goodIn_app (goodIn_of _ (by decide +kernel)) ggL_law_X9_mould
set_option maxRecDepth 20000 in
theorem ggL_law_X10_mould : GoodIn wsL_law wsX10_mould := goodIn_r _ [584, 147, 229, 230, 5, 231, 232, 233, 234, 585, 586, 587, 588, 589, 590, 591, 756, 757, 758, 759, 760, 761, 762, 763, 764, 765, 766, 767, 768, 769, 770, 771, 772, 773, 774, 775, 776, 777, 778, 779, 780, 781, 782, 783, 784, 785, 786, 787, 788, 789, 790, 791, 792, 793, 794, 795, 796, 797, 798, 799, 800] (by decide +kernel) (by decide +kernel)
set_option maxRecDepth 20000 in
theorem gL_law_X10_mould : GoodIn wsL_law (wsV RL 97 RX10 yX10_mould wsX10_mould) := goodIn_app (goodIn_of _ (by decide +kernel)) ggL_law_X10_mould
set_option maxRecDepth 20000 in
theorem ggL_law_X9_swab : GoodIn wsL_law wsX9_swab := goodIn_r _ [595, 27, 596, 574, 575, 2, 576, 178, 179, 180, 741, 742, 743, 744, 745, 746, 747, 748, 749, 750, 751, 752, 753, 754, 755, 811, 812, 813, 814, 815, 816] (by decide +kernel) (by decide +kernel)
set_option maxRecDepth 20000 in
theorem gL_law_X9_swab : GoodIn wsL_law (wsV RL 98 RX9 yX9_swab wsX9_swab) := goodIn_app (goodIn_of _ (by decide +kernel)) ggL_law_X9_swab
set_option maxRecDepth 20000 in
theorem ggL_law_X10_swab : GoodIn wsL_law wsX10_swab := goodIn_r _ [600, 151, 585, 586, 5, 587, 232, 233, 234, 756, 757, 758, 759, 760, 761, 762, 763, 764, 765, 766, 767, 768, 769, 770, 771, 772, 773, 774, 775, 776, 777, 778, 779, 780, 781, 782, 783, 784, 785, 786, 787, 788, 789, 790, 791, 792, 793, 794, 795, 796, 797, 798, 799, 800] (by decide +kernel) (by decide +kernel)
set_option maxRecDepth 20000 in
theorem gL_law_X10_swab : GoodIn wsL_law (wsV RL 101 RX10 yX10_swab wsX10_swab) := goodIn_app (goodIn_of _ (by decide +kernel)) ggL_law_X10_swab
set_option maxRecDepth 20000 in
theorem ggL_law_X9_repair : GoodIn wsL_law wsX9_repair := goodIn_r _ [604, 27, 605, 574, 575, 2, 576, 178, 179, 180, 606, 607, 608, 26, 609, 101, 102, 104, 741, 742, 743, 744, 745, 746, 747, 748, 749, 750, 751, 752, 753, 754, 755, 811, 812, 813, 814, 815, 816] (by decide +kernel) (by decide +kernel)
set_option maxRecDepth 20000 in
theorem gL_law_X9_repair : GoodIn wsL_law (wsV RL 102 RX9 yX9_repair wsX9_repair) := goodIn_app (goodIn_of _ (by decide +kernel)) ggL_law_X9_repair
set_option maxRecDepth 20000 in
theorem ggL_law_X10_repair : GoodIn wsL_law wsX10_repair := goodIn_r _ [613, 150, 151, 152, 585, 586, 5, 587, 232, 233, 234, 756, 757, 758, 759, 760, 761, 762, 763, 764, 765, 766, 767, 768, 769, 770, 771, 772, 773, 774, 775, 776, 777, 778, 779, 780, 781, 782, 783, 784, 785, 786, 787, 788, 789, 790, 791, 792, 793, 794, 795, 796, 797, 798, 799, 800] (by decide +kernel) (by decide +kernel)
set_option maxRecDepth 20000 in
theorem gL_law_X10_repair : GoodIn wsL_law (wsV RL 105 RX10 yX10_repair wsX10_repair) := goodIn_app (goodIn_of _ (by decide +kernel)) ggL_law_X10_repair
set_option maxRecDepth 20000 in
theorem ggL_law_X9_pull : GoodIn wsL_law wsX9_pull := goodIn_r _ [617, 27, 618, 574, 575, 2, 576, 178, 179, 180, 360, 361, 362, 741, 742, 743, 744, 745, 746, 747, 748, 749, 750, 751, 752, 753, 754, 755, 811, 812, 813, 814, 815, 816] (by decide +kernel) (by decide +kernel)
set_option maxRecDepth 20000 in
theorem gL_law_X9_pull : GoodIn wsL_law (wsV RL 106 RX9 yX9_pull wsX9_pull) := goodIn_app (goodIn_of _ (by decide +kernel)) ggL_law_X9_pull
set_option maxRecDepth 20000 in
theorem ggL_law_X10_pull : GoodIn wsL_law wsX10_pull := goodIn_r _ [622, 152, 585, 586, 5, 587, 232, 233, 234, 756, 757, 758, 759, 760, 761, 762, 763, 764, 765, 766, 767, 768, 769, 770, 771, 772, 773, 774, 775, 776, 777, 778, 779, 780, 781, 782, 783, 784, 785, 786, 787, 788, 789, 790, 791, 792, 793, 794, 795, 796, 797, 798, 799, 800] (by decide +kernel) (by decide +kernel)
set_option maxRecDepth 20000 in
theorem gL_law_X10_pull : GoodIn wsL_law (wsV RL 110 RX10 yX10_pull wsX10_pull) := goodIn_app (goodIn_of _ (by decide +kernel)) ggL_law_X10_pull
set_option maxRecDepth 20000 in
theorem ggL_law_X9_rule : GoodIn wsL_law wsX9_rule := goodIn_r _ [626, 40, 41, 178, 179, 2, 180, 741, 742, 743, 744, 745, 746, 747, 748, 749, 750, 751, 752, 753, 754, 755] (by decide +kernel) (by decide +kernel)
set_option maxRecDepth 20000 in
theorem gL_law_X9_rule : GoodIn wsL_law (wsV RL 111 RX9 yX9_rule wsX9_rule) := goodIn_app (goodIn_of _ (by decide +kernel)) ggL_law_X9_rule
set_option maxRecDepth 20000 in
theorem ggL_law_X10_rule : GoodIn wsL_law wsX10_rule := goodIn_r _ [630, 631, 156, 232, 233, 5, 234, 756, 757, 758, 759, 760, 761, 762, 763, 764, 765, 766, 767, 768, 769, 770, 771, 772, 773, 774, 775, 776, 777, 778, 779, 780, 781, 782, 783, 784, 785, 786, 787, 788, 789, 790, 791, 792, 793, 794, 795, 796, 797, 798, 799, 800] (by decide +kernel) (by decide +kernel)
set_option maxRecDepth 20000 in
theorem gL_law_X10_rule : GoodIn wsL_law (wsV RL 114 RX10 yX10_rule wsX10_rule) := goodIn_app (goodIn_of _ (by decide +kernel)) ggL_law_X10_rule
set_option maxRecDepth 20000 in
theorem ggL_law_X9_book : GoodIn wsL_law wsX9_book := goodIn_r _ [635, 27, 605, 596, 618, 636, 637, 574, 575, 2, 576, 178, 179, 180, 360, 361, 362, 577, 578, 579, 26, 580, 107, 741, 742, 743, 744, 745, 746, 747, 748, 749, 750, 751, 752, 753, 754, 755, 811, 812, 813, 814, 815, 816] (by decide +kernel) (by decide +kernel)
set_option maxRecDepth 20000 in
theorem gL_law_X9_book : GoodIn wsL_law (wsV RL 115 RX9 yX9_book wsX9_book) := goodIn_app (goodIn_of _ (by decide +kernel)) ggL_law_X9_book
set_option maxRecDepth 20000 in
theorem ggL_law_X10_book : GoodIn wsL_law wsX10_book := goodIn_r _ [641, 150, 151, 152, 153, 154, 585, 586, 5, 587, 232, 233, 234, 588, 589, 590, 591, 147, 756, 757, 758, 759, 760, 761, 762, 763, 764, 765, 766, 767, 768, 769, 770, 771, 772, 773, 774, 775, 776, 777, 778, 779, 780, 781, 782, 783, 784, 785, 786, 787, 788, 789, 790, 791, 792, 793, 794, 795, 796, 797, 798, 799, 800] (by decide +kernel) (by decide +kernel)
set_option maxRecDepth 20000 in
theorem gL_law_X10_book : GoodIn wsL_law (wsV RL 118 RX10 yX10_book wsX10_book) := goodIn_app (goodIn_of _ (by decide +kernel)) ggL_law_X10_book
set_option maxRecDepth 20000 in
theorem ggL_law_X9_cut : GoodIn wsL_law wsX9_cut := goodIn_r _ [645, 23, 504, 31, 646, 178, 179, 2, 180, 647, 648, 649, 650, 36, 27, 651, 652, 39, 653, 654, 655, 341, 342, 343, 470, 409, 410, 656, 657, 658, 30, 659, 113, 114, 115, 660, 661, 662, 663, 664, 618, 665, 666, 667, 668, 669, 670, 26, 671, 105, 106, 672, 673, 674, 675, 573, 33, 605, 596, 42, 676, 677, 34, 40, 38, 678, 679, 680, 22, 681, 96, 94, 95, 682, 683, 684, 685, 686, 687, 688, 689, 690, 691, 692, 693, 694, 695, 696, 697, 35, 37, 41, 741, 742, 743, 744, 745, 746, 747, 748, 749, 750, 751, 752, 753, 754, 755, 808, 809, 810, 817, 818, 819, 829, 830, 831, 832, 833, 834, 835, 811, 812, 813, 814, 815, 816] (by decide +kernel) (by decide +kernel)
set_option maxRecDepth 20000 in
theorem gL_law_X9_cut : GoodIn wsL_law (wsV RL 119 RX9 yX9_cut wsX9_cut) := goodIn_app (goodIn_of _ (by decide +kernel)) ggL_law_X9_cut
set_option maxRecDepth 20000 in
theorem ggL_law_X10_cut : GoodIn wsL_law wsX10_cut := goodIn_r _ [701, 144, 702, 232, 233, 5, 234, 703, 704, 705, 706, 164, 153, 159, 154, 157, 155, 162, 161, 158, 160, 163, 707, 708, 709, 710, 152, 711, 712, 713, 714, 145, 517, 147, 146, 150, 151, 715, 631, 148, 568, 567, 149, 156, 756, 757, 758, 759, 760, 761, 762, 763, 764, 765, 766, 767, 768, 769, 770, 771, 772, 773, 774, 775, 776, 777, 778, 779, 780, 781, 782, 783, 784, 785, 786, 787, 788, 789, 790, 791, 792, 793, 794, 795, 796, 797, 798, 799, 800] (by decide +kernel) (by decide +kernel)
set_option maxRecDepth 20000 in
theorem gL_law_X10_cut : GoodIn wsL_law (wsV RL 122 RX10 yX10_cut wsX10_cut) := goodIn_app (goodIn_of _ (by decide +kernel)) ggL_law_X10_cut
set_option maxRecDepth 20000 in
theorem ggL_law_X9_drain : GoodIn wsL_law wsX9_drain := goodIn_r _ [719, 31, 646, 647, 648, 649, 2, 650, 36, 27, 651, 652, 39, 653, 654, 655, 341, 342, 343, 470, 409, 410, 656, 657, 658, 30, 659, 113, 114, 115, 660, 661, 662, 663, 664, 618, 665, 666, 667, 668, 669, 670, 26, 671, 105, 106, 741, 742, 743, 744, 745, 746, 747, 748, 749, 750, 751, 752, 753, 754, 755, 817, 818, 819, 829, 830, 831, 832, 833, 834, 835, 811, 812, 813, 814, 815, 816] (by decide +kernel) (by decide +kernel)
set_option maxRecDepth 20000 in
theorem gL_law_X9_drain : GoodIn wsL_law (wsV RL 123 RX9 yX9_drain wsX9_drain) := goodIn_app (goodIn_of _ (by decide +kernel)) ggL_law_X9_drain
set_option maxRecDepth 20000 in
theorem ggL_law_X10_drain : GoodIn wsL_law wsX10_drain := goodIn_r _ [723, 702, 703, 704, 705, 5, 706, 164, 153, 159, 154, 157, 155, 162, 161, 158, 160, 163, 707, 708, 709, 710, 152, 756, 757, 758, 759, 760, 761, 762, 763, 764, 765, 766, 767, 768, 769, 770, 771, 772, 773, 774, 775, 776, 777, 778, 779, 780, 781, 782, 783, 784, 785, 786, 787, 788, 789, 790, 791, 792, 793, 794, 795, 796, 797, 798, 799, 800] (by decide +kernel) (by decide +kernel)
set_option maxRecDepth 20000 in
theorem gL_law_X10_drain : GoodIn wsL_law (wsV RL 126 RX10 yX10_drain wsX10_drain) := goodIn_app (goodIn_of _ (by decide +kernel)) ggL_law_X10_drain
set_option maxRecDepth 20000 in
theorem ggL_law_X9_bottle : GoodIn wsL_law wsX9_bottle := goodIn_r _ [727, 31, 646, 652, 676, 651, 677, 654, 728, 691, 692, 30, 693, 113, 114, 660, 661, 662, 2, 663, 664, 27, 618, 653, 665, 666, 342, 667, 741, 742, 743, 744, 745, 746, 747, 748, 749, 750, 751, 752, 753, 754, 755, 817, 818, 819, 829, 830, 831, 832, 833, 834, 835, 811, 812, 813, 814, 815, 816] (by decide +kernel) (by decide +kernel)
set_option maxRecDepth 20000 in
theorem gL_law_X9_bottle : GoodIn wsL_law (wsV RL 127 RX9 yX9_bottle wsX9_bottle) := goodIn_app (goodIn_of _ (by decide +kernel)) ggL_law_X9_bottle
set_option maxRecDepth 20000 in
theorem ggL_law_X10_bottle : GoodIn wsL_law wsX10_bottle := goodIn_r _ [732, 702, 157, 158, 159, 160, 161, 232, 233, 5, 234, 707, 708, 709, 710, 163, 162, 152, 756, 757, 758, 759, 760, 761, 762, 763, 764, 765, 766, 767, 768, 769, 770, 771, 772, 773, 774, 775, 776, 777, 778, 779, 780, 781, 782, 783, 784, 785, 786, 787, 788, 789, 790, 791, 792, 793, 794, 795, 796, 797, 798, 799, 800] (by decide +kernel) (by decide +kernel)
set_option maxRecDepth 20000 in
theorem gL_law_X10_bottle : GoodIn wsL_law (wsV RL 130 RX10 yX10_bottle wsX10_bottle) := goodIn_app (goodIn_of _ (by decide +kernel)) ggL_law_X10_bottle
set_option maxRecDepth 20000 in
theorem ggL_law_X9_many : GoodIn wsL_law wsX9_many := goodIn_r _ [736, 36, 42, 31, 646, 23, 504, 39, 38, 15, 287, 289, 37, 178, 179, 2, 180, 678, 679, 680, 22, 681, 96, 94, 95, 741, 742, 743, 744, 745, 746, 747, 748, 749, 750, 751, 752, 753, 754, 755, 817, 818, 819, 808, 809, 810, 801, 802, 803, 804, 805] (by decide +kernel) (by decide +kernel)
set_option maxRecDepth 20000 in
theorem gL_law_X9_many : GoodIn wsL_law (wsV RL 131 RX9 yX9_many wsX9_many) := goodIn_app (goodIn_of _ (by decide +kernel)) ggL_law_X9_many
set_option maxRecDepth 20000 in
theorem ggL_law_X10_many : GoodIn wsL_law wsX10_many := goodIn_r _ [740, 164, 715, 702, 144, 155, 145, 517, 568, 245, 138, 567, 232, 233, 5, 234, 756, 757, 758, 759, 760, 761, 762, 763, 764, 765, 766, 767, 768, 769, 770, 771, 772, 773, 774, 775, 776, 777, 778, 779, 780, 781, 782, 783, 784, 785, 786, 787, 788, 789, 790, 791, 792, 793, 794, 795, 796, 797, 798, 799, 800] (by decide +kernel) (by decide +kernel)
set_option maxRecDepth 20000 in
theorem gL_law_X10_many : GoodIn wsL_law (wsV RL 134 RX10 yX10_many wsX10_many) := goodIn_app (goodIn_of _ (by decide +kernel)) ggL_law_X10_many
theorem dL_law_0 : decode cL_law 0 = .ok (.new 7, 3) := by decide +kernel
theorem dL_law_3 : decode cL_law 3 = .ok (.dup, 1) := by decide +kernel
theorem dL_law_4 : decode cL_law 4 = .ok (.invokespecial 9, 3) := by decide +kernel
theorem dL_law_7 : decode cL_law 7 = .ok (.astore_n 1, 1) := by decide +kernel
theorem dL_law_8 : decode cL_law 8 = .ok (.new 10, 3) := by decide +kernel
theorem dL_law_11 : decode cL_law 11 = .ok (.dup, 1) := by decide +kernel
theorem dL_law_12 : decode cL_law 12 = .ok (.invokespecial 12, 3) := by decide +kernel
theorem dL_law_15 : decode cL_law 15 = .ok (.astore_n 2, 1) := by decide +kernel
theorem dL_law_16 : decode cL_law 16 = .ok (.iconst 0, 1) := by decide +kernel
theorem dL_law_17 : decode cL_law 17 = .ok (.istore_n 3, 1) := by decide +kernel
theorem dL_law_18 : decode cL_law 18 = .ok (.iload_n 3, 1) := by decide +kernel
theorem dL_law_19 : decode cL_law 19 = .ok (.aload_n 0, 1) := by decide +kernel
theorem dL_law_20 : decode cL_law 20 = .ok (.arraylength, 1) := by decide +kernel
theorem dL_law_21 : decode cL_law 21 = .ok (.iconst 5, 1) := by decide +kernel
theorem dL_law_22 : decode cL_law 22 = .ok (.isub, 1) := by decide +kernel
theorem dL_law_23 : decode cL_law 23 = .ok (.if_icmp .gt 1060, 3) := by decide +kernel
theorem dL_law_26 : decode cL_law 26 = .ok (.aload_n 0, 1) := by decide +kernel
theorem dL_law_27 : decode cL_law 27 = .ok (.iload_n 3, 1) := by decide +kernel
theorem dL_law_28 : decode cL_law 28 = .ok (.iaload, 1) := by decide +kernel
theorem dL_law_29 : decode cL_law 29 = .ok (.bipush 31, 2) := by decide +kernel
theorem dL_law_31 : decode cL_law 31 = .ok (.iand, 1) := by decide +kernel
theorem dL_law_32 : decode cL_law 32 = .ok (.tableswitch 1045 0 28 #[132, 185, 218, 251, 304, 317, 340, 353, 406, 459, 482, 515, 528, 571, 604, 627, 650, 683, 726, 759, 792, 815, 838, 887, 920, 953, 976, 989, 1022], 132) := by decide +kernel
theorem dL_law_164 : decode cL_law 164 = .ok (.aload_n 1, 1) := by decide +kernel
theorem dL_law_165 : decode cL_law 165 = .ok (.aload_n 0, 1) := by decide +kernel
theorem dL_law_166 : decode cL_law 166 = .ok (.iload_n 3, 1) := by decide +kernel
theorem dL_law_167 : decode cL_law 167 = .ok (.iconst 1, 1) := by decide +kernel
theorem dL_law_168 : decode cL_law 168 = .ok (.iadd, 1) := by decide +kernel
theorem dL_law_169 : decode cL_law 169 = .ok (.iaload, 1) := by decide +kernel
theorem dL_law_170 : decode cL_law 170 = .ok (.aload_n 0, 1) := by decide +kernel
theorem dL_law_171 : decode cL_law 171 = .ok (.iload_n 3, 1) := by decide +kernel
theorem dL_law_172 : decode cL_law 172 = .ok (.iconst 2, 1) := by decide +kernel
theorem dL_law_173 : decode cL_law 173 = .ok (.iadd, 1) := by decide +kernel
theorem dL_law_174 : decode cL_law 174 = .ok (.iaload, 1) := by decide +kernel
theorem dL_law_175 : decode cL_law 175 = .ok (.aload_n 0, 1) := by decide +kernel
theorem dL_law_176 : decode cL_law 176 = .ok (.iload_n 3, 1) := by decide +kernel
theorem dL_law_177 : decode cL_law 177 = .ok (.iconst 3, 1) := by decide +kernel
theorem dL_law_178 : decode cL_law 178 = .ok (.iadd, 1) := by decide +kernel
theorem dL_law_179 : decode cL_law 179 = .ok (.iaload, 1) := by decide +kernel
theorem dL_law_180 : decode cL_law 180 = .ok (.aload_n 0, 1) := by decide +kernel
theorem dL_law_181 : decode cL_law 181 = .ok (.iload_n 3, 1) := by decide +kernel
theorem dL_law_182 : decode cL_law 182 = .ok (.iconst 4, 1) := by decide +kernel
theorem dL_law_183 : decode cL_law 183 = .ok (.iadd, 1) := by decide +kernel
theorem dL_law_184 : decode cL_law 184 = .ok (.iaload, 1) := by decide +kernel
theorem dL_law_185 : decode cL_law 185 = .ok (.invokevirtual 13, 3) := by decide +kernel
theorem dL_law_188 : decode cL_law 188 = .ok (.aload_n 2, 1) := by decide +kernel
theorem dL_law_189 : decode cL_law 189 = .ok (.aload_n 0, 1) := by decide +kernel
theorem dL_law_190 : decode cL_law 190 = .ok (.iload_n 3, 1) := by decide +kernel
theorem dL_law_191 : decode cL_law 191 = .ok (.iconst 1, 1) := by decide +kernel
theorem dL_law_192 : decode cL_law 192 = .ok (.iadd, 1) := by decide +kernel
theorem dL_law_193 : decode cL_law 193 = .ok (.iaload, 1) := by decide +kernel
theorem dL_law_194 : decode cL_law 194 = .ok (.aload_n 0, 1) := by decide +kernel
theorem dL_law_195 : decode cL_law 195 = .ok (.iload_n 3, 1) := by decide +kernel
theorem dL_law_196 : decode cL_law 196 = .ok (.iconst 2, 1) := by decide +kernel
theorem dL_law_197 : decode cL_law 197 = .ok (.iadd, 1) := by decide +kernel
theorem dL_law_198 : decode cL_law 198 = .ok (.iaload, 1) := by decide +kernel
theorem dL_law_199 : decode cL_law 199 = .ok (.aload_n 0, 1) := by decide +kernel
theorem dL_law_200 : decode cL_law 200 = .ok (.iload_n 3, 1) := by decide +kernel
theorem dL_law_201 : decode cL_law 201 = .ok (.iconst 3, 1) := by decide +kernel
theorem dL_law_202 : decode cL_law 202 = .ok (.iadd, 1) := by decide +kernel
theorem dL_law_203 : decode cL_law 203 = .ok (.iaload, 1) := by decide +kernel
theorem dL_law_204 : decode cL_law 204 = .ok (.aload_n 0, 1) := by decide +kernel
theorem dL_law_205 : decode cL_law 205 = .ok (.iload_n 3, 1) := by decide +kernel
theorem dL_law_206 : decode cL_law 206 = .ok (.iconst 4, 1) := by decide +kernel
theorem dL_law_207 : decode cL_law 207 = .ok (.iadd, 1) := by decide +kernel
theorem dL_law_208 : decode cL_law 208 = .ok (.iaload, 1) := by decide +kernel
theorem dL_law_209 : decode cL_law 209 = .ok (.invokevirtual 17, 3) := by decide +kernel
theorem dL_law_212 : decode cL_law 212 = .ok (.if_icmp .eq 865, 3) := by decide +kernel
theorem dL_law_215 : decode cL_law 215 = .ok (.iconst 0, 1) := by decide +kernel
theorem dL_law_216 : decode cL_law 216 = .ok (.ireturn, 1) := by decide +kernel
theorem dL_law_217 : decode cL_law 217 = .ok (.aload_n 1, 1) := by decide +kernel
theorem dL_law_218 : decode cL_law 218 = .ok (.aload_n 0, 1) := by decide +kernel
theorem dL_law_219 : decode cL_law 219 = .ok (.iload_n 3, 1) := by decide +kernel
theorem dL_law_220 : decode cL_law 220 = .ok (.iconst 1, 1) := by decide +kernel
theorem dL_law_221 : decode cL_law 221 = .ok (.iadd, 1) := by decide +kernel
theorem dL_law_222 : decode cL_law 222 = .ok (.iaload, 1) := by decide +kernel
theorem dL_law_223 : decode cL_law 223 = .ok (.aload_n 0, 1) := by decide +kernel
theorem dL_law_224 : decode cL_law 224 = .ok (.iload_n 3, 1) := by decide +kernel
theorem dL_law_225 : decode cL_law 225 = .ok (.iconst 2, 1) := by decide +kernel
theorem dL_law_226 : decode cL_law 226 = .ok (.iadd, 1) := by decide +kernel
theorem dL_law_227 : decode cL_law 227 = .ok (.iaload, 1) := by decide +kernel
theorem dL_law_228 : decode cL_law 228 = .ok (.invokevirtual 18, 3) := by decide +kernel
theorem dL_law_231 : decode cL_law 231 = .ok (.aload_n 2, 1) := by decide +kernel
theorem dL_law_232 : decode cL_law 232 = .ok (.aload_n 0, 1) := by decide +kernel
theorem dL_law_233 : decode cL_law 233 = .ok (.iload_n 3, 1) := by decide +kernel
theorem dL_law_234 : decode cL_law 234 = .ok (.iconst 1, 1) := by decide +kernel
theorem dL_law_235 : decode cL_law 235 = .ok (.iadd, 1) := by decide +kernel
theorem dL_law_236 : decode cL_law 236 = .ok (.iaload, 1) := by decide +kernel
theorem dL_law_237 : decode cL_law 237 = .ok (.aload_n 0, 1) := by decide +kernel
theorem dL_law_238 : decode cL_law 238 = .ok (.iload_n 3, 1) := by decide +kernel
theorem dL_law_239 : decode cL_law 239 = .ok (.iconst 2, 1) := by decide +kernel
theorem dL_law_240 : decode cL_law 240 = .ok (.iadd, 1) := by decide +kernel
theorem dL_law_241 : decode cL_law 241 = .ok (.iaload, 1) := by decide +kernel
theorem dL_law_242 : decode cL_law 242 = .ok (.invokevirtual 22, 3) := by decide +kernel
theorem dL_law_245 : decode cL_law 245 = .ok (.if_icmp .eq 832, 3) := by decide +kernel
theorem dL_law_248 : decode cL_law 248 = .ok (.iconst 0, 1) := by decide +kernel
theorem dL_law_249 : decode cL_law 249 = .ok (.ireturn, 1) := by decide +kernel
theorem dL_law_250 : decode cL_law 250 = .ok (.aload_n 1, 1) := by decide +kernel
theorem dL_law_251 : decode cL_law 251 = .ok (.aload_n 0, 1) := by decide +kernel
theorem dL_law_252 : decode cL_law 252 = .ok (.iload_n 3, 1) := by decide +kernel
theorem dL_law_253 : decode cL_law 253 = .ok (.iconst 1, 1) := by decide +kernel
theorem dL_law_254 : decode cL_law 254 = .ok (.iadd, 1) := by decide +kernel
theorem dL_law_255 : decode cL_law 255 = .ok (.iaload, 1) := by decide +kernel
theorem dL_law_256 : decode cL_law 256 = .ok (.aload_n 0, 1) := by decide +kernel
theorem dL_law_257 : decode cL_law 257 = .ok (.iload_n 3, 1) := by decide +kernel
theorem dL_law_258 : decode cL_law 258 = .ok (.iconst 2, 1) := by decide +kernel
theorem dL_law_259 : decode cL_law 259 = .ok (.iadd, 1) := by decide +kernel
theorem dL_law_260 : decode cL_law 260 = .ok (.iaload, 1) := by decide +kernel
theorem dL_law_261 : decode cL_law 261 = .ok (.invokevirtual 23, 3) := by decide +kernel
theorem dL_law_264 : decode cL_law 264 = .ok (.aload_n 2, 1) := by decide +kernel
theorem dL_law_265 : decode cL_law 265 = .ok (.aload_n 0, 1) := by decide +kernel
theorem dL_law_266 : decode cL_law 266 = .ok (.iload_n 3, 1) := by decide +kernel
theorem dL_law_267 : decode cL_law 267 = .ok (.iconst 1, 1) := by decide +kernel
theorem dL_law_268 : decode cL_law 268 = .ok (.iadd, 1) := by decide +kernel
theorem dL_law_269 : decode cL_law 269 = .ok (.iaload, 1) := by decide +kernel
theorem dL_law_270 : decode cL_law 270 = .ok (.aload_n 0, 1) := by decide +kernel
theorem dL_law_271 : decode cL_law 271 = .ok (.iload_n 3, 1) := by decide +kernel
theorem dL_law_272 : decode cL_law 272 = .ok (.iconst 2, 1) := by decide +kernel
theorem dL_law_273 : decode cL_law 273 = .ok (.iadd, 1) := by decide +kernel
theorem dL_law_274 : decode cL_law 274 = .ok (.iaload, 1) := by decide +kernel
theorem dL_law_275 : decode cL_law 275 = .ok (.invokevirtual 26, 3) := by decide +kernel
theorem dL_law_278 : decode cL_law 278 = .ok (.if_icmp .eq 799, 3) := by decide +kernel
theorem dL_law_281 : decode cL_law 281 = .ok (.iconst 0, 1) := by decide +kernel
theorem dL_law_282 : decode cL_law 282 = .ok (.ireturn, 1) := by decide +kernel
theorem dL_law_283 : decode cL_law 283 = .ok (.aload_n 1, 1) := by decide +kernel
theorem dL_law_284 : decode cL_law 284 = .ok (.aload_n 0, 1) := by decide +kernel
theorem dL_law_285 : decode cL_law 285 = .ok (.iload_n 3, 1) := by decide +kernel
theorem dL_law_286 : decode cL_law 286 = .ok (.iconst 1, 1) := by decide +kernel
theorem dL_law_287 : decode cL_law 287 = .ok (.iadd, 1) := by decide +kernel
theorem dL_law_288 : decode cL_law 288 = .ok (.iaload, 1) := by decide +kernel
theorem dL_law_289 : decode cL_law 289 = .ok (.aload_n 0, 1) := by decide +kernel
theorem dL_law_290 : decode cL_law 290 = .ok (.iload_n 3, 1) := by decide +kernel
theorem dL_law_291 : decode cL_law 291 = .ok (.iconst 2, 1) := by decide +kernel
theorem dL_law_292 : decode cL_law 292 = .ok (.iadd, 1) := by decide +kernel
theorem dL_law_293 : decode cL_law 293 = .ok (.iaload, 1) := by decide +kernel
theorem dL_law_294 : decode cL_law 294 = .ok (.aload_n 0, 1) := by decide +kernel
theorem dL_law_295 : decode cL_law 295 = .ok (.iload_n 3, 1) := by decide +kernel
theorem dL_law_296 : decode cL_law 296 = .ok (.iconst 3, 1) := by decide +kernel
theorem dL_law_297 : decode cL_law 297 = .ok (.iadd, 1) := by decide +kernel
theorem dL_law_298 : decode cL_law 298 = .ok (.iaload, 1) := by decide +kernel
theorem dL_law_299 : decode cL_law 299 = .ok (.aload_n 0, 1) := by decide +kernel
theorem dL_law_300 : decode cL_law 300 = .ok (.iload_n 3, 1) := by decide +kernel
theorem dL_law_301 : decode cL_law 301 = .ok (.iconst 4, 1) := by decide +kernel
theorem dL_law_302 : decode cL_law 302 = .ok (.iadd, 1) := by decide +kernel
theorem dL_law_303 : decode cL_law 303 = .ok (.iaload, 1) := by decide +kernel
theorem dL_law_304 : decode cL_law 304 = .ok (.invokevirtual 27, 3) := by decide +kernel
theorem dL_law_307 : decode cL_law 307 = .ok (.aload_n 2, 1) := by decide +kernel
theorem dL_law_308 : decode cL_law 308 = .ok (.aload_n 0, 1) := by decide +kernel
theorem dL_law_309 : decode cL_law 309 = .ok (.iload_n 3, 1) := by decide +kernel
theorem dL_law_310 : decode cL_law 310 = .ok (.iconst 1, 1) := by decide +kernel
theorem dL_law_311 : decode cL_law 311 = .ok (.iadd, 1) := by decide +kernel
theorem dL_law_312 : decode cL_law 312 = .ok (.iaload, 1) := by decide +kernel
theorem dL_law_313 : decode cL_law 313 = .ok (.aload_n 0, 1) := by decide +kernel
theorem dL_law_314 : decode cL_law 314 = .ok (.iload_n 3, 1) := by decide +kernel
theorem dL_law_315 : decode cL_law 315 = .ok (.iconst 2, 1) := by decide +kernel
theorem dL_law_316 : decode cL_law 316 = .ok (.iadd, 1) := by decide +kernel
theorem dL_law_317 : decode cL_law 317 = .ok (.iaload, 1) := by decide +kernel
theorem dL_law_318 : decode cL_law 318 = .ok (.aload_n 0, 1) := by decide +kernel
theorem dL_law_319 : decode cL_law 319 = .ok (.iload_n 3, 1) := by decide +kernel
theorem dL_law_320 : decode cL_law 320 = .ok (.iconst 3, 1) := by decide +kernel
theorem dL_law_321 : decode cL_law 321 = .ok (.iadd, 1) := by decide +kernel
theorem dL_law_322 : decode cL_law 322 = .ok (.iaload, 1) := by decide +kernel
theorem dL_law_323 : decode cL_law 323 = .ok (.aload_n 0, 1) := by decide +kernel
theorem dL_law_324 : decode cL_law 324 = .ok (.iload_n 3, 1) := by decide +kernel
theorem dL_law_325 : decode cL_law 325 = .ok (.iconst 4, 1) := by decide +kernel
theorem dL_law_326 : decode cL_law 326 = .ok (.iadd, 1) := by decide +kernel
theorem dL_law_327 : decode cL_law 327 = .ok (.iaload, 1) := by decide +kernel
theorem dL_law_328 : decode cL_law 328 = .ok (.invokevirtual 30, 3) := by decide +kernel
theorem dL_law_331 : decode cL_law 331 = .ok (.if_icmp .eq 746, 3) := by decide +kernel
theorem dL_law_334 : decode cL_law 334 = .ok (.iconst 0, 1) := by decide +kernel
theorem dL_law_335 : decode cL_law 335 = .ok (.ireturn, 1) := by decide +kernel
theorem dL_law_336 : decode cL_law 336 = .ok (.aload_n 1, 1) := by decide +kernel
theorem dL_law_337 : decode cL_law 337 = .ok (.invokevirtual 31, 3) := by decide +kernel
theorem dL_law_340 : decode cL_law 340 = .ok (.aload_n 2, 1) := by decide +kernel
theorem dL_law_341 : decode cL_law 341 = .ok (.invokevirtual 35, 3) := by decide +kernel
theorem dL_law_344 : decode cL_law 344 = .ok (.if_icmp .eq 733, 3) := by decide +kernel
theorem dL_law_347 : decode cL_law 347 = .ok (.iconst 0, 1) := by decide +kernel
theorem dL_law_348 : decode cL_law 348 = .ok (.ireturn, 1) := by decide +kernel
theorem dL_law_349 : decode cL_law 349 = .ok (.aload_n 1, 1) := by decide +kernel
theorem dL_law_350 : decode cL_law 350 = .ok (.aload_n 0, 1) := by decide +kernel
theorem dL_law_351 : decode cL_law 351 = .ok (.iload_n 3, 1) := by decide +kernel
theorem dL_law_352 : decode cL_law 352 = .ok (.iconst 1, 1) := by decide +kernel
theorem dL_law_353 : decode cL_law 353 = .ok (.iadd, 1) := by decide +kernel
theorem dL_law_354 : decode cL_law 354 = .ok (.iaload, 1) := by decide +kernel
theorem dL_law_355 : decode cL_law 355 = .ok (.invokevirtual 36, 3) := by decide +kernel
theorem dL_law_358 : decode cL_law 358 = .ok (.aload_n 2, 1) := by decide +kernel
theorem dL_law_359 : decode cL_law 359 = .ok (.aload_n 0, 1) := by decide +kernel
theorem dL_law_360 : decode cL_law 360 = .ok (.iload_n 3, 1) := by decide +kernel
theorem dL_law_361 : decode cL_law 361 = .ok (.iconst 1, 1) := by decide +kernel
theorem dL_law_362 : decode cL_law 362 = .ok (.iadd, 1) := by decide +kernel
theorem dL_law_363 : decode cL_law 363 = .ok (.iaload, 1) := by decide +kernel
theorem dL_law_364 : decode cL_law 364 = .ok (.invokevirtual 40, 3) := by decide +kernel
theorem dL_law_367 : decode cL_law 367 = .ok (.if_icmp .eq 710, 3) := by decide +kernel
theorem dL_law_370 : decode cL_law 370 = .ok (.iconst 0, 1) := by decide +kernel
theorem dL_law_371 : decode cL_law 371 = .ok (.ireturn, 1) := by decide +kernel
theorem dL_law_372 : decode cL_law 372 = .ok (.aload_n 1, 1) := by decide +kernel
theorem dL_law_373 : decode cL_law 373 = .ok (.invokevirtual 41, 3) := by decide +kernel
theorem dL_law_376 : decode cL_law 376 = .ok (.aload_n 2, 1) := by decide +kernel
theorem dL_law_377 : decode cL_law 377 = .ok (.invokevirtual 44, 3) := by decide +kernel
theorem dL_law_380 : decode cL_law 380 = .ok (.if_icmp .eq 697, 3) := by decide +kernel
theorem dL_law_383 : decode cL_law 383 = .ok (.iconst 0, 1) := by decide +kernel
theorem dL_law_384 : decode cL_law 384 = .ok (.ireturn, 1) := by decide +kernel
theorem dL_law_385 : decode cL_law 385 = .ok (.aload_n 1, 1) := by decide +kernel
theorem dL_law_386 : decode cL_law 386 = .ok (.aload_n 0, 1) := by decide +kernel
theorem dL_law_387 : decode cL_law 387 = .ok (.iload_n 3, 1) := by decide +kernel
theorem dL_law_388 : decode cL_law 388 = .ok (.iconst 1, 1) := by decide +kernel
theorem dL_law_389 : decode cL_law 389 = .ok (.iadd, 1) := by decide +kernel
theorem dL_law_390 : decode cL_law 390 = .ok (.iaload, 1) := by decide +kernel
theorem dL_law_391 : decode cL_law 391 = .ok (.aload_n 0, 1) := by decide +kernel
theorem dL_law_392 : decode cL_law 392 = .ok (.iload_n 3, 1) := by decide +kernel
theorem dL_law_393 : decode cL_law 393 = .ok (.iconst 2, 1) := by decide +kernel
theorem dL_law_394 : decode cL_law 394 = .ok (.iadd, 1) := by decide +kernel
theorem dL_law_395 : decode cL_law 395 = .ok (.iaload, 1) := by decide +kernel
theorem dL_law_396 : decode cL_law 396 = .ok (.aload_n 0, 1) := by decide +kernel
theorem dL_law_397 : decode cL_law 397 = .ok (.iload_n 3, 1) := by decide +kernel
theorem dL_law_398 : decode cL_law 398 = .ok (.iconst 3, 1) := by decide +kernel
theorem dL_law_399 : decode cL_law 399 = .ok (.iadd, 1) := by decide +kernel
theorem dL_law_400 : decode cL_law 400 = .ok (.iaload, 1) := by decide +kernel
theorem dL_law_401 : decode cL_law 401 = .ok (.aload_n 0, 1) := by decide +kernel
theorem dL_law_402 : decode cL_law 402 = .ok (.iload_n 3, 1) := by decide +kernel
theorem dL_law_403 : decode cL_law 403 = .ok (.iconst 4, 1) := by decide +kernel
theorem dL_law_404 : decode cL_law 404 = .ok (.iadd, 1) := by decide +kernel
theorem dL_law_405 : decode cL_law 405 = .ok (.iaload, 1) := by decide +kernel
theorem dL_law_406 : decode cL_law 406 = .ok (.invokevirtual 45, 3) := by decide +kernel
theorem dL_law_409 : decode cL_law 409 = .ok (.aload_n 2, 1) := by decide +kernel
theorem dL_law_410 : decode cL_law 410 = .ok (.aload_n 0, 1) := by decide +kernel
theorem dL_law_411 : decode cL_law 411 = .ok (.iload_n 3, 1) := by decide +kernel
theorem dL_law_412 : decode cL_law 412 = .ok (.iconst 1, 1) := by decide +kernel
theorem dL_law_413 : decode cL_law 413 = .ok (.iadd, 1) := by decide +kernel
theorem dL_law_414 : decode cL_law 414 = .ok (.iaload, 1) := by decide +kernel
theorem dL_law_415 : decode cL_law 415 = .ok (.aload_n 0, 1) := by decide +kernel
theorem dL_law_416 : decode cL_law 416 = .ok (.iload_n 3, 1) := by decide +kernel
theorem dL_law_417 : decode cL_law 417 = .ok (.iconst 2, 1) := by decide +kernel
theorem dL_law_418 : decode cL_law 418 = .ok (.iadd, 1) := by decide +kernel
theorem dL_law_419 : decode cL_law 419 = .ok (.iaload, 1) := by decide +kernel
theorem dL_law_420 : decode cL_law 420 = .ok (.aload_n 0, 1) := by decide +kernel
theorem dL_law_421 : decode cL_law 421 = .ok (.iload_n 3, 1) := by decide +kernel
theorem dL_law_422 : decode cL_law 422 = .ok (.iconst 3, 1) := by decide +kernel
theorem dL_law_423 : decode cL_law 423 = .ok (.iadd, 1) := by decide +kernel
theorem dL_law_424 : decode cL_law 424 = .ok (.iaload, 1) := by decide +kernel
theorem dL_law_425 : decode cL_law 425 = .ok (.aload_n 0, 1) := by decide +kernel
theorem dL_law_426 : decode cL_law 426 = .ok (.iload_n 3, 1) := by decide +kernel
theorem dL_law_427 : decode cL_law 427 = .ok (.iconst 4, 1) := by decide +kernel
theorem dL_law_428 : decode cL_law 428 = .ok (.iadd, 1) := by decide +kernel
theorem dL_law_429 : decode cL_law 429 = .ok (.iaload, 1) := by decide +kernel
theorem dL_law_430 : decode cL_law 430 = .ok (.invokevirtual 48, 3) := by decide +kernel
theorem dL_law_433 : decode cL_law 433 = .ok (.if_icmp .eq 644, 3) := by decide +kernel
theorem dL_law_436 : decode cL_law 436 = .ok (.iconst 0, 1) := by decide +kernel
theorem dL_law_437 : decode cL_law 437 = .ok (.ireturn, 1) := by decide +kernel
theorem dL_law_438 : decode cL_law 438 = .ok (.aload_n 1, 1) := by decide +kernel
theorem dL_law_439 : decode cL_law 439 = .ok (.aload_n 0, 1) := by decide +kernel
theorem dL_law_440 : decode cL_law 440 = .ok (.iload_n 3, 1) := by decide +kernel
theorem dL_law_441 : decode cL_law 441 = .ok (.iconst 1, 1) := by decide +kernel
theorem dL_law_442 : decode cL_law 442 = .ok (.iadd, 1) := by decide +kernel
theorem dL_law_443 : decode cL_law 443 = .ok (.iaload, 1) := by decide +kernel
theorem dL_law_444 : decode cL_law 444 = .ok (.aload_n 0, 1) := by decide +kernel
theorem dL_law_445 : decode cL_law 445 = .ok (.iload_n 3, 1) := by decide +kernel
theorem dL_law_446 : decode cL_law 446 = .ok (.iconst 2, 1) := by decide +kernel
theorem dL_law_447 : decode cL_law 447 = .ok (.iadd, 1) := by decide +kernel
theorem dL_law_448 : decode cL_law 448 = .ok (.iaload, 1) := by decide +kernel
theorem dL_law_449 : decode cL_law 449 = .ok (.aload_n 0, 1) := by decide +kernel
theorem dL_law_450 : decode cL_law 450 = .ok (.iload_n 3, 1) := by decide +kernel
theorem dL_law_451 : decode cL_law 451 = .ok (.iconst 3, 1) := by decide +kernel
theorem dL_law_452 : decode cL_law 452 = .ok (.iadd, 1) := by decide +kernel
theorem dL_law_453 : decode cL_law 453 = .ok (.iaload, 1) := by decide +kernel
theorem dL_law_454 : decode cL_law 454 = .ok (.aload_n 0, 1) := by decide +kernel
theorem dL_law_455 : decode cL_law 455 = .ok (.iload_n 3, 1) := by decide +kernel
theorem dL_law_456 : decode cL_law 456 = .ok (.iconst 4, 1) := by decide +kernel
theorem dL_law_457 : decode cL_law 457 = .ok (.iadd, 1) := by decide +kernel
theorem dL_law_458 : decode cL_law 458 = .ok (.iaload, 1) := by decide +kernel
theorem dL_law_459 : decode cL_law 459 = .ok (.invokevirtual 49, 3) := by decide +kernel
theorem dL_law_462 : decode cL_law 462 = .ok (.aload_n 2, 1) := by decide +kernel
theorem dL_law_463 : decode cL_law 463 = .ok (.aload_n 0, 1) := by decide +kernel
theorem dL_law_464 : decode cL_law 464 = .ok (.iload_n 3, 1) := by decide +kernel
theorem dL_law_465 : decode cL_law 465 = .ok (.iconst 1, 1) := by decide +kernel
theorem dL_law_466 : decode cL_law 466 = .ok (.iadd, 1) := by decide +kernel
theorem dL_law_467 : decode cL_law 467 = .ok (.iaload, 1) := by decide +kernel
theorem dL_law_468 : decode cL_law 468 = .ok (.aload_n 0, 1) := by decide +kernel
theorem dL_law_469 : decode cL_law 469 = .ok (.iload_n 3, 1) := by decide +kernel
theorem dL_law_470 : decode cL_law 470 = .ok (.iconst 2, 1) := by decide +kernel
theorem dL_law_471 : decode cL_law 471 = .ok (.iadd, 1) := by decide +kernel
theorem dL_law_472 : decode cL_law 472 = .ok (.iaload, 1) := by decide +kernel
theorem dL_law_473 : decode cL_law 473 = .ok (.aload_n 0, 1) := by decide +kernel
theorem dL_law_474 : decode cL_law 474 = .ok (.iload_n 3, 1) := by decide +kernel
