theorem dX10_pull_4 : decode cX10_pull 4 = .ok (.ifCond .ne 5, 3) := by decide +kernel
theorem dX10_pull_7 : decode cX10_pull 7 = .ok (.iconst (-1), 1) := by decide +kernel
theorem dX10_pull_8 : decode cX10_pull 8 = .ok (.ireturn, 1) := by decide +kernel
theorem dX10_pull_9 : decode cX10_pull 9 = .ok (.aload_n 0, 1) := by decide +kernel
theorem dX10_pull_10 : decode cX10_pull 10 = .ok (.getfield 71, 3) := by decide +kernel
theorem dX10_pull_13 : decode cX10_pull 13 = .ok (.iload_n 1, 1) := by decide +kernel
theorem dX10_pull_14 : decode cX10_pull 14 = .ok (.baload, 1) := by decide +kernel
theorem dX10_pull_15 : decode cX10_pull 15 = .ok (.istore_n 3, 1) := by decide +kernel
theorem dX10_pull_16 : decode cX10_pull 16 = .ok (.aload_n 0, 1) := by decide +kernel
theorem dX10_pull_17 : decode cX10_pull 17 = .ok (.getfield 71, 3) := by decide +kernel
theorem dX10_pull_20 : decode cX10_pull 20 = .ok (.iload_n 1, 1) := by decide +kernel
theorem dX10_pull_21 : decode cX10_pull 21 = .ok (.iload_n 2, 1) := by decide +kernel
theorem dX10_pull_22 : decode cX10_pull 22 = .ok (.bastore, 1) := by decide +kernel
theorem dX10_pull_23 : decode cX10_pull 23 = .ok (.iload_n 3, 1) := by decide +kernel
theorem dX10_pull_24 : decode cX10_pull 24 = .ok (.iload_n 2, 1) := by decide +kernel
theorem dX10_pull_25 : decode cX10_pull 25 = .ok (.if_icmp .ne 7, 3) := by decide +kernel
theorem dX10_pull_28 : decode cX10_pull 28 = .ok (.iconst 0, 1) := by decide +kernel
theorem dX10_pull_29 : decode cX10_pull 29 = .ok (.goto 4, 3) := by decide +kernel
theorem dX10_pull_32 : decode cX10_pull 32 = .ok (.iconst 1, 1) := by decide +kernel
theorem dX10_pull_33 : decode cX10_pull 33 = .ok (.ireturn, 1) := by decide +kernel
set_option maxRecDepth 20000 in
theorem ggX10_rule_X10_in : GoodIn wsX10_rule wsX10_in := goodIn_r _ [6] (by decide +kernel) (by decide +kernel)
set_option maxRecDepth 20000 in
theorem gX10_rule_X10_in : GoodIn wsX10_rule (va_wsS RX10 117 yX10_in wsX10_in) := goodIn_app (goodIn_of _ (by decide +kernel)) ggX10_rule_X10_in
theorem dX10_rule_0 : decode cX10_rule 0 = .ok (.iload_n 1, 1) := by decide +kernel
theorem dX10_rule_1 : decode cX10_rule 1 = .ok (.iconst 0, 1) := by decide +kernel
theorem dX10_rule_2 : decode cX10_rule 2 = .ok (.iconst 1, 1) := by decide +kernel
theorem dX10_rule_3 : decode cX10_rule 3 = .ok (.invokestatic 117, 3) := by decide +kernel
theorem dX10_rule_6 : decode cX10_rule 6 = .ok (.ifCond .eq 34, 3) := by decide +kernel
theorem dX10_rule_9 : decode cX10_rule 9 = .ok (.iload_n 2, 1) := by decide +kernel
theorem dX10_rule_10 : decode cX10_rule 10 = .ok (.iload_n 1, 1) := by decide +kernel
theorem dX10_rule_11 : decode cX10_rule 11 = .ok (.ifCond .ne 9, 3) := by decide +kernel
theorem dX10_rule_14 : decode cX10_rule 14 = .ok (.sipush (-200), 3) := by decide +kernel
theorem dX10_rule_17 : decode cX10_rule 17 = .ok (.goto 4, 3) := by decide +kernel
theorem dX10_rule_20 : decode cX10_rule 20 = .ok (.iconst 1, 1) := by decide +kernel
theorem dX10_rule_21 : decode cX10_rule 21 = .ok (.iload_n 1, 1) := by decide +kernel
theorem dX10_rule_22 : decode cX10_rule 22 = .ok (.ifCond .ne 9, 3) := by decide +kernel
theorem dX10_rule_25 : decode cX10_rule 25 = .ok (.sipush 200, 3) := by decide +kernel
theorem dX10_rule_28 : decode cX10_rule 28 = .ok (.goto 6, 3) := by decide +kernel
theorem dX10_rule_31 : decode cX10_rule 31 = .ok (.sipush 1000, 3) := by decide +kernel
theorem dX10_rule_34 : decode cX10_rule 34 = .ok (.invokestatic 117, 3) := by decide +kernel
theorem dX10_rule_37 : decode cX10_rule 37 = .ok (.ifCond .ne 7, 3) := by decide +kernel
theorem dX10_rule_40 : decode cX10_rule 40 = .ok (.sipush (-1000), 3) := by decide +kernel
theorem dX10_rule_43 : decode cX10_rule 43 = .ok (.ireturn, 1) := by decide +kernel
theorem dX10_rule_44 : decode cX10_rule 44 = .ok (.iload_n 1, 1) := by decide +kernel
theorem dX10_rule_45 : decode cX10_rule 45 = .ok (.ifCond .ne 10, 3) := by decide +kernel
theorem dX10_rule_48 : decode cX10_rule 48 = .ok (.aload_n 0, 1) := by decide +kernel
theorem dX10_rule_49 : decode cX10_rule 49 = .ok (.getfield 202, 3) := by decide +kernel
theorem dX10_rule_52 : decode cX10_rule 52 = .ok (.goto 7, 3) := by decide +kernel
theorem dX10_rule_55 : decode cX10_rule 55 = .ok (.aload_n 0, 1) := by decide +kernel
theorem dX10_rule_56 : decode cX10_rule 56 = .ok (.getfield 84, 3) := by decide +kernel
theorem dX10_rule_59 : decode cX10_rule 59 = .ok (.istore_n 3, 1) := by decide +kernel
theorem dX10_rule_60 : decode cX10_rule 60 = .ok (.iload_n 1, 1) := by decide +kernel
theorem dX10_rule_61 : decode cX10_rule 61 = .ok (.ifCond .ne 11, 3) := by decide +kernel
theorem dX10_rule_64 : decode cX10_rule 64 = .ok (.aload_n 0, 1) := by decide +kernel
theorem dX10_rule_65 : decode cX10_rule 65 = .ok (.iload_n 2, 1) := by decide +kernel
theorem dX10_rule_66 : decode cX10_rule 66 = .ok (.putfield 202, 3) := by decide +kernel
theorem dX10_rule_69 : decode cX10_rule 69 = .ok (.goto 8, 3) := by decide +kernel
theorem dX10_rule_72 : decode cX10_rule 72 = .ok (.aload_n 0, 1) := by decide +kernel
theorem dX10_rule_73 : decode cX10_rule 73 = .ok (.iload_n 2, 1) := by decide +kernel
theorem dX10_rule_74 : decode cX10_rule 74 = .ok (.putfield 84, 3) := by decide +kernel
theorem dX10_rule_77 : decode cX10_rule 77 = .ok (.iload_n 3, 1) := by decide +kernel
theorem dX10_rule_78 : decode cX10_rule 78 = .ok (.ireturn, 1) := by decide +kernel
set_option maxRecDepth 20000 in
theorem ggX10_book_X10_isMould : GoodIn wsX10_book wsX10_isMould := goodIn_r _ [9, 10, 11, 8, 12] (by decide +kernel) (by decide +kernel)
set_option maxRecDepth 20000 in
theorem gX10_book_X10_isMould : GoodIn wsX10_book (va_wsS RX10 196 yX10_isMould wsX10_isMould) := goodIn_app (goodIn_of _ (by decide +kernel)) ggX10_book_X10_isMould
set_option maxRecDepth 20000 in
theorem ggX10_book_X10_sectionOf : GoodIn wsX10_book wsX10_sectionOf := goodIn_r _ [16, 17, 18, 19, 20, 21, 22, 23, 24, 25, 26, 27, 28, 29, 30, 31, 32, 33, 34, 35, 36, 37, 38, 39, 40, 41, 42, 43, 44, 45, 46, 47, 48, 49, 50, 51, 52, 53, 54, 55, 56, 57, 58, 59, 60, 61, 62] (by decide +kernel) (by decide +kernel)
set_option maxRecDepth 20000 in
theorem gX10_book_X10_sectionOf : GoodIn wsX10_book (wsV RX10 199 RX10 yX10_sectionOf wsX10_sectionOf) := goodIn_app (goodIn_of _ (by decide +kernel)) ggX10_book_X10_sectionOf
theorem dX10_book_0 : decode cX10_book 0 = .ok (.iload_n 1, 1) := by decide +kernel
theorem dX10_book_1 : decode cX10_book 1 = .ok (.invokestatic 196, 3) := by decide +kernel
theorem dX10_book_4 : decode cX10_book 4 = .ok (.ifCond .ne 5, 3) := by decide +kernel
theorem dX10_book_7 : decode cX10_book 7 = .ok (.iconst (-1), 1) := by decide +kernel
theorem dX10_book_8 : decode cX10_book 8 = .ok (.ireturn, 1) := by decide +kernel
theorem dX10_book_9 : decode cX10_book 9 = .ok (.iload_n 2, 1) := by decide +kernel
theorem dX10_book_10 : decode cX10_book 10 = .ok (.tableswitch 87 0 5 #[38, 45, 52, 67, 74, 81], 38) := by decide +kernel
theorem dX10_book_48 : decode cX10_book 48 = .ok (.aload_n 0, 1) := by decide +kernel
theorem dX10_book_49 : decode cX10_book 49 = .ok (.getfield 65, 3) := by decide +kernel
theorem dX10_book_52 : decode cX10_book 52 = .ok (.iload_n 1, 1) := by decide +kernel
theorem dX10_book_53 : decode cX10_book 53 = .ok (.iaload, 1) := by decide +kernel
theorem dX10_book_54 : decode cX10_book 54 = .ok (.ireturn, 1) := by decide +kernel
theorem dX10_book_55 : decode cX10_book 55 = .ok (.aload_n 0, 1) := by decide +kernel
theorem dX10_book_56 : decode cX10_book 56 = .ok (.getfield 68, 3) := by decide +kernel
theorem dX10_book_59 : decode cX10_book 59 = .ok (.iload_n 1, 1) := by decide +kernel
theorem dX10_book_60 : decode cX10_book 60 = .ok (.iaload, 1) := by decide +kernel
theorem dX10_book_61 : decode cX10_book 61 = .ok (.ireturn, 1) := by decide +kernel
theorem dX10_book_62 : decode cX10_book 62 = .ok (.aload_n 0, 1) := by decide +kernel
theorem dX10_book_63 : decode cX10_book 63 = .ok (.getfield 71, 3) := by decide +kernel
theorem dX10_book_66 : decode cX10_book 66 = .ok (.iload_n 1, 1) := by decide +kernel
theorem dX10_book_67 : decode cX10_book 67 = .ok (.baload, 1) := by decide +kernel
theorem dX10_book_68 : decode cX10_book 68 = .ok (.ifCond .eq 7, 3) := by decide +kernel
theorem dX10_book_71 : decode cX10_book 71 = .ok (.iconst 1, 1) := by decide +kernel
theorem dX10_book_72 : decode cX10_book 72 = .ok (.goto 4, 3) := by decide +kernel
theorem dX10_book_75 : decode cX10_book 75 = .ok (.iconst 0, 1) := by decide +kernel
theorem dX10_book_76 : decode cX10_book 76 = .ok (.ireturn, 1) := by decide +kernel
theorem dX10_book_77 : decode cX10_book 77 = .ok (.aload_n 0, 1) := by decide +kernel
theorem dX10_book_78 : decode cX10_book 78 = .ok (.getfield 75, 3) := by decide +kernel
theorem dX10_book_81 : decode cX10_book 81 = .ok (.iload_n 1, 1) := by decide +kernel
theorem dX10_book_82 : decode cX10_book 82 = .ok (.iaload, 1) := by decide +kernel
theorem dX10_book_83 : decode cX10_book 83 = .ok (.ireturn, 1) := by decide +kernel
theorem dX10_book_84 : decode cX10_book 84 = .ok (.aload_n 0, 1) := by decide +kernel
theorem dX10_book_85 : decode cX10_book 85 = .ok (.getfield 78, 3) := by decide +kernel
theorem dX10_book_88 : decode cX10_book 88 = .ok (.iload_n 1, 1) := by decide +kernel
theorem dX10_book_89 : decode cX10_book 89 = .ok (.iaload, 1) := by decide +kernel
theorem dX10_book_90 : decode cX10_book 90 = .ok (.ireturn, 1) := by decide +kernel
theorem dX10_book_91 : decode cX10_book 91 = .ok (.aload_n 0, 1) := by decide +kernel
theorem dX10_book_92 : decode cX10_book 92 = .ok (.iload_n 1, 1) := by decide +kernel
theorem dX10_book_93 : decode cX10_book 93 = .ok (.invokevirtual 199, 3) := by decide +kernel
theorem dX10_book_96 : decode cX10_book 96 = .ok (.ireturn, 1) := by decide +kernel
theorem dX10_book_97 : decode cX10_book 97 = .ok (.iconst (-1), 1) := by decide +kernel
theorem dX10_book_98 : decode cX10_book 98 = .ok (.ireturn, 1) := by decide +kernel
theorem dX10_judgeOf_0 : decode cX10_judgeOf 0 = .ok (.aload_n 0, 1) := by decide +kernel
theorem dX10_judgeOf_1 : decode cX10_judgeOf 1 = .ok (.getfield 105, 3) := by decide +kernel
theorem dX10_judgeOf_4 : decode cX10_judgeOf 4 = .ok (.iload_n 1, 1) := by decide +kernel
theorem dX10_judgeOf_5 : decode cX10_judgeOf 5 = .ok (.iaload, 1) := by decide +kernel
theorem dX10_judgeOf_6 : decode cX10_judgeOf 6 = .ok (.ifCond .le 10, 3) := by decide +kernel
theorem dX10_judgeOf_9 : decode cX10_judgeOf 9 = .ok (.aload_n 0, 1) := by decide +kernel
theorem dX10_judgeOf_10 : decode cX10_judgeOf 10 = .ok (.getfield 105, 3) := by decide +kernel
theorem dX10_judgeOf_13 : decode cX10_judgeOf 13 = .ok (.iload_n 1, 1) := by decide +kernel
theorem dX10_judgeOf_14 : decode cX10_judgeOf 14 = .ok (.iaload, 1) := by decide +kernel
theorem dX10_judgeOf_15 : decode cX10_judgeOf 15 = .ok (.ireturn, 1) := by decide +kernel
theorem dX10_judgeOf_16 : decode cX10_judgeOf 16 = .ok (.aload_n 0, 1) := by decide +kernel
theorem dX10_judgeOf_17 : decode cX10_judgeOf 17 = .ok (.getfield 99, 3) := by decide +kernel
theorem dX10_judgeOf_20 : decode cX10_judgeOf 20 = .ok (.iload_n 1, 1) := by decide +kernel
theorem dX10_judgeOf_21 : decode cX10_judgeOf 21 = .ok (.iaload, 1) := by decide +kernel
theorem dX10_judgeOf_22 : decode cX10_judgeOf 22 = .ok (.aload_n 0, 1) := by decide +kernel
theorem dX10_judgeOf_23 : decode cX10_judgeOf 23 = .ok (.getfield 102, 3) := by decide +kernel
theorem dX10_judgeOf_26 : decode cX10_judgeOf 26 = .ok (.iload_n 1, 1) := by decide +kernel
theorem dX10_judgeOf_27 : decode cX10_judgeOf 27 = .ok (.iaload, 1) := by decide +kernel
theorem dX10_judgeOf_28 : decode cX10_judgeOf 28 = .ok (.isub, 1) := by decide +kernel
theorem dX10_judgeOf_29 : decode cX10_judgeOf 29 = .ok (.istore_n 2, 1) := by decide +kernel
theorem dX10_judgeOf_30 : decode cX10_judgeOf 30 = .ok (.aload_n 0, 1) := by decide +kernel
theorem dX10_judgeOf_31 : decode cX10_judgeOf 31 = .ok (.getfield 71, 3) := by decide +kernel
theorem dX10_judgeOf_34 : decode cX10_judgeOf 34 = .ok (.aload_n 0, 1) := by decide +kernel
theorem dX10_judgeOf_35 : decode cX10_judgeOf 35 = .ok (.getfield 93, 3) := by decide +kernel
theorem dX10_judgeOf_38 : decode cX10_judgeOf 38 = .ok (.iload_n 1, 1) := by decide +kernel
theorem dX10_judgeOf_39 : decode cX10_judgeOf 39 = .ok (.iaload, 1) := by decide +kernel
theorem dX10_judgeOf_40 : decode cX10_judgeOf 40 = .ok (.baload, 1) := by decide +kernel
theorem dX10_judgeOf_41 : decode cX10_judgeOf 41 = .ok (.ifCond .eq 7, 3) := by decide +kernel
theorem dX10_judgeOf_44 : decode cX10_judgeOf 44 = .ok (.iconst 5, 1) := by decide +kernel
theorem dX10_judgeOf_45 : decode cX10_judgeOf 45 = .ok (.goto 21, 3) := by decide +kernel
theorem dX10_judgeOf_48 : decode cX10_judgeOf 48 = .ok (.iload_n 2, 1) := by decide +kernel
theorem dX10_judgeOf_49 : decode cX10_judgeOf 49 = .ok (.bipush 20, 2) := by decide +kernel
theorem dX10_judgeOf_51 : decode cX10_judgeOf 51 = .ok (.if_icmp .gt 9, 3) := by decide +kernel
theorem dX10_judgeOf_54 : decode cX10_judgeOf 54 = .ok (.iload_n 2, 1) := by decide +kernel
theorem dX10_judgeOf_55 : decode cX10_judgeOf 55 = .ok (.bipush (-20), 2) := by decide +kernel
theorem dX10_judgeOf_57 : decode cX10_judgeOf 57 = .ok (.if_icmp .ge 8, 3) := by decide +kernel
theorem dX10_judgeOf_60 : decode cX10_judgeOf 60 = .ok (.bipush 6, 2) := by decide +kernel
theorem dX10_judgeOf_62 : decode cX10_judgeOf 62 = .ok (.goto 4, 3) := by decide +kernel
theorem dX10_judgeOf_65 : decode cX10_judgeOf 65 = .ok (.iconst 0, 1) := by decide +kernel
theorem dX10_judgeOf_66 : decode cX10_judgeOf 66 = .ok (.ireturn, 1) := by decide +kernel
set_option maxRecDepth 20000 in
theorem ggX10_comeOff_X10_judgeOf : GoodIn wsX10_comeOff wsX10_judgeOf := goodIn_r _ [17, 12, 8, 7, 18, 3, 19, 20, 21, 22, 23, 24, 25, 26, 27, 28, 29, 30, 31, 32, 33, 34, 35, 36, 37, 38, 39, 40, 41, 42, 43, 44, 45, 46, 47, 48, 49, 50, 51, 52, 53, 54, 55, 56, 57, 58, 59, 60, 61, 62, 63] (by decide +kernel) (by decide +kernel)
set_option maxRecDepth 20000 in
theorem gX10_comeOff_X10_judgeOf : GoodIn wsX10_comeOff (wsV RX10 205 RX10 yX10_judgeOf wsX10_judgeOf) := goodIn_app (goodIn_of _ (by decide +kernel)) ggX10_comeOff_X10_judgeOf
theorem dX10_comeOff_0 : decode cX10_comeOff 0 = .ok (.aload_n 0, 1) := by decide +kernel
theorem dX10_comeOff_1 : decode cX10_comeOff 1 = .ok (.iconst 0, 1) := by decide +kernel
theorem dX10_comeOff_2 : decode cX10_comeOff 2 = .ok (.invokevirtual 205, 3) := by decide +kernel
theorem dX10_comeOff_5 : decode cX10_comeOff 5 = .ok (.istore_n 1, 1) := by decide +kernel
theorem dX10_comeOff_6 : decode cX10_comeOff 6 = .ok (.aload_n 0, 1) := by decide +kernel
theorem dX10_comeOff_7 : decode cX10_comeOff 7 = .ok (.getfield 108, 3) := by decide +kernel
theorem dX10_comeOff_10 : decode cX10_comeOff 10 = .ok (.iload_n 1, 1) := by decide +kernel
theorem dX10_comeOff_11 : decode cX10_comeOff 11 = .ok (.dup2, 1) := by decide +kernel
theorem dX10_comeOff_12 : decode cX10_comeOff 12 = .ok (.iaload, 1) := by decide +kernel
theorem dX10_comeOff_13 : decode cX10_comeOff 13 = .ok (.iconst 1, 1) := by decide +kernel
theorem dX10_comeOff_14 : decode cX10_comeOff 14 = .ok (.iadd, 1) := by decide +kernel
theorem dX10_comeOff_15 : decode cX10_comeOff 15 = .ok (.iastore, 1) := by decide +kernel
theorem dX10_comeOff_16 : decode cX10_comeOff 16 = .ok (.aload_n 0, 1) := by decide +kernel
theorem dX10_comeOff_17 : decode cX10_comeOff 17 = .ok (.getfield 75, 3) := by decide +kernel
theorem dX10_comeOff_20 : decode cX10_comeOff 20 = .ok (.aload_n 0, 1) := by decide +kernel
theorem dX10_comeOff_21 : decode cX10_comeOff 21 = .ok (.getfield 93, 3) := by decide +kernel
theorem dX10_comeOff_24 : decode cX10_comeOff 24 = .ok (.iconst 0, 1) := by decide +kernel
theorem dX10_comeOff_25 : decode cX10_comeOff 25 = .ok (.iaload, 1) := by decide +kernel
theorem dX10_comeOff_26 : decode cX10_comeOff 26 = .ok (.dup2, 1) := by decide +kernel
theorem dX10_comeOff_27 : decode cX10_comeOff 27 = .ok (.iaload, 1) := by decide +kernel
theorem dX10_comeOff_28 : decode cX10_comeOff 28 = .ok (.iload_n 1, 1) := by decide +kernel
theorem dX10_comeOff_29 : decode cX10_comeOff 29 = .ok (.ifCond .ne 7, 3) := by decide +kernel
theorem dX10_comeOff_32 : decode cX10_comeOff 32 = .ok (.iconst 1, 1) := by decide +kernel
theorem dX10_comeOff_33 : decode cX10_comeOff 33 = .ok (.goto 4, 3) := by decide +kernel
theorem dX10_comeOff_36 : decode cX10_comeOff 36 = .ok (.iconst 0, 1) := by decide +kernel
theorem dX10_comeOff_37 : decode cX10_comeOff 37 = .ok (.iadd, 1) := by decide +kernel
theorem dX10_comeOff_38 : decode cX10_comeOff 38 = .ok (.iastore, 1) := by decide +kernel
theorem dX10_comeOff_39 : decode cX10_comeOff 39 = .ok (.aload_n 0, 1) := by decide +kernel
theorem dX10_comeOff_40 : decode cX10_comeOff 40 = .ok (.getfield 78, 3) := by decide +kernel
theorem dX10_comeOff_43 : decode cX10_comeOff 43 = .ok (.aload_n 0, 1) := by decide +kernel
theorem dX10_comeOff_44 : decode cX10_comeOff 44 = .ok (.getfield 93, 3) := by decide +kernel
theorem dX10_comeOff_47 : decode cX10_comeOff 47 = .ok (.iconst 0, 1) := by decide +kernel
theorem dX10_comeOff_48 : decode cX10_comeOff 48 = .ok (.iaload, 1) := by decide +kernel
theorem dX10_comeOff_49 : decode cX10_comeOff 49 = .ok (.dup2, 1) := by decide +kernel
theorem dX10_comeOff_50 : decode cX10_comeOff 50 = .ok (.iaload, 1) := by decide +kernel
theorem dX10_comeOff_51 : decode cX10_comeOff 51 = .ok (.iload_n 1, 1) := by decide +kernel
theorem dX10_comeOff_52 : decode cX10_comeOff 52 = .ok (.ifCond .ne 7, 3) := by decide +kernel
theorem dX10_comeOff_55 : decode cX10_comeOff 55 = .ok (.iconst 0, 1) := by decide +kernel
theorem dX10_comeOff_56 : decode cX10_comeOff 56 = .ok (.goto 4, 3) := by decide +kernel
theorem dX10_comeOff_59 : decode cX10_comeOff 59 = .ok (.iconst 1, 1) := by decide +kernel
theorem dX10_comeOff_60 : decode cX10_comeOff 60 = .ok (.iadd, 1) := by decide +kernel
theorem dX10_comeOff_61 : decode cX10_comeOff 61 = .ok (.iastore, 1) := by decide +kernel
theorem dX10_comeOff_62 : decode cX10_comeOff 62 = .ok (.aload_n 0, 1) := by decide +kernel
theorem dX10_comeOff_63 : decode cX10_comeOff 63 = .ok (.getfield 87, 3) := by decide +kernel
theorem dX10_comeOff_66 : decode cX10_comeOff 66 = .ok (.iconst 0, 1) := by decide +kernel
theorem dX10_comeOff_67 : decode cX10_comeOff 67 = .ok (.iaload, 1) := by decide +kernel
theorem dX10_comeOff_68 : decode cX10_comeOff 68 = .ok (.iconst 4, 1) := by decide +kernel
theorem dX10_comeOff_69 : decode cX10_comeOff 69 = .ok (.irem, 1) := by decide +kernel
theorem dX10_comeOff_70 : decode cX10_comeOff 70 = .ok (.ifCond .ne 65, 3) := by decide +kernel
theorem dX10_comeOff_73 : decode cX10_comeOff 73 = .ok (.aload_n 0, 1) := by decide +kernel
theorem dX10_comeOff_74 : decode cX10_comeOff 74 = .ok (.dup, 1) := by decide +kernel
theorem dX10_comeOff_75 : decode cX10_comeOff 75 = .ok (.getfield 81, 3) := by decide +kernel
theorem dX10_comeOff_78 : decode cX10_comeOff 78 = .ok (.aload_n 0, 1) := by decide +kernel
theorem dX10_comeOff_79 : decode cX10_comeOff 79 = .ok (.getfield 102, 3) := by decide +kernel
theorem dX10_comeOff_82 : decode cX10_comeOff 82 = .ok (.iconst 0, 1) := by decide +kernel
theorem dX10_comeOff_83 : decode cX10_comeOff 83 = .ok (.iaload, 1) := by decide +kernel
theorem dX10_comeOff_84 : decode cX10_comeOff 84 = .ok (.aload_n 0, 1) := by decide +kernel
theorem dX10_comeOff_85 : decode cX10_comeOff 85 = .ok (.getfield 99, 3) := by decide +kernel
theorem dX10_comeOff_88 : decode cX10_comeOff 88 = .ok (.iconst 0, 1) := by decide +kernel
theorem dX10_comeOff_89 : decode cX10_comeOff 89 = .ok (.iaload, 1) := by decide +kernel
theorem dX10_comeOff_90 : decode cX10_comeOff 90 = .ok (.isub, 1) := by decide +kernel
theorem dX10_comeOff_91 : decode cX10_comeOff 91 = .ok (.iconst 2, 1) := by decide +kernel
theorem dX10_comeOff_92 : decode cX10_comeOff 92 = .ok (.idiv, 1) := by decide +kernel
theorem dX10_comeOff_93 : decode cX10_comeOff 93 = .ok (.iadd, 1) := by decide +kernel
theorem dX10_comeOff_94 : decode cX10_comeOff 94 = .ok (.putfield 81, 3) := by decide +kernel
theorem dX10_comeOff_97 : decode cX10_comeOff 97 = .ok (.aload_n 0, 1) := by decide +kernel
theorem dX10_comeOff_98 : decode cX10_comeOff 98 = .ok (.aload_n 0, 1) := by decide +kernel
theorem dX10_comeOff_99 : decode cX10_comeOff 99 = .ok (.getfield 81, 3) := by decide +kernel
theorem dX10_comeOff_102 : decode cX10_comeOff 102 = .ok (.bipush 100, 2) := by decide +kernel
theorem dX10_comeOff_104 : decode cX10_comeOff 104 = .ok (.if_icmp .ge 8, 3) := by decide +kernel
theorem dX10_comeOff_107 : decode cX10_comeOff 107 = .ok (.bipush 100, 2) := by decide +kernel
theorem dX10_comeOff_109 : decode cX10_comeOff 109 = .ok (.goto 23, 3) := by decide +kernel
theorem dX10_comeOff_112 : decode cX10_comeOff 112 = .ok (.aload_n 0, 1) := by decide +kernel
theorem dX10_comeOff_113 : decode cX10_comeOff 113 = .ok (.getfield 81, 3) := by decide +kernel
theorem dX10_comeOff_116 : decode cX10_comeOff 116 = .ok (.sipush 900, 3) := by decide +kernel
theorem dX10_comeOff_119 : decode cX10_comeOff 119 = .ok (.if_icmp .le 9, 3) := by decide +kernel
theorem dX10_comeOff_122 : decode cX10_comeOff 122 = .ok (.sipush 900, 3) := by decide +kernel
theorem dX10_comeOff_125 : decode cX10_comeOff 125 = .ok (.goto 7, 3) := by decide +kernel
theorem dX10_comeOff_128 : decode cX10_comeOff 128 = .ok (.aload_n 0, 1) := by decide +kernel
theorem dX10_comeOff_129 : decode cX10_comeOff 129 = .ok (.getfield 81, 3) := by decide +kernel
theorem dX10_comeOff_132 : decode cX10_comeOff 132 = .ok (.putfield 81, 3) := by decide +kernel
theorem dX10_comeOff_135 : decode cX10_comeOff 135 = .ok (.aload_n 0, 1) := by decide +kernel
theorem dX10_comeOff_136 : decode cX10_comeOff 136 = .ok (.dup, 1) := by decide +kernel
theorem dX10_comeOff_137 : decode cX10_comeOff 137 = .ok (.getfield 208, 3) := by decide +kernel
theorem dX10_comeOff_140 : decode cX10_comeOff 140 = .ok (.iconst 1, 1) := by decide +kernel
theorem dX10_comeOff_141 : decode cX10_comeOff 141 = .ok (.isub, 1) := by decide +kernel
theorem dX10_comeOff_142 : decode cX10_comeOff 142 = .ok (.putfield 208, 3) := by decide +kernel
theorem dX10_comeOff_145 : decode cX10_comeOff 145 = .ok (.iconst 0, 1) := by decide +kernel
theorem dX10_comeOff_146 : decode cX10_comeOff 146 = .ok (.istore_n 2, 1) := by decide +kernel
theorem dX10_comeOff_147 : decode cX10_comeOff 147 = .ok (.iload_n 2, 1) := by decide +kernel
theorem dX10_comeOff_148 : decode cX10_comeOff 148 = .ok (.aload_n 0, 1) := by decide +kernel
theorem dX10_comeOff_149 : decode cX10_comeOff 149 = .ok (.getfield 208, 3) := by decide +kernel
theorem dX10_comeOff_152 : decode cX10_comeOff 152 = .ok (.if_icmp .ge 107, 3) := by decide +kernel
theorem dX10_comeOff_155 : decode cX10_comeOff 155 = .ok (.aload_n 0, 1) := by decide +kernel
theorem dX10_comeOff_156 : decode cX10_comeOff 156 = .ok (.getfield 87, 3) := by decide +kernel
theorem dX10_comeOff_159 : decode cX10_comeOff 159 = .ok (.iload_n 2, 1) := by decide +kernel
theorem dX10_comeOff_160 : decode cX10_comeOff 160 = .ok (.aload_n 0, 1) := by decide +kernel
theorem dX10_comeOff_161 : decode cX10_comeOff 161 = .ok (.getfield 87, 3) := by decide +kernel
theorem dX10_comeOff_164 : decode cX10_comeOff 164 = .ok (.iload_n 2, 1) := by decide +kernel
theorem dX10_comeOff_165 : decode cX10_comeOff 165 = .ok (.iconst 1, 1) := by decide +kernel
theorem dX10_comeOff_166 : decode cX10_comeOff 166 = .ok (.iadd, 1) := by decide +kernel
theorem dX10_comeOff_167 : decode cX10_comeOff 167 = .ok (.iaload, 1) := by decide +kernel
theorem dX10_comeOff_168 : decode cX10_comeOff 168 = .ok (.iastore, 1) := by decide +kernel
theorem dX10_comeOff_169 : decode cX10_comeOff 169 = .ok (.aload_n 0, 1) := by decide +kernel
theorem dX10_comeOff_170 : decode cX10_comeOff 170 = .ok (.getfield 90, 3) := by decide +kernel
theorem dX10_comeOff_173 : decode cX10_comeOff 173 = .ok (.iload_n 2, 1) := by decide +kernel
theorem dX10_comeOff_174 : decode cX10_comeOff 174 = .ok (.aload_n 0, 1) := by decide +kernel
theorem dX10_comeOff_175 : decode cX10_comeOff 175 = .ok (.getfield 90, 3) := by decide +kernel
theorem dX10_comeOff_178 : decode cX10_comeOff 178 = .ok (.iload_n 2, 1) := by decide +kernel
theorem dX10_comeOff_179 : decode cX10_comeOff 179 = .ok (.iconst 1, 1) := by decide +kernel
theorem dX10_comeOff_180 : decode cX10_comeOff 180 = .ok (.iadd, 1) := by decide +kernel
theorem dX10_comeOff_181 : decode cX10_comeOff 181 = .ok (.iaload, 1) := by decide +kernel
theorem dX10_comeOff_182 : decode cX10_comeOff 182 = .ok (.iastore, 1) := by decide +kernel
theorem dX10_comeOff_183 : decode cX10_comeOff 183 = .ok (.aload_n 0, 1) := by decide +kernel
theorem dX10_comeOff_184 : decode cX10_comeOff 184 = .ok (.getfield 93, 3) := by decide +kernel
theorem dX10_comeOff_187 : decode cX10_comeOff 187 = .ok (.iload_n 2, 1) := by decide +kernel
theorem dX10_comeOff_188 : decode cX10_comeOff 188 = .ok (.aload_n 0, 1) := by decide +kernel
theorem dX10_comeOff_189 : decode cX10_comeOff 189 = .ok (.getfield 93, 3) := by decide +kernel
theorem dX10_comeOff_192 : decode cX10_comeOff 192 = .ok (.iload_n 2, 1) := by decide +kernel
theorem dX10_comeOff_193 : decode cX10_comeOff 193 = .ok (.iconst 1, 1) := by decide +kernel
theorem dX10_comeOff_194 : decode cX10_comeOff 194 = .ok (.iadd, 1) := by decide +kernel
theorem dX10_comeOff_195 : decode cX10_comeOff 195 = .ok (.iaload, 1) := by decide +kernel
theorem dX10_comeOff_196 : decode cX10_comeOff 196 = .ok (.iastore, 1) := by decide +kernel
theorem dX10_comeOff_197 : decode cX10_comeOff 197 = .ok (.aload_n 0, 1) := by decide +kernel
theorem dX10_comeOff_198 : decode cX10_comeOff 198 = .ok (.getfield 96, 3) := by decide +kernel
theorem dX10_comeOff_201 : decode cX10_comeOff 201 = .ok (.iload_n 2, 1) := by decide +kernel
theorem dX10_comeOff_202 : decode cX10_comeOff 202 = .ok (.aload_n 0, 1) := by decide +kernel
theorem dX10_comeOff_203 : decode cX10_comeOff 203 = .ok (.getfield 96, 3) := by decide +kernel
theorem dX10_comeOff_206 : decode cX10_comeOff 206 = .ok (.iload_n 2, 1) := by decide +kernel
theorem dX10_comeOff_207 : decode cX10_comeOff 207 = .ok (.iconst 1, 1) := by decide +kernel
theorem dX10_comeOff_208 : decode cX10_comeOff 208 = .ok (.iadd, 1) := by decide +kernel
theorem dX10_comeOff_209 : decode cX10_comeOff 209 = .ok (.iaload, 1) := by decide +kernel
theorem dX10_comeOff_210 : decode cX10_comeOff 210 = .ok (.iastore, 1) := by decide +kernel
theorem dX10_comeOff_211 : decode cX10_comeOff 211 = .ok (.aload_n 0, 1) := by decide +kernel
theorem dX10_comeOff_212 : decode cX10_comeOff 212 = .ok (.getfield 99, 3) := by decide +kernel
theorem dX10_comeOff_215 : decode cX10_comeOff 215 = .ok (.iload_n 2, 1) := by decide +kernel
theorem dX10_comeOff_216 : decode cX10_comeOff 216 = .ok (.aload_n 0, 1) := by decide +kernel
theorem dX10_comeOff_217 : decode cX10_comeOff 217 = .ok (.getfield 99, 3) := by decide +kernel
theorem dX10_comeOff_220 : decode cX10_comeOff 220 = .ok (.iload_n 2, 1) := by decide +kernel
theorem dX10_comeOff_221 : decode cX10_comeOff 221 = .ok (.iconst 1, 1) := by decide +kernel
theorem dX10_comeOff_222 : decode cX10_comeOff 222 = .ok (.iadd, 1) := by decide +kernel
theorem dX10_comeOff_223 : decode cX10_comeOff 223 = .ok (.iaload, 1) := by decide +kernel
theorem dX10_comeOff_224 : decode cX10_comeOff 224 = .ok (.iastore, 1) := by decide +kernel
theorem dX10_comeOff_225 : decode cX10_comeOff 225 = .ok (.aload_n 0, 1) := by decide +kernel
theorem dX10_comeOff_226 : decode cX10_comeOff 226 = .ok (.getfield 102, 3) := by decide +kernel
theorem dX10_comeOff_229 : decode cX10_comeOff 229 = .ok (.iload_n 2, 1) := by decide +kernel
theorem dX10_comeOff_230 : decode cX10_comeOff 230 = .ok (.aload_n 0, 1) := by decide +kernel
theorem dX10_comeOff_231 : decode cX10_comeOff 231 = .ok (.getfield 102, 3) := by decide +kernel
theorem dX10_comeOff_234 : decode cX10_comeOff 234 = .ok (.iload_n 2, 1) := by decide +kernel
theorem dX10_comeOff_235 : decode cX10_comeOff 235 = .ok (.iconst 1, 1) := by decide +kernel
theorem dX10_comeOff_236 : decode cX10_comeOff 236 = .ok (.iadd, 1) := by decide +kernel
theorem dX10_comeOff_237 : decode cX10_comeOff 237 = .ok (.iaload, 1) := by decide +kernel
theorem dX10_comeOff_238 : decode cX10_comeOff 238 = .ok (.iastore, 1) := by decide +kernel
theorem dX10_comeOff_239 : decode cX10_comeOff 239 = .ok (.aload_n 0, 1) := by decide +kernel
theorem dX10_comeOff_240 : decode cX10_comeOff 240 = .ok (.getfield 105, 3) := by decide +kernel
theorem dX10_comeOff_243 : decode cX10_comeOff 243 = .ok (.iload_n 2, 1) := by decide +kernel
theorem dX10_comeOff_244 : decode cX10_comeOff 244 = .ok (.aload_n 0, 1) := by decide +kernel
theorem dX10_comeOff_245 : decode cX10_comeOff 245 = .ok (.getfield 105, 3) := by decide +kernel
theorem dX10_comeOff_248 : decode cX10_comeOff 248 = .ok (.iload_n 2, 1) := by decide +kernel
theorem dX10_comeOff_249 : decode cX10_comeOff 249 = .ok (.iconst 1, 1) := by decide +kernel
theorem dX10_comeOff_250 : decode cX10_comeOff 250 = .ok (.iadd, 1) := by decide +kernel
theorem dX10_comeOff_251 : decode cX10_comeOff 251 = .ok (.iaload, 1) := by decide +kernel
theorem dX10_comeOff_252 : decode cX10_comeOff 252 = .ok (.iastore, 1) := by decide +kernel
theorem dX10_comeOff_253 : decode cX10_comeOff 253 = .ok (.iinc 2 1, 3) := by decide +kernel
theorem dX10_comeOff_256 : decode cX10_comeOff 256 = .ok (.goto (-109), 3) := by decide +kernel
theorem dX10_comeOff_259 : decode cX10_comeOff 259 = .ok (.return_, 1) := by decide +kernel
theorem dX10_cutOne_0 : decode cX10_cutOne 0 = .ok (.aload_n 0, 1) := by decide +kernel
theorem dX10_cutOne_1 : decode cX10_cutOne 1 = .ok (.getfield 50, 3) := by decide +kernel
theorem dX10_cutOne_4 : decode cX10_cutOne 4 = .ok (.aload_n 0, 1) := by decide +kernel
theorem dX10_cutOne_5 : decode cX10_cutOne 5 = .ok (.getfield 184, 3) := by decide +kernel
theorem dX10_cutOne_8 : decode cX10_cutOne 8 = .ok (.iaload, 1) := by decide +kernel
theorem dX10_cutOne_9 : decode cX10_cutOne 9 = .ok (.istore_n 1, 1) := by decide +kernel
theorem dX10_cutOne_10 : decode cX10_cutOne 10 = .ok (.aload_n 0, 1) := by decide +kernel
theorem dX10_cutOne_11 : decode cX10_cutOne 11 = .ok (.getfield 56, 3) := by decide +kernel
theorem dX10_cutOne_14 : decode cX10_cutOne 14 = .ok (.iload_n 1, 1) := by decide +kernel
theorem dX10_cutOne_15 : decode cX10_cutOne 15 = .ok (.iaload, 1) := by decide +kernel
theorem dX10_cutOne_16 : decode cX10_cutOne 16 = .ok (.istore_n 2, 1) := by decide +kernel
theorem dX10_cutOne_17 : decode cX10_cutOne 17 = .ok (.aload_n 0, 1) := by decide +kernel
theorem dX10_cutOne_18 : decode cX10_cutOne 18 = .ok (.getfield 53, 3) := by decide +kernel
theorem dX10_cutOne_21 : decode cX10_cutOne 21 = .ok (.iload_n 1, 1) := by decide +kernel
theorem dX10_cutOne_22 : decode cX10_cutOne 22 = .ok (.iaload, 1) := by decide +kernel
theorem dX10_cutOne_23 : decode cX10_cutOne 23 = .ok (.istore_n 3, 1) := by decide +kernel
theorem dX10_cutOne_24 : decode cX10_cutOne 24 = .ok (.aload_n 0, 1) := by decide +kernel
theorem dX10_cutOne_25 : decode cX10_cutOne 25 = .ok (.getfield 65, 3) := by decide +kernel
theorem dX10_cutOne_28 : decode cX10_cutOne 28 = .ok (.iload_n 2, 1) := by decide +kernel
theorem dX10_cutOne_29 : decode cX10_cutOne 29 = .ok (.dup2, 1) := by decide +kernel
theorem dX10_cutOne_30 : decode cX10_cutOne 30 = .ok (.iaload, 1) := by decide +kernel
theorem dX10_cutOne_31 : decode cX10_cutOne 31 = .ok (.iconst 1, 1) := by decide +kernel
theorem dX10_cutOne_32 : decode cX10_cutOne 32 = .ok (.iadd, 1) := by decide +kernel
theorem dX10_cutOne_33 : decode cX10_cutOne 33 = .ok (.iastore, 1) := by decide +kernel
theorem dX10_cutOne_34 : decode cX10_cutOne 34 = .ok (.aload_n 0, 1) := by decide +kernel
theorem dX10_cutOne_35 : decode cX10_cutOne 35 = .ok (.getfield 68, 3) := by decide +kernel
theorem dX10_cutOne_38 : decode cX10_cutOne 38 = .ok (.iload_n 2, 1) := by decide +kernel
theorem dX10_cutOne_39 : decode cX10_cutOne 39 = .ok (.dup2, 1) := by decide +kernel
theorem dX10_cutOne_40 : decode cX10_cutOne 40 = .ok (.iaload, 1) := by decide +kernel
theorem dX10_cutOne_41 : decode cX10_cutOne 41 = .ok (.iconst 1, 1) := by decide +kernel
theorem dX10_cutOne_42 : decode cX10_cutOne 42 = .ok (.iadd, 1) := by decide +kernel
theorem dX10_cutOne_43 : decode cX10_cutOne 43 = .ok (.iastore, 1) := by decide +kernel
theorem dX10_cutOne_44 : decode cX10_cutOne 44 = .ok (.aload_n 0, 1) := by decide +kernel
theorem dX10_cutOne_45 : decode cX10_cutOne 45 = .ok (.getfield 208, 3) := by decide +kernel
theorem dX10_cutOne_48 : decode cX10_cutOne 48 = .ok (.istore 4, 2) := by decide +kernel
theorem dX10_cutOne_50 : decode cX10_cutOne 50 = .ok (.aload_n 0, 1) := by decide +kernel
theorem dX10_cutOne_51 : decode cX10_cutOne 51 = .ok (.getfield 87, 3) := by decide +kernel
theorem dX10_cutOne_54 : decode cX10_cutOne 54 = .ok (.iload 4, 2) := by decide +kernel
theorem dX10_cutOne_56 : decode cX10_cutOne 56 = .ok (.aload_n 0, 1) := by decide +kernel
theorem dX10_cutOne_57 : decode cX10_cutOne 57 = .ok (.getfield 211, 3) := by decide +kernel
theorem dX10_cutOne_60 : decode cX10_cutOne 60 = .ok (.iastore, 1) := by decide +kernel
theorem dX10_cutOne_61 : decode cX10_cutOne 61 = .ok (.aload_n 0, 1) := by decide +kernel
theorem dX10_cutOne_62 : decode cX10_cutOne 62 = .ok (.getfield 90, 3) := by decide +kernel
theorem dX10_cutOne_65 : decode cX10_cutOne 65 = .ok (.iload 4, 2) := by decide +kernel
theorem dX10_cutOne_67 : decode cX10_cutOne 67 = .ok (.iload_n 1, 1) := by decide +kernel
theorem dX10_cutOne_68 : decode cX10_cutOne 68 = .ok (.iastore, 1) := by decide +kernel
theorem dX10_cutOne_69 : decode cX10_cutOne 69 = .ok (.aload_n 0, 1) := by decide +kernel
theorem dX10_cutOne_70 : decode cX10_cutOne 70 = .ok (.getfield 93, 3) := by decide +kernel
theorem dX10_cutOne_73 : decode cX10_cutOne 73 = .ok (.iload 4, 2) := by decide +kernel
theorem dX10_cutOne_75 : decode cX10_cutOne 75 = .ok (.iload_n 2, 1) := by decide +kernel
theorem dX10_cutOne_76 : decode cX10_cutOne 76 = .ok (.iastore, 1) := by decide +kernel
theorem dX10_cutOne_77 : decode cX10_cutOne 77 = .ok (.aload_n 0, 1) := by decide +kernel
theorem dX10_cutOne_78 : decode cX10_cutOne 78 = .ok (.getfield 96, 3) := by decide +kernel
theorem dX10_cutOne_81 : decode cX10_cutOne 81 = .ok (.iload 4, 2) := by decide +kernel
theorem dX10_cutOne_83 : decode cX10_cutOne 83 = .ok (.iload_n 3, 1) := by decide +kernel
theorem dX10_cutOne_84 : decode cX10_cutOne 84 = .ok (.iastore, 1) := by decide +kernel
theorem dX10_cutOne_85 : decode cX10_cutOne 85 = .ok (.aload_n 0, 1) := by decide +kernel
theorem dX10_cutOne_86 : decode cX10_cutOne 86 = .ok (.getfield 99, 3) := by decide +kernel
theorem dX10_cutOne_89 : decode cX10_cutOne 89 = .ok (.iload 4, 2) := by decide +kernel
theorem dX10_cutOne_91 : decode cX10_cutOne 91 = .ok (.aload_n 0, 1) := by decide +kernel
theorem dX10_cutOne_92 : decode cX10_cutOne 92 = .ok (.getfield 81, 3) := by decide +kernel
theorem dX10_cutOne_95 : decode cX10_cutOne 95 = .ok (.aload_n 0, 1) := by decide +kernel
theorem dX10_cutOne_96 : decode cX10_cutOne 96 = .ok (.getfield 202, 3) := by decide +kernel
theorem dX10_cutOne_99 : decode cX10_cutOne 99 = .ok (.iadd, 1) := by decide +kernel
theorem dX10_cutOne_100 : decode cX10_cutOne 100 = .ok (.aload_n 0, 1) := by decide +kernel
theorem dX10_cutOne_101 : decode cX10_cutOne 101 = .ok (.getfield 59, 3) := by decide +kernel
theorem dX10_cutOne_104 : decode cX10_cutOne 104 = .ok (.iload_n 3, 1) := by decide +kernel
theorem dX10_cutOne_105 : decode cX10_cutOne 105 = .ok (.iaload, 1) := by decide +kernel
theorem dX10_cutOne_106 : decode cX10_cutOne 106 = .ok (.iadd, 1) := by decide +kernel
theorem dX10_cutOne_107 : decode cX10_cutOne 107 = .ok (.sipush 500, 3) := by decide +kernel
theorem dX10_cutOne_110 : decode cX10_cutOne 110 = .ok (.isub, 1) := by decide +kernel
theorem dX10_cutOne_111 : decode cX10_cutOne 111 = .ok (.iastore, 1) := by decide +kernel
theorem dX10_cutOne_112 : decode cX10_cutOne 112 = .ok (.aload_n 0, 1) := by decide +kernel
theorem dX10_cutOne_113 : decode cX10_cutOne 113 = .ok (.getfield 102, 3) := by decide +kernel
theorem dX10_cutOne_116 : decode cX10_cutOne 116 = .ok (.iload 4, 2) := by decide +kernel
theorem dX10_cutOne_118 : decode cX10_cutOne 118 = .ok (.aload_n 0, 1) := by decide +kernel
theorem dX10_cutOne_119 : decode cX10_cutOne 119 = .ok (.getfield 59, 3) := by decide +kernel
theorem dX10_cutOne_122 : decode cX10_cutOne 122 = .ok (.iload_n 3, 1) := by decide +kernel
theorem dX10_cutOne_123 : decode cX10_cutOne 123 = .ok (.iaload, 1) := by decide +kernel
theorem dX10_cutOne_124 : decode cX10_cutOne 124 = .ok (.iastore, 1) := by decide +kernel
theorem dX10_cutOne_125 : decode cX10_cutOne 125 = .ok (.aload_n 0, 1) := by decide +kernel
theorem dX10_cutOne_126 : decode cX10_cutOne 126 = .ok (.getfield 105, 3) := by decide +kernel
theorem dX10_cutOne_129 : decode cX10_cutOne 129 = .ok (.iload 4, 2) := by decide +kernel
theorem dX10_cutOne_131 : decode cX10_cutOne 131 = .ok (.aload_n 0, 1) := by decide +kernel
theorem dX10_cutOne_132 : decode cX10_cutOne 132 = .ok (.getfield 193, 3) := by decide +kernel
theorem dX10_cutOne_135 : decode cX10_cutOne 135 = .ok (.ifCond .le 7, 3) := by decide +kernel
theorem dX10_cutOne_138 : decode cX10_cutOne 138 = .ok (.iconst 1, 1) := by decide +kernel
theorem dX10_cutOne_139 : decode cX10_cutOne 139 = .ok (.goto 53, 3) := by decide +kernel
theorem dX10_cutOne_142 : decode cX10_cutOne 142 = .ok (.aload_n 0, 1) := by decide +kernel
theorem dX10_cutOne_143 : decode cX10_cutOne 143 = .ok (.getfield 190, 3) := by decide +kernel
theorem dX10_cutOne_146 : decode cX10_cutOne 146 = .ok (.aload_n 0, 1) := by decide +kernel
theorem dX10_cutOne_147 : decode cX10_cutOne 147 = .ok (.getfield 62, 3) := by decide +kernel
theorem dX10_cutOne_150 : decode cX10_cutOne 150 = .ok (.iload_n 3, 1) := by decide +kernel
theorem dX10_cutOne_151 : decode cX10_cutOne 151 = .ok (.iaload, 1) := by decide +kernel
theorem dX10_cutOne_152 : decode cX10_cutOne 152 = .ok (.if_icmp .eq 7, 3) := by decide +kernel
theorem dX10_cutOne_155 : decode cX10_cutOne 155 = .ok (.iconst 2, 1) := by decide +kernel
theorem dX10_cutOne_156 : decode cX10_cutOne 156 = .ok (.goto 36, 3) := by decide +kernel
theorem dX10_cutOne_159 : decode cX10_cutOne 159 = .ok (.aload_n 0, 1) := by decide +kernel
theorem dX10_cutOne_160 : decode cX10_cutOne 160 = .ok (.getfield 68, 3) := by decide +kernel
theorem dX10_cutOne_163 : decode cX10_cutOne 163 = .ok (.iload_n 2, 1) := by decide +kernel
theorem dX10_cutOne_164 : decode cX10_cutOne 164 = .ok (.iaload, 1) := by decide +kernel
theorem dX10_cutOne_165 : decode cX10_cutOne 165 = .ok (.bipush 8, 2) := by decide +kernel
theorem dX10_cutOne_167 : decode cX10_cutOne 167 = .ok (.if_icmp .le 7, 3) := by decide +kernel
theorem dX10_cutOne_170 : decode cX10_cutOne 170 = .ok (.iconst 3, 1) := by decide +kernel
theorem dX10_cutOne_171 : decode cX10_cutOne 171 = .ok (.goto 21, 3) := by decide +kernel
theorem dX10_cutOne_174 : decode cX10_cutOne 174 = .ok (.aload_n 0, 1) := by decide +kernel
theorem dX10_cutOne_175 : decode cX10_cutOne 175 = .ok (.getfield 65, 3) := by decide +kernel
theorem dX10_cutOne_178 : decode cX10_cutOne 178 = .ok (.iload_n 2, 1) := by decide +kernel
theorem dX10_cutOne_179 : decode cX10_cutOne 179 = .ok (.iaload, 1) := by decide +kernel
theorem dX10_cutOne_180 : decode cX10_cutOne 180 = .ok (.aload_n 0, 1) := by decide +kernel
theorem dX10_cutOne_181 : decode cX10_cutOne 181 = .ok (.getfield 84, 3) := by decide +kernel
theorem dX10_cutOne_184 : decode cX10_cutOne 184 = .ok (.if_icmp .le 7, 3) := by decide +kernel
theorem dX10_cutOne_187 : decode cX10_cutOne 187 = .ok (.iconst 4, 1) := by decide +kernel
theorem dX10_cutOne_188 : decode cX10_cutOne 188 = .ok (.goto 4, 3) := by decide +kernel
theorem dX10_cutOne_191 : decode cX10_cutOne 191 = .ok (.iconst 0, 1) := by decide +kernel
theorem dX10_cutOne_192 : decode cX10_cutOne 192 = .ok (.iastore, 1) := by decide +kernel
theorem dX10_cutOne_193 : decode cX10_cutOne 193 = .ok (.aload_n 0, 1) := by decide +kernel
theorem dX10_cutOne_194 : decode cX10_cutOne 194 = .ok (.dup, 1) := by decide +kernel
theorem dX10_cutOne_195 : decode cX10_cutOne 195 = .ok (.getfield 193, 3) := by decide +kernel
theorem dX10_cutOne_198 : decode cX10_cutOne 198 = .ok (.aload_n 0, 1) := by decide +kernel
theorem dX10_cutOne_199 : decode cX10_cutOne 199 = .ok (.getfield 193, 3) := by decide +kernel
theorem dX10_cutOne_202 : decode cX10_cutOne 202 = .ok (.ifCond .le 7, 3) := by decide +kernel
theorem dX10_cutOne_205 : decode cX10_cutOne 205 = .ok (.iconst 1, 1) := by decide +kernel
theorem dX10_cutOne_206 : decode cX10_cutOne 206 = .ok (.goto 4, 3) := by decide +kernel
theorem dX10_cutOne_209 : decode cX10_cutOne 209 = .ok (.iconst 0, 1) := by decide +kernel
theorem dX10_cutOne_210 : decode cX10_cutOne 210 = .ok (.isub, 1) := by decide +kernel
theorem dX10_cutOne_211 : decode cX10_cutOne 211 = .ok (.putfield 193, 3) := by decide +kernel
theorem dX10_cutOne_214 : decode cX10_cutOne 214 = .ok (.aload_n 0, 1) := by decide +kernel
theorem dX10_cutOne_215 : decode cX10_cutOne 215 = .ok (.dup, 1) := by decide +kernel
theorem dX10_cutOne_216 : decode cX10_cutOne 216 = .ok (.getfield 208, 3) := by decide +kernel
theorem dX10_cutOne_219 : decode cX10_cutOne 219 = .ok (.iconst 1, 1) := by decide +kernel
theorem dX10_cutOne_220 : decode cX10_cutOne 220 = .ok (.iadd, 1) := by decide +kernel
theorem dX10_cutOne_221 : decode cX10_cutOne 221 = .ok (.putfield 208, 3) := by decide +kernel
theorem dX10_cutOne_224 : decode cX10_cutOne 224 = .ok (.aload_n 0, 1) := by decide +kernel
theorem dX10_cutOne_225 : decode cX10_cutOne 225 = .ok (.dup, 1) := by decide +kernel
theorem dX10_cutOne_226 : decode cX10_cutOne 226 = .ok (.getfield 211, 3) := by decide +kernel
theorem dX10_cutOne_229 : decode cX10_cutOne 229 = .ok (.iconst 1, 1) := by decide +kernel
theorem dX10_cutOne_230 : decode cX10_cutOne 230 = .ok (.iadd, 1) := by decide +kernel
theorem dX10_cutOne_231 : decode cX10_cutOne 231 = .ok (.putfield 211, 3) := by decide +kernel
theorem dX10_cutOne_234 : decode cX10_cutOne 234 = .ok (.aload_n 0, 1) := by decide +kernel
theorem dX10_cutOne_235 : decode cX10_cutOne 235 = .ok (.aload_n 0, 1) := by decide +kernel
theorem dX10_cutOne_236 : decode cX10_cutOne 236 = .ok (.getfield 184, 3) := by decide +kernel
theorem dX10_cutOne_239 : decode cX10_cutOne 239 = .ok (.iconst 1, 1) := by decide +kernel
theorem dX10_cutOne_240 : decode cX10_cutOne 240 = .ok (.iadd, 1) := by decide +kernel
theorem dX10_cutOne_241 : decode cX10_cutOne 241 = .ok (.aload_n 0, 1) := by decide +kernel
theorem dX10_cutOne_242 : decode cX10_cutOne 242 = .ok (.getfield 47, 3) := by decide +kernel
theorem dX10_cutOne_245 : decode cX10_cutOne 245 = .ok (.irem, 1) := by decide +kernel
theorem dX10_cutOne_246 : decode cX10_cutOne 246 = .ok (.putfield 184, 3) := by decide +kernel
theorem dX10_cutOne_249 : decode cX10_cutOne 249 = .ok (.return_, 1) := by decide +kernel
set_option maxRecDepth 20000 in
theorem ggX10_cut_X10_in : GoodIn wsX10_cut wsX10_in := goodIn_r _ [6] (by decide +kernel) (by decide +kernel)
set_option maxRecDepth 20000 in
theorem gX10_cut_X10_in : GoodIn wsX10_cut (va_wsS RX10 117 yX10_in wsX10_in) := goodIn_app (goodIn_of _ (by decide +kernel)) ggX10_cut_X10_in
set_option maxRecDepth 20000 in
theorem ggX10_cut_X10_comeOff : GoodIn wsX10_cut wsX10_comeOff := goodIn_r _ [10, 11, 12, 13, 14, 15, 16, 17, 18, 2, 19, 20, 21, 22, 23, 24, 5, 25, 26, 44, 45, 46, 47, 48, 49, 50, 51, 52, 53, 54, 55, 56, 57, 58, 59, 60, 61, 62, 63, 64, 65, 66, 67, 68, 69, 70, 71, 72, 73, 74, 75, 76, 77, 78, 79, 80, 81, 82, 83, 84, 85, 86, 87, 88] (by decide +kernel) (by decide +kernel)
set_option maxRecDepth 20000 in
theorem gX10_cut_X10_comeOff : GoodIn wsX10_cut (wsV RX10 214 RX10 yX10_comeOff wsX10_comeOff) := goodIn_app (goodIn_of _ (by decide +kernel)) ggX10_cut_X10_comeOff
set_option maxRecDepth 20000 in
theorem ggX10_cut_X10_cutOne : GoodIn wsX10_cut wsX10_cutOne := goodIn_r _ [30, 31, 32, 33, 34, 35, 36, 2, 15, 37, 19, 13, 20, 18, 16, 38, 39, 17, 21, 40, 41, 42, 43, 1, 44, 45, 46, 47, 48, 49, 50, 51, 52, 53, 54, 55, 56, 57, 58, 59, 60, 61, 62, 63, 64, 65, 66, 67, 68, 69, 70, 71, 72, 73, 74, 75, 76, 77, 78, 79, 80, 81, 82, 83, 84, 85, 86, 87, 88] (by decide +kernel) (by decide +kernel)
set_option maxRecDepth 20000 in
theorem gX10_cut_X10_cutOne : GoodIn wsX10_cut (wsV RX10 217 RX10 yX10_cutOne wsX10_cutOne) := goodIn_app (goodIn_of _ (by decide +kernel)) ggX10_cut_X10_cutOne
theorem dX10_cut_0 : decode cX10_cut 0 = .ok (.iload_n 1, 1) := by decide +kernel
theorem dX10_cut_1 : decode cX10_cut 1 = .ok (.iconst 1, 1) := by decide +kernel
theorem dX10_cut_2 : decode cX10_cut 2 = .ok (.bipush 100, 2) := by decide +kernel
theorem dX10_cut_4 : decode cX10_cut 4 = .ok (.invokestatic 117, 3) := by decide +kernel
theorem dX10_cut_7 : decode cX10_cut 7 = .ok (.ifCond .ne 5, 3) := by decide +kernel
theorem dX10_cut_10 : decode cX10_cut 10 = .ok (.iconst (-1), 1) := by decide +kernel
theorem dX10_cut_11 : decode cX10_cut 11 = .ok (.ireturn, 1) := by decide +kernel
theorem dX10_cut_12 : decode cX10_cut 12 = .ok (.aload_n 0, 1) := by decide +kernel
theorem dX10_cut_13 : decode cX10_cut 13 = .ok (.getfield 47, 3) := by decide +kernel
theorem dX10_cut_16 : decode cX10_cut 16 = .ok (.ifCond .ne 6, 3) := by decide +kernel
theorem dX10_cut_19 : decode cX10_cut 19 = .ok (.bipush (-4), 2) := by decide +kernel
theorem dX10_cut_21 : decode cX10_cut 21 = .ok (.ireturn, 1) := by decide +kernel
theorem dX10_cut_22 : decode cX10_cut 22 = .ok (.iconst 0, 1) := by decide +kernel
theorem dX10_cut_23 : decode cX10_cut 23 = .ok (.istore_n 2, 1) := by decide +kernel
theorem dX10_cut_24 : decode cX10_cut 24 = .ok (.iconst 0, 1) := by decide +kernel
theorem dX10_cut_25 : decode cX10_cut 25 = .ok (.istore_n 3, 1) := by decide +kernel
theorem dX10_cut_26 : decode cX10_cut 26 = .ok (.iload_n 3, 1) := by decide +kernel
theorem dX10_cut_27 : decode cX10_cut 27 = .ok (.iload_n 1, 1) := by decide +kernel
theorem dX10_cut_28 : decode cX10_cut 28 = .ok (.if_icmp .ge 29, 3) := by decide +kernel
theorem dX10_cut_31 : decode cX10_cut 31 = .ok (.aload_n 0, 1) := by decide +kernel
theorem dX10_cut_32 : decode cX10_cut 32 = .ok (.getfield 208, 3) := by decide +kernel
theorem dX10_cut_35 : decode cX10_cut 35 = .ok (.bipush 12, 2) := by decide +kernel
theorem dX10_cut_37 : decode cX10_cut 37 = .ok (.if_icmp .ne 10, 3) := by decide +kernel
theorem dX10_cut_40 : decode cX10_cut 40 = .ok (.aload_n 0, 1) := by decide +kernel
theorem dX10_cut_41 : decode cX10_cut 41 = .ok (.invokevirtual 214, 3) := by decide +kernel
theorem dX10_cut_44 : decode cX10_cut 44 = .ok (.iinc 2 1, 3) := by decide +kernel
theorem dX10_cut_47 : decode cX10_cut 47 = .ok (.aload_n 0, 1) := by decide +kernel
theorem dX10_cut_48 : decode cX10_cut 48 = .ok (.invokevirtual 217, 3) := by decide +kernel
theorem dX10_cut_51 : decode cX10_cut 51 = .ok (.iinc 3 1, 3) := by decide +kernel
theorem dX10_cut_54 : decode cX10_cut 54 = .ok (.goto (-28), 3) := by decide +kernel
theorem dX10_cut_57 : decode cX10_cut 57 = .ok (.iload_n 2, 1) := by decide +kernel
theorem dX10_cut_58 : decode cX10_cut 58 = .ok (.ireturn, 1) := by decide +kernel
set_option maxRecDepth 20000 in
theorem ggX10_drain_X10_comeOff : GoodIn wsX10_drain wsX10_comeOff := goodIn_r _ [6, 7, 8, 9, 10, 11, 12, 13, 14, 1, 15, 16, 17, 18, 19, 20, 5, 21, 22, 23, 24, 25, 26, 27, 28, 29, 30, 31, 32, 33, 34, 35, 36, 37, 38, 39, 40, 41, 42, 43, 44, 45, 46, 47, 48, 49, 50, 51, 52, 53, 54, 55, 56, 57, 58, 59, 60, 61, 62, 63, 64, 65, 66, 67] (by decide +kernel) (by decide +kernel)
set_option maxRecDepth 20000 in
theorem gX10_drain_X10_comeOff : GoodIn wsX10_drain (wsV RX10 214 RX10 yX10_comeOff wsX10_comeOff) := goodIn_app (goodIn_of _ (by decide +kernel)) ggX10_drain_X10_comeOff
theorem dX10_drain_0 : decode cX10_drain 0 = .ok (.aload_n 0, 1) := by decide +kernel
theorem dX10_drain_1 : decode cX10_drain 1 = .ok (.getfield 208, 3) := by decide +kernel
theorem dX10_drain_4 : decode cX10_drain 4 = .ok (.istore_n 1, 1) := by decide +kernel
theorem dX10_drain_5 : decode cX10_drain 5 = .ok (.iconst 0, 1) := by decide +kernel
theorem dX10_drain_6 : decode cX10_drain 6 = .ok (.istore_n 2, 1) := by decide +kernel
theorem dX10_drain_7 : decode cX10_drain 7 = .ok (.iload_n 2, 1) := by decide +kernel
theorem dX10_drain_8 : decode cX10_drain 8 = .ok (.iload_n 1, 1) := by decide +kernel
theorem dX10_drain_9 : decode cX10_drain 9 = .ok (.if_icmp .ge 13, 3) := by decide +kernel
theorem dX10_drain_12 : decode cX10_drain 12 = .ok (.aload_n 0, 1) := by decide +kernel
theorem dX10_drain_13 : decode cX10_drain 13 = .ok (.invokevirtual 214, 3) := by decide +kernel
theorem dX10_drain_16 : decode cX10_drain 16 = .ok (.iinc 2 1, 3) := by decide +kernel
theorem dX10_drain_19 : decode cX10_drain 19 = .ok (.goto (-12), 3) := by decide +kernel
theorem dX10_drain_22 : decode cX10_drain 22 = .ok (.iload_n 1, 1) := by decide +kernel
theorem dX10_drain_23 : decode cX10_drain 23 = .ok (.ireturn, 1) := by decide +kernel
set_option maxRecDepth 20000 in
theorem ggX10_bottle_X10_in : GoodIn wsX10_bottle wsX10_in := goodIn_r _ [10] (by decide +kernel) (by decide +kernel)
set_option maxRecDepth 20000 in
theorem gX10_bottle_X10_in : GoodIn wsX10_bottle (va_wsS RX10 117 yX10_in wsX10_in) := goodIn_app (goodIn_of _ (by decide +kernel)) ggX10_bottle_X10_in
set_option maxRecDepth 20000 in
theorem ggX10_bottle_X10_judgeOf : GoodIn wsX10_bottle wsX10_judgeOf := goodIn_r _ [14, 15, 6, 16, 17, 4, 18, 19, 20, 21, 22, 23, 24, 25, 26, 27, 28, 29, 30, 31, 32, 33, 34, 35, 36, 37, 38, 39, 40, 41, 42, 43, 44, 45, 46, 47, 48, 49, 50, 51, 52, 53, 54, 55, 56, 57, 58, 59, 60, 61, 62] (by decide +kernel) (by decide +kernel)
set_option maxRecDepth 20000 in
theorem gX10_bottle_X10_judgeOf : GoodIn wsX10_bottle (wsV RX10 205 RX10 yX10_judgeOf wsX10_judgeOf) := goodIn_app (goodIn_of _ (by decide +kernel)) ggX10_bottle_X10_judgeOf
theorem dX10_bottle_0 : decode cX10_bottle 0 = .ok (.iload_n 1, 1) := by decide +kernel
theorem dX10_bottle_1 : decode cX10_bottle 1 = .ok (.iconst 0, 1) := by decide +kernel
theorem dX10_bottle_2 : decode cX10_bottle 2 = .ok (.aload_n 0, 1) := by decide +kernel
theorem dX10_bottle_3 : decode cX10_bottle 3 = .ok (.getfield 208, 3) := by decide +kernel
theorem dX10_bottle_6 : decode cX10_bottle 6 = .ok (.iconst 1, 1) := by decide +kernel
theorem dX10_bottle_7 : decode cX10_bottle 7 = .ok (.isub, 1) := by decide +kernel
theorem dX10_bottle_8 : decode cX10_bottle 8 = .ok (.invokestatic 117, 3) := by decide +kernel
theorem dX10_bottle_11 : decode cX10_bottle 11 = .ok (.ifCond .ne 5, 3) := by decide +kernel
theorem dX10_bottle_14 : decode cX10_bottle 14 = .ok (.iconst (-1), 1) := by decide +kernel
theorem dX10_bottle_15 : decode cX10_bottle 15 = .ok (.ireturn, 1) := by decide +kernel
theorem dX10_bottle_16 : decode cX10_bottle 16 = .ok (.iload_n 2, 1) := by decide +kernel
theorem dX10_bottle_17 : decode cX10_bottle 17 = .ok (.tableswitch 80 0 5 #[39, 46, 53, 60, 67, 74], 39) := by decide +kernel
theorem dX10_bottle_56 : decode cX10_bottle 56 = .ok (.aload_n 0, 1) := by decide +kernel
theorem dX10_bottle_57 : decode cX10_bottle 57 = .ok (.getfield 87, 3) := by decide +kernel
theorem dX10_bottle_60 : decode cX10_bottle 60 = .ok (.iload_n 1, 1) := by decide +kernel
theorem dX10_bottle_61 : decode cX10_bottle 61 = .ok (.iaload, 1) := by decide +kernel
theorem dX10_bottle_62 : decode cX10_bottle 62 = .ok (.ireturn, 1) := by decide +kernel
theorem dX10_bottle_63 : decode cX10_bottle 63 = .ok (.aload_n 0, 1) := by decide +kernel
theorem dX10_bottle_64 : decode cX10_bottle 64 = .ok (.getfield 90, 3) := by decide +kernel
theorem dX10_bottle_67 : decode cX10_bottle 67 = .ok (.iload_n 1, 1) := by decide +kernel
theorem dX10_bottle_68 : decode cX10_bottle 68 = .ok (.iaload, 1) := by decide +kernel
theorem dX10_bottle_69 : decode cX10_bottle 69 = .ok (.ireturn, 1) := by decide +kernel
theorem dX10_bottle_70 : decode cX10_bottle 70 = .ok (.aload_n 0, 1) := by decide +kernel
theorem dX10_bottle_71 : decode cX10_bottle 71 = .ok (.getfield 93, 3) := by decide +kernel
theorem dX10_bottle_74 : decode cX10_bottle 74 = .ok (.iload_n 1, 1) := by decide +kernel
theorem dX10_bottle_75 : decode cX10_bottle 75 = .ok (.iaload, 1) := by decide +kernel
theorem dX10_bottle_76 : decode cX10_bottle 76 = .ok (.ireturn, 1) := by decide +kernel
theorem dX10_bottle_77 : decode cX10_bottle 77 = .ok (.aload_n 0, 1) := by decide +kernel
theorem dX10_bottle_78 : decode cX10_bottle 78 = .ok (.getfield 96, 3) := by decide +kernel
theorem dX10_bottle_81 : decode cX10_bottle 81 = .ok (.iload_n 1, 1) := by decide +kernel
theorem dX10_bottle_82 : decode cX10_bottle 82 = .ok (.iaload, 1) := by decide +kernel
theorem dX10_bottle_83 : decode cX10_bottle 83 = .ok (.ireturn, 1) := by decide +kernel
theorem dX10_bottle_84 : decode cX10_bottle 84 = .ok (.aload_n 0, 1) := by decide +kernel
theorem dX10_bottle_85 : decode cX10_bottle 85 = .ok (.getfield 99, 3) := by decide +kernel
theorem dX10_bottle_88 : decode cX10_bottle 88 = .ok (.iload_n 1, 1) := by decide +kernel
theorem dX10_bottle_89 : decode cX10_bottle 89 = .ok (.iaload, 1) := by decide +kernel
theorem dX10_bottle_90 : decode cX10_bottle 90 = .ok (.ireturn, 1) := by decide +kernel
theorem dX10_bottle_91 : decode cX10_bottle 91 = .ok (.aload_n 0, 1) := by decide +kernel
theorem dX10_bottle_92 : decode cX10_bottle 92 = .ok (.iload_n 1, 1) := by decide +kernel
theorem dX10_bottle_93 : decode cX10_bottle 93 = .ok (.invokevirtual 205, 3) := by decide +kernel
theorem dX10_bottle_96 : decode cX10_bottle 96 = .ok (.ireturn, 1) := by decide +kernel
theorem dX10_bottle_97 : decode cX10_bottle 97 = .ok (.iconst (-1), 1) := by decide +kernel
theorem dX10_bottle_98 : decode cX10_bottle 98 = .ok (.ireturn, 1) := by decide +kernel
set_option maxRecDepth 20000 in
theorem ggX10_many_X10_in : GoodIn wsX10_many wsX10_in := goodIn_r _ [15] (by decide +kernel) (by decide +kernel)
set_option maxRecDepth 20000 in
theorem gX10_many_X10_in : GoodIn wsX10_many (va_wsS RX10 117 yX10_in wsX10_in) := goodIn_app (goodIn_of _ (by decide +kernel)) ggX10_many_X10_in
theorem dX10_many_0 : decode cX10_many 0 = .ok (.iload_n 1, 1) := by decide +kernel
theorem dX10_many_1 : decode cX10_many 1 = .ok (.iconst 2, 1) := by decide +kernel
theorem dX10_many_2 : decode cX10_many 2 = .ok (.bipush 8, 2) := by decide +kernel
theorem dX10_many_4 : decode cX10_many 4 = .ok (.invokestatic 117, 3) := by decide +kernel
theorem dX10_many_7 : decode cX10_many 7 = .ok (.ifCond .eq 12, 3) := by decide +kernel
theorem dX10_many_10 : decode cX10_many 10 = .ok (.aload_n 0, 1) := by decide +kernel
theorem dX10_many_11 : decode cX10_many 11 = .ok (.getfield 108, 3) := by decide +kernel
theorem dX10_many_14 : decode cX10_many 14 = .ok (.iload_n 1, 1) := by decide +kernel
theorem dX10_many_15 : decode cX10_many 15 = .ok (.iconst 2, 1) := by decide +kernel
theorem dX10_many_16 : decode cX10_many 16 = .ok (.isub, 1) := by decide +kernel
theorem dX10_many_17 : decode cX10_many 17 = .ok (.iaload, 1) := by decide +kernel
theorem dX10_many_18 : decode cX10_many 18 = .ok (.ireturn, 1) := by decide +kernel
theorem dX10_many_19 : decode cX10_many 19 = .ok (.iload_n 1, 1) := by decide +kernel
theorem dX10_many_20 : decode cX10_many 20 = .ok (.tableswitch 141 0 15 #[80, 85, 141, 141, 141, 141, 141, 141, 141, 90, 95, 100, 121, 126, 131, 136], 80) := by decide +kernel
theorem dX10_many_100 : decode cX10_many 100 = .ok (.aload_n 0, 1) := by decide +kernel
theorem dX10_many_101 : decode cX10_many 101 = .ok (.getfield 211, 3) := by decide +kernel
theorem dX10_many_104 : decode cX10_many 104 = .ok (.ireturn, 1) := by decide +kernel
theorem dX10_many_105 : decode cX10_many 105 = .ok (.aload_n 0, 1) := by decide +kernel
theorem dX10_many_106 : decode cX10_many 106 = .ok (.getfield 208, 3) := by decide +kernel
theorem dX10_many_109 : decode cX10_many 109 = .ok (.ireturn, 1) := by decide +kernel
theorem dX10_many_110 : decode cX10_many 110 = .ok (.aload_n 0, 1) := by decide +kernel
theorem dX10_many_111 : decode cX10_many 111 = .ok (.getfield 47, 3) := by decide +kernel
theorem dX10_many_114 : decode cX10_many 114 = .ok (.ireturn, 1) := by decide +kernel
theorem dX10_many_115 : decode cX10_many 115 = .ok (.aload_n 0, 1) := by decide +kernel
theorem dX10_many_116 : decode cX10_many 116 = .ok (.getfield 81, 3) := by decide +kernel
theorem dX10_many_119 : decode cX10_many 119 = .ok (.ireturn, 1) := by decide +kernel
theorem dX10_many_120 : decode cX10_many 120 = .ok (.aload_n 0, 1) := by decide +kernel
theorem dX10_many_121 : decode cX10_many 121 = .ok (.getfield 47, 3) := by decide +kernel
theorem dX10_many_124 : decode cX10_many 124 = .ok (.ifCond .ne 7, 3) := by decide +kernel
theorem dX10_many_127 : decode cX10_many 127 = .ok (.iconst (-1), 1) := by decide +kernel
theorem dX10_many_128 : decode cX10_many 128 = .ok (.goto 12, 3) := by decide +kernel
theorem dX10_many_131 : decode cX10_many 131 = .ok (.aload_n 0, 1) := by decide +kernel
theorem dX10_many_132 : decode cX10_many 132 = .ok (.getfield 50, 3) := by decide +kernel
theorem dX10_many_135 : decode cX10_many 135 = .ok (.aload_n 0, 1) := by decide +kernel
theorem dX10_many_136 : decode cX10_many 136 = .ok (.getfield 184, 3) := by decide +kernel
theorem dX10_many_139 : decode cX10_many 139 = .ok (.iaload, 1) := by decide +kernel
theorem dX10_many_140 : decode cX10_many 140 = .ok (.ireturn, 1) := by decide +kernel
theorem dX10_many_141 : decode cX10_many 141 = .ok (.aload_n 0, 1) := by decide +kernel
theorem dX10_many_142 : decode cX10_many 142 = .ok (.getfield 193, 3) := by decide +kernel
theorem dX10_many_145 : decode cX10_many 145 = .ok (.ireturn, 1) := by decide +kernel
theorem dX10_many_146 : decode cX10_many 146 = .ok (.aload_n 0, 1) := by decide +kernel
theorem dX10_many_147 : decode cX10_many 147 = .ok (.getfield 128, 3) := by decide +kernel
theorem dX10_many_150 : decode cX10_many 150 = .ok (.ireturn, 1) := by decide +kernel
theorem dX10_many_151 : decode cX10_many 151 = .ok (.aload_n 0, 1) := by decide +kernel
theorem dX10_many_152 : decode cX10_many 152 = .ok (.getfield 28, 3) := by decide +kernel
theorem dX10_many_155 : decode cX10_many 155 = .ok (.ireturn, 1) := by decide +kernel
theorem dX10_many_156 : decode cX10_many 156 = .ok (.aload_n 0, 1) := by decide +kernel
theorem dX10_many_157 : decode cX10_many 157 = .ok (.getfield 190, 3) := by decide +kernel
theorem dX10_many_160 : decode cX10_many 160 = .ok (.ireturn, 1) := by decide +kernel
theorem dX10_many_161 : decode cX10_many 161 = .ok (.iconst (-1), 1) := by decide +kernel
theorem dX10_many_162 : decode cX10_many 162 = .ok (.ireturn, 1) := by decide +kernel
theorem dJ9_floorMod_7cf53_0 : decode cJ9_floorMod_7cf53 0 = .ok (.iload_n 0, 1) := by decide +kernel
theorem dJ9_floorMod_7cf53_1 : decode cJ9_floorMod_7cf53 1 = .ok (.iload_n 1, 1) := by decide +kernel
theorem dJ9_floorMod_7cf53_2 : decode cJ9_floorMod_7cf53 2 = .ok (.irem, 1) := by decide +kernel
theorem dJ9_floorMod_7cf53_3 : decode cJ9_floorMod_7cf53 3 = .ok (.istore_n 2, 1) := by decide +kernel
theorem dJ9_floorMod_7cf53_4 : decode cJ9_floorMod_7cf53 4 = .ok (.iload_n 0, 1) := by decide +kernel
theorem dJ9_floorMod_7cf53_5 : decode cJ9_floorMod_7cf53 5 = .ok (.iload_n 1, 1) := by decide +kernel
theorem dJ9_floorMod_7cf53_6 : decode cJ9_floorMod_7cf53 6 = .ok (.ixor, 1) := by decide +kernel
theorem dJ9_floorMod_7cf53_7 : decode cJ9_floorMod_7cf53 7 = .ok (.ifCond .ge 11, 3) := by decide +kernel
theorem dJ9_floorMod_7cf53_10 : decode cJ9_floorMod_7cf53 10 = .ok (.iload_n 2, 1) := by decide +kernel
theorem dJ9_floorMod_7cf53_11 : decode cJ9_floorMod_7cf53 11 = .ok (.ifCond .eq 7, 3) := by decide +kernel
theorem dJ9_floorMod_7cf53_14 : decode cJ9_floorMod_7cf53 14 = .ok (.iload_n 2, 1) := by decide +kernel
theorem dJ9_floorMod_7cf53_15 : decode cJ9_floorMod_7cf53 15 = .ok (.iload_n 1, 1) := by decide +kernel
theorem dJ9_floorMod_7cf53_16 : decode cJ9_floorMod_7cf53 16 = .ok (.iadd, 1) := by decide +kernel
theorem dJ9_floorMod_7cf53_17 : decode cJ9_floorMod_7cf53 17 = .ok (.ireturn, 1) := by decide +kernel
theorem dJ9_floorMod_7cf53_18 : decode cJ9_floorMod_7cf53 18 = .ok (.iload_n 2, 1) := by decide +kernel
theorem dJ9_floorMod_7cf53_19 : decode cJ9_floorMod_7cf53 19 = .ok (.ireturn, 1) := by decide +kernel
theorem dJ9_abs_0f7a4_0 : decode cJ9_abs_0f7a4 0 = .ok (.iload_n 0, 1) := by decide +kernel
theorem dJ9_abs_0f7a4_1 : decode cJ9_abs_0f7a4 1 = .ok (.ifCond .ge 8, 3) := by decide +kernel
theorem dJ9_abs_0f7a4_4 : decode cJ9_abs_0f7a4 4 = .ok (.iload_n 0, 1) := by decide +kernel
theorem dJ9_abs_0f7a4_5 : decode cJ9_abs_0f7a4 5 = .ok (.ineg, 1) := by decide +kernel
theorem dJ9_abs_0f7a4_6 : decode cJ9_abs_0f7a4 6 = .ok (.goto 4, 3) := by decide +kernel
theorem dJ9_abs_0f7a4_9 : decode cJ9_abs_0f7a4 9 = .ok (.iload_n 0, 1) := by decide +kernel
theorem dJ9_abs_0f7a4_10 : decode cJ9_abs_0f7a4 10 = .ok (.ireturn, 1) := by decide +kernel
theorem dJ9_max_7cf53_0 : decode cJ9_max_7cf53 0 = .ok (.iload_n 0, 1) := by decide +kernel
theorem dJ9_max_7cf53_1 : decode cJ9_max_7cf53 1 = .ok (.iload_n 1, 1) := by decide +kernel
theorem dJ9_max_7cf53_2 : decode cJ9_max_7cf53 2 = .ok (.if_icmp .lt 7, 3) := by decide +kernel
theorem dJ9_max_7cf53_5 : decode cJ9_max_7cf53 5 = .ok (.iload_n 0, 1) := by decide +kernel
theorem dJ9_max_7cf53_6 : decode cJ9_max_7cf53 6 = .ok (.goto 4, 3) := by decide +kernel
theorem dJ9_max_7cf53_9 : decode cJ9_max_7cf53 9 = .ok (.iload_n 1, 1) := by decide +kernel
theorem dJ9_max_7cf53_10 : decode cJ9_max_7cf53 10 = .ok (.ireturn, 1) := by decide +kernel
theorem dJ9_min_7cf53_0 : decode cJ9_min_7cf53 0 = .ok (.iload_n 0, 1) := by decide +kernel
theorem dJ9_min_7cf53_1 : decode cJ9_min_7cf53 1 = .ok (.iload_n 1, 1) := by decide +kernel
theorem dJ9_min_7cf53_2 : decode cJ9_min_7cf53 2 = .ok (.if_icmp .gt 7, 3) := by decide +kernel
theorem dJ9_min_7cf53_5 : decode cJ9_min_7cf53 5 = .ok (.iload_n 0, 1) := by decide +kernel
theorem dJ9_min_7cf53_6 : decode cJ9_min_7cf53 6 = .ok (.goto 4, 3) := by decide +kernel
theorem dJ9_min_7cf53_9 : decode cJ9_min_7cf53 9 = .ok (.iload_n 1, 1) := by decide +kernel
theorem dJ9_min_7cf53_10 : decode cJ9_min_7cf53 10 = .ok (.ireturn, 1) := by decide +kernel
abbrev vwCl : List vw_C := [(RX0, TX0, 3), (RX1, TX1, 7), (RX2, TX2, 2), (RX3, TX3, 5), (RX4, TX4, 3), (RX5, TX5, 6), (RX6, TX6, 3), (RX7, TX7, 2), (RX8, TX8, 4), (RX9, TX9, 15), (RX10, TX10, 45)]
