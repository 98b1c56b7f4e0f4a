theorem dX8_init_0 : decode cX8_init 0 = .ok (.aload_n 0, 1) := by decide +kernel
theorem dX8_init_1 : decode cX8_init 1 = .ok (.invokespecial 1, 3) := by decide +kernel
theorem dX8_init_4 : decode cX8_init 4 = .ok (.aload_n 0, 1) := by decide +kernel
theorem dX8_init_5 : decode cX8_init 5 = .ok (.sipush 631, 3) := by decide +kernel
theorem dX8_init_8 : decode cX8_init 8 = .ok (.newarray .int, 2) := by decide +kernel
theorem dX8_init_10 : decode cX8_init 10 = .ok (.putfield 7, 3) := by decide +kernel
theorem dX8_init_13 : decode cX8_init 13 = .ok (.aload_n 0, 1) := by decide +kernel
theorem dX8_init_14 : decode cX8_init 14 = .ok (.sipush 2524, 3) := by decide +kernel
theorem dX8_init_17 : decode cX8_init 17 = .ok (.newarray .int, 2) := by decide +kernel
theorem dX8_init_19 : decode cX8_init 19 = .ok (.putfield 13, 3) := by decide +kernel
theorem dX8_init_22 : decode cX8_init 22 = .ok (.aload_n 0, 1) := by decide +kernel
theorem dX8_init_23 : decode cX8_init 23 = .ok (.sipush 631, 3) := by decide +kernel
theorem dX8_init_26 : decode cX8_init 26 = .ok (.newarray .int, 2) := by decide +kernel
theorem dX8_init_28 : decode cX8_init 28 = .ok (.putfield 16, 3) := by decide +kernel
theorem dX8_init_31 : decode cX8_init 31 = .ok (.aload_n 0, 1) := by decide +kernel
theorem dX8_init_32 : decode cX8_init 32 = .ok (.sipush 631, 3) := by decide +kernel
theorem dX8_init_35 : decode cX8_init 35 = .ok (.newarray .int, 2) := by decide +kernel
theorem dX8_init_37 : decode cX8_init 37 = .ok (.putfield 19, 3) := by decide +kernel
theorem dX8_init_40 : decode cX8_init 40 = .ok (.aload_n 0, 1) := by decide +kernel
theorem dX8_init_41 : decode cX8_init 41 = .ok (.bipush 60, 2) := by decide +kernel
theorem dX8_init_43 : decode cX8_init 43 = .ok (.newarray .int, 2) := by decide +kernel
theorem dX8_init_45 : decode cX8_init 45 = .ok (.putfield 22, 3) := by decide +kernel
theorem dX8_init_48 : decode cX8_init 48 = .ok (.aload_n 0, 1) := by decide +kernel
theorem dX8_init_49 : decode cX8_init 49 = .ok (.iconst 2, 1) := by decide +kernel
theorem dX8_init_50 : decode cX8_init 50 = .ok (.newarray .int, 2) := by decide +kernel
theorem dX8_init_52 : decode cX8_init 52 = .ok (.putfield 25, 3) := by decide +kernel
theorem dX8_init_55 : decode cX8_init 55 = .ok (.aload_n 0, 1) := by decide +kernel
theorem dX8_init_56 : decode cX8_init 56 = .ok (.getfield 7, 3) := by decide +kernel
theorem dX8_init_59 : decode cX8_init 59 = .ok (.bipush 7, 2) := by decide +kernel
theorem dX8_init_61 : decode cX8_init 61 = .ok (.sipush 280, 3) := by decide +kernel
theorem dX8_init_64 : decode cX8_init 64 = .ok (.iastore, 1) := by decide +kernel
theorem dX8_init_65 : decode cX8_init 65 = .ok (.aload_n 0, 1) := by decide +kernel
theorem dX8_init_66 : decode cX8_init 66 = .ok (.getfield 7, 3) := by decide +kernel
theorem dX8_init_69 : decode cX8_init 69 = .ok (.bipush 8, 2) := by decide +kernel
theorem dX8_init_71 : decode cX8_init 71 = .ok (.bipush 20, 2) := by decide +kernel
theorem dX8_init_73 : decode cX8_init 73 = .ok (.iastore, 1) := by decide +kernel
theorem dX8_init_74 : decode cX8_init 74 = .ok (.aload_n 0, 1) := by decide +kernel
theorem dX8_init_75 : decode cX8_init 75 = .ok (.getfield 7, 3) := by decide +kernel
theorem dX8_init_78 : decode cX8_init 78 = .ok (.bipush 9, 2) := by decide +kernel
theorem dX8_init_80 : decode cX8_init 80 = .ok (.bipush 40, 2) := by decide +kernel
theorem dX8_init_82 : decode cX8_init 82 = .ok (.iastore, 1) := by decide +kernel
theorem dX8_init_83 : decode cX8_init 83 = .ok (.aload_n 0, 1) := by decide +kernel
theorem dX8_init_84 : decode cX8_init 84 = .ok (.getfield 7, 3) := by decide +kernel
theorem dX8_init_87 : decode cX8_init 87 = .ok (.bipush 10, 2) := by decide +kernel
theorem dX8_init_89 : decode cX8_init 89 = .ok (.bipush 90, 2) := by decide +kernel
theorem dX8_init_91 : decode cX8_init 91 = .ok (.iastore, 1) := by decide +kernel
theorem dX8_init_92 : decode cX8_init 92 = .ok (.aload_n 0, 1) := by decide +kernel
theorem dX8_init_93 : decode cX8_init 93 = .ok (.getfield 7, 3) := by decide +kernel
theorem dX8_init_96 : decode cX8_init 96 = .ok (.bipush 11, 2) := by decide +kernel
theorem dX8_init_98 : decode cX8_init 98 = .ok (.bipush 120, 2) := by decide +kernel
theorem dX8_init_100 : decode cX8_init 100 = .ok (.iastore, 1) := by decide +kernel
theorem dX8_init_101 : decode cX8_init 101 = .ok (.aload_n 0, 1) := by decide +kernel
theorem dX8_init_102 : decode cX8_init 102 = .ok (.getfield 7, 3) := by decide +kernel
theorem dX8_init_105 : decode cX8_init 105 = .ok (.bipush 13, 2) := by decide +kernel
theorem dX8_init_107 : decode cX8_init 107 = .ok (.bipush 30, 2) := by decide +kernel
theorem dX8_init_109 : decode cX8_init 109 = .ok (.iastore, 1) := by decide +kernel
theorem dX8_init_110 : decode cX8_init 110 = .ok (.aload_n 0, 1) := by decide +kernel
theorem dX8_init_111 : decode cX8_init 111 = .ok (.getfield 7, 3) := by decide +kernel
theorem dX8_init_114 : decode cX8_init 114 = .ok (.bipush 17, 2) := by decide +kernel
theorem dX8_init_116 : decode cX8_init 116 = .ok (.bipush 30, 2) := by decide +kernel
theorem dX8_init_118 : decode cX8_init 118 = .ok (.iastore, 1) := by decide +kernel
theorem dX8_init_119 : decode cX8_init 119 = .ok (.return_, 1) := by decide +kernel
theorem dX8_in_0 : decode cX8_in 0 = .ok (.iload_n 0, 1) := by decide +kernel
theorem dX8_in_1 : decode cX8_in 1 = .ok (.iload_n 1, 1) := by decide +kernel
theorem dX8_in_2 : decode cX8_in 2 = .ok (.if_icmp .lt 12, 3) := by decide +kernel
theorem dX8_in_5 : decode cX8_in 5 = .ok (.iload_n 0, 1) := by decide +kernel
theorem dX8_in_6 : decode cX8_in 6 = .ok (.iload_n 2, 1) := by decide +kernel
theorem dX8_in_7 : decode cX8_in 7 = .ok (.if_icmp .gt 7, 3) := by decide +kernel
theorem dX8_in_10 : decode cX8_in 10 = .ok (.iconst 1, 1) := by decide +kernel
theorem dX8_in_11 : decode cX8_in 11 = .ok (.goto 4, 3) := by decide +kernel
theorem dX8_in_14 : decode cX8_in 14 = .ok (.iconst 0, 1) := by decide +kernel
theorem dX8_in_15 : decode cX8_in 15 = .ok (.ireturn, 1) := by decide +kernel
set_option maxRecDepth 20000 in
theorem ggX8_isOne_X8_in : GoodIn wsX8_isOne wsX8_in := goodIn_r _ [4] rfl (by decide +kernel)
set_option maxRecDepth 20000 in
theorem gX8_isOne_X8_in : GoodIn wsX8_isOne (va_wsS RX8 28 yX8_in wsX8_in) := goodIn_app (goodIn_of _ (by decide +kernel)) ggX8_isOne_X8_in
theorem dX8_isOne_0 : decode cX8_isOne 0 = .ok (.iload_n 0, 1) := by decide +kernel
theorem dX8_isOne_1 : decode cX8_isOne 1 = .ok (.iconst 0, 1) := by decide +kernel
theorem dX8_isOne_2 : decode cX8_isOne 2 = .ok (.iconst 1, 1) := by decide +kernel
theorem dX8_isOne_3 : decode cX8_isOne 3 = .ok (.invokestatic 28, 3) := by decide +kernel
theorem dX8_isOne_6 : decode cX8_isOne 6 = .ok (.ireturn, 1) := by decide +kernel
theorem dX8_copies_0 : decode cX8_copies 0 = .ok (.iconst 0, 1) := by decide +kernel
theorem dX8_copies_1 : decode cX8_copies 1 = .ok (.istore_n 2, 1) := by decide +kernel
theorem dX8_copies_2 : decode cX8_copies 2 = .ok (.iload_n 2, 1) := by decide +kernel
theorem dX8_copies_3 : decode cX8_copies 3 = .ok (.sipush 631, 3) := by decide +kernel
theorem dX8_copies_6 : decode cX8_copies 6 = .ok (.if_icmp .ge 15, 3) := by decide +kernel
theorem dX8_copies_9 : decode cX8_copies 9 = .ok (.aload_n 1, 1) := by decide +kernel
theorem dX8_copies_10 : decode cX8_copies 10 = .ok (.iload_n 2, 1) := by decide +kernel
theorem dX8_copies_11 : decode cX8_copies 11 = .ok (.aload_n 0, 1) := by decide +kernel
theorem dX8_copies_12 : decode cX8_copies 12 = .ok (.iload_n 2, 1) := by decide +kernel
theorem dX8_copies_13 : decode cX8_copies 13 = .ok (.iaload, 1) := by decide +kernel
theorem dX8_copies_14 : decode cX8_copies 14 = .ok (.iastore, 1) := by decide +kernel
theorem dX8_copies_15 : decode cX8_copies 15 = .ok (.iinc 2 1, 3) := by decide +kernel
theorem dX8_copies_18 : decode cX8_copies 18 = .ok (.goto (-16), 3) := by decide +kernel
theorem dX8_copies_21 : decode cX8_copies 21 = .ok (.return_, 1) := by decide +kernel
theorem dX8_changes_0 : decode cX8_changes 0 = .ok (.aload_n 0, 1) := by decide +kernel
theorem dX8_changes_1 : decode cX8_changes 1 = .ok (.getfield 32, 3) := by decide +kernel
theorem dX8_changes_4 : decode cX8_changes 4 = .ok (.ifCond .eq 4, 3) := by decide +kernel
theorem dX8_changes_7 : decode cX8_changes 7 = .ok (.return_, 1) := by decide +kernel
theorem dX8_changes_8 : decode cX8_changes 8 = .ok (.aload_n 0, 1) := by decide +kernel
theorem dX8_changes_9 : decode cX8_changes 9 = .ok (.getfield 36, 3) := by decide +kernel
theorem dX8_changes_12 : decode cX8_changes 12 = .ok (.iconst 4, 1) := by decide +kernel
theorem dX8_changes_13 : decode cX8_changes 13 = .ok (.if_icmp .ne 44, 3) := by decide +kernel
theorem dX8_changes_16 : decode cX8_changes 16 = .ok (.iconst 0, 1) := by decide +kernel
theorem dX8_changes_17 : decode cX8_changes 17 = .ok (.istore_n 1, 1) := by decide +kernel
theorem dX8_changes_18 : decode cX8_changes 18 = .ok (.iload_n 1, 1) := by decide +kernel
theorem dX8_changes_19 : decode cX8_changes 19 = .ok (.sipush 1893, 3) := by decide +kernel
theorem dX8_changes_22 : decode cX8_changes 22 = .ok (.if_icmp .ge 25, 3) := by decide +kernel
theorem dX8_changes_25 : decode cX8_changes 25 = .ok (.aload_n 0, 1) := by decide +kernel
theorem dX8_changes_26 : decode cX8_changes 26 = .ok (.getfield 13, 3) := by decide +kernel
theorem dX8_changes_29 : decode cX8_changes 29 = .ok (.iload_n 1, 1) := by decide +kernel
theorem dX8_changes_30 : decode cX8_changes 30 = .ok (.aload_n 0, 1) := by decide +kernel
theorem dX8_changes_31 : decode cX8_changes 31 = .ok (.getfield 13, 3) := by decide +kernel
theorem dX8_changes_34 : decode cX8_changes 34 = .ok (.iload_n 1, 1) := by decide +kernel
theorem dX8_changes_35 : decode cX8_changes 35 = .ok (.sipush 631, 3) := by decide +kernel
theorem dX8_changes_38 : decode cX8_changes 38 = .ok (.iadd, 1) := by decide +kernel
theorem dX8_changes_39 : decode cX8_changes 39 = .ok (.iaload, 1) := by decide +kernel
theorem dX8_changes_40 : decode cX8_changes 40 = .ok (.iastore, 1) := by decide +kernel
theorem dX8_changes_41 : decode cX8_changes 41 = .ok (.iinc 1 1, 3) := by decide +kernel
theorem dX8_changes_44 : decode cX8_changes 44 = .ok (.goto (-26), 3) := by decide +kernel
theorem dX8_changes_47 : decode cX8_changes 47 = .ok (.aload_n 0, 1) := by decide +kernel
theorem dX8_changes_48 : decode cX8_changes 48 = .ok (.dup, 1) := by decide +kernel
theorem dX8_changes_49 : decode cX8_changes 49 = .ok (.getfield 36, 3) := by decide +kernel
theorem dX8_changes_52 : decode cX8_changes 52 = .ok (.iconst 1, 1) := by decide +kernel
theorem dX8_changes_53 : decode cX8_changes 53 = .ok (.isub, 1) := by decide +kernel
theorem dX8_changes_54 : decode cX8_changes 54 = .ok (.putfield 36, 3) := by decide +kernel
theorem dX8_changes_57 : decode cX8_changes 57 = .ok (.iconst 0, 1) := by decide +kernel
theorem dX8_changes_58 : decode cX8_changes 58 = .ok (.istore_n 1, 1) := by decide +kernel
theorem dX8_changes_59 : decode cX8_changes 59 = .ok (.iload_n 1, 1) := by decide +kernel
theorem dX8_changes_60 : decode cX8_changes 60 = .ok (.sipush 631, 3) := by decide +kernel
theorem dX8_changes_63 : decode cX8_changes 63 = .ok (.if_icmp .ge 30, 3) := by decide +kernel
theorem dX8_changes_66 : decode cX8_changes 66 = .ok (.aload_n 0, 1) := by decide +kernel
theorem dX8_changes_67 : decode cX8_changes 67 = .ok (.getfield 13, 3) := by decide +kernel
theorem dX8_changes_70 : decode cX8_changes 70 = .ok (.sipush 631, 3) := by decide +kernel
theorem dX8_changes_73 : decode cX8_changes 73 = .ok (.aload_n 0, 1) := by decide +kernel
theorem dX8_changes_74 : decode cX8_changes 74 = .ok (.getfield 36, 3) := by decide +kernel
theorem dX8_changes_77 : decode cX8_changes 77 = .ok (.imul, 1) := by decide +kernel
theorem dX8_changes_78 : decode cX8_changes 78 = .ok (.iload_n 1, 1) := by decide +kernel
theorem dX8_changes_79 : decode cX8_changes 79 = .ok (.iadd, 1) := by decide +kernel
theorem dX8_changes_80 : decode cX8_changes 80 = .ok (.aload_n 0, 1) := by decide +kernel
theorem dX8_changes_81 : decode cX8_changes 81 = .ok (.getfield 7, 3) := by decide +kernel
theorem dX8_changes_84 : decode cX8_changes 84 = .ok (.iload_n 1, 1) := by decide +kernel
theorem dX8_changes_85 : decode cX8_changes 85 = .ok (.iaload, 1) := by decide +kernel
theorem dX8_changes_86 : decode cX8_changes 86 = .ok (.iastore, 1) := by decide +kernel
theorem dX8_changes_87 : decode cX8_changes 87 = .ok (.iinc 1 1, 3) := by decide +kernel
theorem dX8_changes_90 : decode cX8_changes 90 = .ok (.goto (-31), 3) := by decide +kernel
theorem dX8_changes_93 : decode cX8_changes 93 = .ok (.aload_n 0, 1) := by decide +kernel
theorem dX8_changes_94 : decode cX8_changes 94 = .ok (.dup, 1) := by decide +kernel
theorem dX8_changes_95 : decode cX8_changes 95 = .ok (.getfield 36, 3) := by decide +kernel
theorem dX8_changes_98 : decode cX8_changes 98 = .ok (.iconst 1, 1) := by decide +kernel
theorem dX8_changes_99 : decode cX8_changes 99 = .ok (.iadd, 1) := by decide +kernel
theorem dX8_changes_100 : decode cX8_changes 100 = .ok (.putfield 36, 3) := by decide +kernel
theorem dX8_changes_103 : decode cX8_changes 103 = .ok (.return_, 1) := by decide +kernel
theorem dX8_amountOf_0 : decode cX8_amountOf 0 = .ok (.iload_n 0, 1) := by decide +kernel
theorem dX8_amountOf_1 : decode cX8_amountOf 1 = .ok (.sipush 512, 3) := by decide +kernel
theorem dX8_amountOf_4 : decode cX8_amountOf 4 = .ok (.irem, 1) := by decide +kernel
theorem dX8_amountOf_5 : decode cX8_amountOf 5 = .ok (.ireturn, 1) := by decide +kernel
theorem dX8_kindOf_0 : decode cX8_kindOf 0 = .ok (.iload_n 0, 1) := by decide +kernel
theorem dX8_kindOf_1 : decode cX8_kindOf 1 = .ok (.sipush 512, 3) := by decide +kernel
theorem dX8_kindOf_4 : decode cX8_kindOf 4 = .ok (.idiv, 1) := by decide +kernel
theorem dX8_kindOf_5 : decode cX8_kindOf 5 = .ok (.iconst 2, 1) := by decide +kernel
theorem dX8_kindOf_6 : decode cX8_kindOf 6 = .ok (.irem, 1) := by decide +kernel
theorem dX8_kindOf_7 : decode cX8_kindOf 7 = .ok (.ireturn, 1) := by decide +kernel
theorem dX8_burrIn_0 : decode cX8_burrIn 0 = .ok (.iload_n 0, 1) := by decide +kernel
theorem dX8_burrIn_1 : decode cX8_burrIn 1 = .ok (.sipush 1024, 3) := by decide +kernel
theorem dX8_burrIn_4 : decode cX8_burrIn 4 = .ok (.idiv, 1) := by decide +kernel
theorem dX8_burrIn_5 : decode cX8_burrIn 5 = .ok (.iconst 2, 1) := by decide +kernel
theorem dX8_burrIn_6 : decode cX8_burrIn 6 = .ok (.irem, 1) := by decide +kernel
theorem dX8_burrIn_7 : decode cX8_burrIn 7 = .ok (.ireturn, 1) := by decide +kernel
theorem dX8_gapOf_0 : decode cX8_gapOf 0 = .ok (.iload_n 0, 1) := by decide +kernel
theorem dX8_gapOf_1 : decode cX8_gapOf 1 = .ok (.sipush 2048, 3) := by decide +kernel
theorem dX8_gapOf_4 : decode cX8_gapOf 4 = .ok (.idiv, 1) := by decide +kernel
theorem dX8_gapOf_5 : decode cX8_gapOf 5 = .ok (.ireturn, 1) := by decide +kernel
set_option maxRecDepth 20000 in
theorem ggX8_flowOf_X8_kindOf : GoodIn wsX8_flowOf wsX8_kindOf := goodIn_r _ [5] rfl (by decide +kernel)
set_option maxRecDepth 20000 in
theorem gX8_flowOf_X8_kindOf : GoodIn wsX8_flowOf (va_wsS RX8 40 yX8_kindOf wsX8_kindOf) := goodIn_app (goodIn_of _ (by decide +kernel)) ggX8_flowOf_X8_kindOf
set_option maxRecDepth 20000 in
theorem ggX8_flowOf_X8_gapOf : GoodIn wsX8_flowOf wsX8_gapOf := goodIn_r _ [8] rfl (by decide +kernel)
set_option maxRecDepth 20000 in
theorem gX8_flowOf_X8_gapOf : GoodIn wsX8_flowOf (va_wsS RX8 44 yX8_gapOf wsX8_gapOf) := goodIn_app (goodIn_of _ (by decide +kernel)) ggX8_flowOf_X8_gapOf
theorem dX8_flowOf_0 : decode cX8_flowOf 0 = .ok (.aload_n 0, 1) := by decide +kernel
theorem dX8_flowOf_1 : decode cX8_flowOf 1 = .ok (.getfield 7, 3) := by decide +kernel
theorem dX8_flowOf_4 : decode cX8_flowOf 4 = .ok (.bipush 10, 2) := by decide +kernel
theorem dX8_flowOf_6 : decode cX8_flowOf 6 = .ok (.iload_n 1, 1) := by decide +kernel
theorem dX8_flowOf_7 : decode cX8_flowOf 7 = .ok (.invokestatic 40, 3) := by decide +kernel
theorem dX8_flowOf_10 : decode cX8_flowOf 10 = .ok (.iadd, 1) := by decide +kernel
theorem dX8_flowOf_11 : decode cX8_flowOf 11 = .ok (.iaload, 1) := by decide +kernel
theorem dX8_flowOf_12 : decode cX8_flowOf 12 = .ok (.sipush 1000, 3) := by decide +kernel
theorem dX8_flowOf_15 : decode cX8_flowOf 15 = .ok (.imul, 1) := by decide +kernel
theorem dX8_flowOf_16 : decode cX8_flowOf 16 = .ok (.iload_n 1, 1) := by decide +kernel
theorem dX8_flowOf_17 : decode cX8_flowOf 17 = .ok (.invokestatic 44, 3) := by decide +kernel
theorem dX8_flowOf_20 : decode cX8_flowOf 20 = .ok (.idiv, 1) := by decide +kernel
theorem dX8_flowOf_21 : decode cX8_flowOf 21 = .ok (.ireturn, 1) := by decide +kernel
set_option maxRecDepth 20000 in
theorem ggX8_amounts_X8_amountOf : GoodIn wsX8_amounts wsX8_amountOf := goodIn_r _ [5] rfl (by decide +kernel)
set_option maxRecDepth 20000 in
theorem gX8_amounts_X8_amountOf : GoodIn wsX8_amounts (va_wsS RX8 47 yX8_amountOf wsX8_amountOf) := goodIn_app (goodIn_of _ (by decide +kernel)) ggX8_amounts_X8_amountOf
theorem dX8_amounts_0 : decode cX8_amounts 0 = .ok (.iconst 0, 1) := by decide +kernel
theorem dX8_amounts_1 : decode cX8_amounts 1 = .ok (.istore_n 3, 1) := by decide +kernel
theorem dX8_amounts_2 : decode cX8_amounts 2 = .ok (.iconst 0, 1) := by decide +kernel
theorem dX8_amounts_3 : decode cX8_amounts 3 = .ok (.istore 4, 2) := by decide +kernel
theorem dX8_amounts_5 : decode cX8_amounts 5 = .ok (.iload 4, 2) := by decide +kernel
theorem dX8_amounts_7 : decode cX8_amounts 7 = .ok (.aload_n 0, 1) := by decide +kernel
theorem dX8_amounts_8 : decode cX8_amounts 8 = .ok (.getfield 7, 3) := by decide +kernel
theorem dX8_amounts_11 : decode cX8_amounts 11 = .ok (.iload_n 1, 1) := by decide +kernel
theorem dX8_amounts_12 : decode cX8_amounts 12 = .ok (.iaload, 1) := by decide +kernel
theorem dX8_amounts_13 : decode cX8_amounts 13 = .ok (.if_icmp .ge 24, 3) := by decide +kernel
theorem dX8_amounts_16 : decode cX8_amounts 16 = .ok (.iload_n 3, 1) := by decide +kernel
theorem dX8_amounts_17 : decode cX8_amounts 17 = .ok (.aload_n 0, 1) := by decide +kernel
theorem dX8_amounts_18 : decode cX8_amounts 18 = .ok (.getfield 7, 3) := by decide +kernel
theorem dX8_amounts_21 : decode cX8_amounts 21 = .ok (.iload_n 2, 1) := by decide +kernel
theorem dX8_amounts_22 : decode cX8_amounts 22 = .ok (.iload 4, 2) := by decide +kernel
theorem dX8_amounts_24 : decode cX8_amounts 24 = .ok (.iadd, 1) := by decide +kernel
theorem dX8_amounts_25 : decode cX8_amounts 25 = .ok (.iaload, 1) := by decide +kernel
theorem dX8_amounts_26 : decode cX8_amounts 26 = .ok (.invokestatic 47, 3) := by decide +kernel
theorem dX8_amounts_29 : decode cX8_amounts 29 = .ok (.iadd, 1) := by decide +kernel
theorem dX8_amounts_30 : decode cX8_amounts 30 = .ok (.istore_n 3, 1) := by decide +kernel
theorem dX8_amounts_31 : decode cX8_amounts 31 = .ok (.iinc 4 1, 3) := by decide +kernel
theorem dX8_amounts_34 : decode cX8_amounts 34 = .ok (.goto (-29), 3) := by decide +kernel
theorem dX8_amounts_37 : decode cX8_amounts 37 = .ok (.iload_n 3, 1) := by decide +kernel
theorem dX8_amounts_38 : decode cX8_amounts 38 = .ok (.ireturn, 1) := by decide +kernel
theorem dX8_hopper_0 : decode cX8_hopper 0 = .ok (.iconst 0, 1) := by decide +kernel
theorem dX8_hopper_1 : decode cX8_hopper 1 = .ok (.istore_n 1, 1) := by decide +kernel
theorem dX8_hopper_2 : decode cX8_hopper 2 = .ok (.iconst 0, 1) := by decide +kernel
theorem dX8_hopper_3 : decode cX8_hopper 3 = .ok (.istore_n 2, 1) := by decide +kernel
theorem dX8_hopper_4 : decode cX8_hopper 4 = .ok (.iload_n 2, 1) := by decide +kernel
theorem dX8_hopper_5 : decode cX8_hopper 5 = .ok (.aload_n 0, 1) := by decide +kernel
theorem dX8_hopper_6 : decode cX8_hopper 6 = .ok (.getfield 7, 3) := by decide +kernel
theorem dX8_hopper_9 : decode cX8_hopper 9 = .ok (.bipush 21, 2) := by decide +kernel
theorem dX8_hopper_11 : decode cX8_hopper 11 = .ok (.iaload, 1) := by decide +kernel
theorem dX8_hopper_12 : decode cX8_hopper 12 = .ok (.if_icmp .ge 25, 3) := by decide +kernel
theorem dX8_hopper_15 : decode cX8_hopper 15 = .ok (.iload_n 1, 1) := by decide +kernel
theorem dX8_hopper_16 : decode cX8_hopper 16 = .ok (.aload_n 0, 1) := by decide +kernel
theorem dX8_hopper_17 : decode cX8_hopper 17 = .ok (.getfield 7, 3) := by decide +kernel
theorem dX8_hopper_20 : decode cX8_hopper 20 = .ok (.bipush 22, 2) := by decide +kernel
theorem dX8_hopper_22 : decode cX8_hopper 22 = .ok (.iconst 2, 1) := by decide +kernel
theorem dX8_hopper_23 : decode cX8_hopper 23 = .ok (.iload_n 2, 1) := by decide +kernel
theorem dX8_hopper_24 : decode cX8_hopper 24 = .ok (.imul, 1) := by decide +kernel
theorem dX8_hopper_25 : decode cX8_hopper 25 = .ok (.iadd, 1) := by decide +kernel
theorem dX8_hopper_26 : decode cX8_hopper 26 = .ok (.iconst 1, 1) := by decide +kernel
theorem dX8_hopper_27 : decode cX8_hopper 27 = .ok (.iadd, 1) := by decide +kernel
theorem dX8_hopper_28 : decode cX8_hopper 28 = .ok (.iaload, 1) := by decide +kernel
theorem dX8_hopper_29 : decode cX8_hopper 29 = .ok (.iadd, 1) := by decide +kernel
theorem dX8_hopper_30 : decode cX8_hopper 30 = .ok (.istore_n 1, 1) := by decide +kernel
theorem dX8_hopper_31 : decode cX8_hopper 31 = .ok (.iinc 2 1, 3) := by decide +kernel
theorem dX8_hopper_34 : decode cX8_hopper 34 = .ok (.goto (-30), 3) := by decide +kernel
theorem dX8_hopper_37 : decode cX8_hopper 37 = .ok (.iload_n 1, 1) := by decide +kernel
theorem dX8_hopper_38 : decode cX8_hopper 38 = .ok (.ireturn, 1) := by decide +kernel
theorem dX8_ofBurr_0 : decode cX8_ofBurr 0 = .ok (.aload_n 0, 1) := by decide +kernel
theorem dX8_ofBurr_1 : decode cX8_ofBurr 1 = .ok (.getfield 7, 3) := by decide +kernel
theorem dX8_ofBurr_4 : decode cX8_ofBurr 4 = .ok (.bipush 13, 2) := by decide +kernel
theorem dX8_ofBurr_6 : decode cX8_ofBurr 6 = .ok (.iconst 4, 1) := by decide +kernel
theorem dX8_ofBurr_7 : decode cX8_ofBurr 7 = .ok (.iload_n 1, 1) := by decide +kernel
theorem dX8_ofBurr_8 : decode cX8_ofBurr 8 = .ok (.imul, 1) := by decide +kernel
theorem dX8_ofBurr_9 : decode cX8_ofBurr 9 = .ok (.iadd, 1) := by decide +kernel
theorem dX8_ofBurr_10 : decode cX8_ofBurr 10 = .ok (.iload_n 2, 1) := by decide +kernel
theorem dX8_ofBurr_11 : decode cX8_ofBurr 11 = .ok (.iadd, 1) := by decide +kernel
theorem dX8_ofBurr_12 : decode cX8_ofBurr 12 = .ok (.iaload, 1) := by decide +kernel
theorem dX8_ofBurr_13 : decode cX8_ofBurr 13 = .ok (.ireturn, 1) := by decide +kernel
theorem dX8_gapBy_0 : decode cX8_gapBy 0 = .ok (.bipush 10, 2) := by decide +kernel
theorem dX8_gapBy_2 : decode cX8_gapBy 2 = .ok (.iload_n 0, 1) := by decide +kernel
theorem dX8_gapBy_3 : decode cX8_gapBy 3 = .ok (.imul, 1) := by decide +kernel
theorem dX8_gapBy_4 : decode cX8_gapBy 4 = .ok (.iload_n 1, 1) := by decide +kernel
theorem dX8_gapBy_5 : decode cX8_gapBy 5 = .ok (.iconst 5, 1) := by decide +kernel
theorem dX8_gapBy_6 : decode cX8_gapBy 6 = .ok (.idiv, 1) := by decide +kernel
theorem dX8_gapBy_7 : decode cX8_gapBy 7 = .ok (.isub, 1) := by decide +kernel
theorem dX8_gapBy_8 : decode cX8_gapBy 8 = .ok (.istore_n 2, 1) := by decide +kernel
theorem dX8_gapBy_9 : decode cX8_gapBy 9 = .ok (.iload_n 2, 1) := by decide +kernel
theorem dX8_gapBy_10 : decode cX8_gapBy 10 = .ok (.bipush 10, 2) := by decide +kernel
theorem dX8_gapBy_12 : decode cX8_gapBy 12 = .ok (.if_icmp .ge 8, 3) := by decide +kernel
theorem dX8_gapBy_15 : decode cX8_gapBy 15 = .ok (.bipush 10, 2) := by decide +kernel
theorem dX8_gapBy_17 : decode cX8_gapBy 17 = .ok (.goto 4, 3) := by decide +kernel
theorem dX8_gapBy_20 : decode cX8_gapBy 20 = .ok (.iload_n 2, 1) := by decide +kernel
theorem dX8_gapBy_21 : decode cX8_gapBy 21 = .ok (.ireturn, 1) := by decide +kernel
set_option maxRecDepth 20000 in
theorem ggX8_gap_X8_ofBurr : GoodIn wsX8_gap wsX8_ofBurr := goodIn_r _ [5, 6, 10, 11, 12, 13, 14, 15, 16, 17, 18, 19, 20, 21, 22, 23, 24] rfl (by decide +kernel)
set_option maxRecDepth 20000 in
theorem gX8_gap_X8_ofBurr : GoodIn wsX8_gap (wsV RX8 50 RX8 yX8_ofBurr wsX8_ofBurr) := goodIn_app (goodIn_of _ (by decide +kernel)) ggX8_gap_X8_ofBurr
set_option maxRecDepth 20000 in
theorem ggX8_gap_X8_gapBy : GoodIn wsX8_gap wsX8_gapBy := goodIn_r _ [9] rfl (by decide +kernel)
set_option maxRecDepth 20000 in
theorem gX8_gap_X8_gapBy : GoodIn wsX8_gap (va_wsS RX8 54 yX8_gapBy wsX8_gapBy) := goodIn_app (goodIn_of _ (by decide +kernel)) ggX8_gap_X8_gapBy
theorem dX8_gap_0 : decode cX8_gap 0 = .ok (.aload_n 0, 1) := by decide +kernel
theorem dX8_gap_1 : decode cX8_gap 1 = .ok (.iload_n 1, 1) := by decide +kernel
theorem dX8_gap_2 : decode cX8_gap 2 = .ok (.iconst 0, 1) := by decide +kernel
theorem dX8_gap_3 : decode cX8_gap 3 = .ok (.invokevirtual 50, 3) := by decide +kernel
theorem dX8_gap_6 : decode cX8_gap 6 = .ok (.aload_n 0, 1) := by decide +kernel
theorem dX8_gap_7 : decode cX8_gap 7 = .ok (.iload_n 1, 1) := by decide +kernel
theorem dX8_gap_8 : decode cX8_gap 8 = .ok (.iconst 1, 1) := by decide +kernel
theorem dX8_gap_9 : decode cX8_gap 9 = .ok (.invokevirtual 50, 3) := by decide +kernel
theorem dX8_gap_12 : decode cX8_gap 12 = .ok (.invokestatic 54, 3) := by decide +kernel
theorem dX8_gap_15 : decode cX8_gap 15 = .ok (.ireturn, 1) := by decide +kernel
theorem dX8_fall_0 : decode cX8_fall 0 = .ok (.iload_n 0, 1) := by decide +kernel
theorem dX8_fall_1 : decode cX8_fall 1 = .ok (.ifCond .ne 7, 3) := by decide +kernel
theorem dX8_fall_4 : decode cX8_fall 4 = .ok (.iconst 0, 1) := by decide +kernel
theorem dX8_fall_5 : decode cX8_fall 5 = .ok (.goto 17, 3) := by decide +kernel
theorem dX8_fall_8 : decode cX8_fall 8 = .ok (.iload_n 0, 1) := by decide +kernel
theorem dX8_fall_9 : decode cX8_fall 9 = .ok (.bipush 16, 2) := by decide +kernel
theorem dX8_fall_11 : decode cX8_fall 11 = .ok (.if_icmp .ge 7, 3) := by decide +kernel
theorem dX8_fall_14 : decode cX8_fall 14 = .ok (.iconst 1, 1) := by decide +kernel
theorem dX8_fall_15 : decode cX8_fall 15 = .ok (.goto 7, 3) := by decide +kernel
theorem dX8_fall_18 : decode cX8_fall 18 = .ok (.iload_n 0, 1) := by decide +kernel
theorem dX8_fall_19 : decode cX8_fall 19 = .ok (.bipush 16, 2) := by decide +kernel
theorem dX8_fall_21 : decode cX8_fall 21 = .ok (.idiv, 1) := by decide +kernel
theorem dX8_fall_22 : decode cX8_fall 22 = .ok (.ireturn, 1) := by decide +kernel
set_option maxRecDepth 20000 in
theorem ggX8_passes_X8_ofBurr : GoodIn wsX8_passes wsX8_ofBurr := goodIn_r _ [6, 1, 10, 11, 12, 13, 14, 15, 16, 17, 18, 19, 20, 21, 22, 23, 24] rfl (by decide +kernel)
set_option maxRecDepth 20000 in
theorem gX8_passes_X8_ofBurr : GoodIn wsX8_passes (wsV RX8 50 RX8 yX8_ofBurr wsX8_ofBurr) := goodIn_app (goodIn_of _ (by decide +kernel)) ggX8_passes_X8_ofBurr
set_option maxRecDepth 20000 in
theorem ggX8_passes_X8_fall : GoodIn wsX8_passes wsX8_fall := goodIn_r _ [9] rfl (by decide +kernel)
set_option maxRecDepth 20000 in
theorem gX8_passes_X8_fall : GoodIn wsX8_passes (va_wsS RX8 57 yX8_fall wsX8_fall) := goodIn_app (goodIn_of _ (by decide +kernel)) ggX8_passes_X8_fall
theorem dX8_passes_0 : decode cX8_passes 0 = .ok (.iconst 0, 1) := by decide +kernel
theorem dX8_passes_1 : decode cX8_passes 1 = .ok (.istore_n 2, 1) := by decide +kernel
theorem dX8_passes_2 : decode cX8_passes 2 = .ok (.iconst 0, 1) := by decide +kernel
theorem dX8_passes_3 : decode cX8_passes 3 = .ok (.istore_n 3, 1) := by decide +kernel
theorem dX8_passes_4 : decode cX8_passes 4 = .ok (.iload_n 3, 1) := by decide +kernel
theorem dX8_passes_5 : decode cX8_passes 5 = .ok (.iload_n 1, 1) := by decide +kernel
theorem dX8_passes_6 : decode cX8_passes 6 = .ok (.if_icmp .ge 82, 3) := by decide +kernel
theorem dX8_passes_9 : decode cX8_passes 9 = .ok (.aload_n 0, 1) := by decide +kernel
theorem dX8_passes_10 : decode cX8_passes 10 = .ok (.getfield 7, 3) := by decide +kernel
theorem dX8_passes_13 : decode cX8_passes 13 = .ok (.iconst 0, 1) := by decide +kernel
theorem dX8_passes_14 : decode cX8_passes 14 = .ok (.dup2, 1) := by decide +kernel
theorem dX8_passes_15 : decode cX8_passes 15 = .ok (.iaload, 1) := by decide +kernel
theorem dX8_passes_16 : decode cX8_passes 16 = .ok (.iconst 1, 1) := by decide +kernel
theorem dX8_passes_17 : decode cX8_passes 17 = .ok (.iadd, 1) := by decide +kernel
theorem dX8_passes_18 : decode cX8_passes 18 = .ok (.iastore, 1) := by decide +kernel
theorem dX8_passes_19 : decode cX8_passes 19 = .ok (.iconst 0, 1) := by decide +kernel
theorem dX8_passes_20 : decode cX8_passes 20 = .ok (.istore 4, 2) := by decide +kernel
theorem dX8_passes_22 : decode cX8_passes 22 = .ok (.iload 4, 2) := by decide +kernel
theorem dX8_passes_24 : decode cX8_passes 24 = .ok (.iconst 2, 1) := by decide +kernel
theorem dX8_passes_25 : decode cX8_passes 25 = .ok (.if_icmp .ge 57, 3) := by decide +kernel
theorem dX8_passes_28 : decode cX8_passes 28 = .ok (.aload_n 0, 1) := by decide +kernel
theorem dX8_passes_29 : decode cX8_passes 29 = .ok (.getfield 7, 3) := by decide +kernel
theorem dX8_passes_32 : decode cX8_passes 32 = .ok (.iconst 0, 1) := by decide +kernel
theorem dX8_passes_33 : decode cX8_passes 33 = .ok (.iaload, 1) := by decide +kernel
theorem dX8_passes_34 : decode cX8_passes 34 = .ok (.bipush 10, 2) := by decide +kernel
theorem dX8_passes_36 : decode cX8_passes 36 = .ok (.irem, 1) := by decide +kernel
theorem dX8_passes_37 : decode cX8_passes 37 = .ok (.ifCond .ne 45, 3) := by decide +kernel
theorem dX8_passes_40 : decode cX8_passes 40 = .ok (.aload_n 0, 1) := by decide +kernel
theorem dX8_passes_41 : decode cX8_passes 41 = .ok (.iload 4, 2) := by decide +kernel
theorem dX8_passes_43 : decode cX8_passes 43 = .ok (.iconst 1, 1) := by decide +kernel
theorem dX8_passes_44 : decode cX8_passes 44 = .ok (.invokevirtual 50, 3) := by decide +kernel
theorem dX8_passes_47 : decode cX8_passes 47 = .ok (.invokestatic 57, 3) := by decide +kernel
theorem dX8_passes_50 : decode cX8_passes 50 = .ok (.istore 5, 2) := by decide +kernel
theorem dX8_passes_52 : decode cX8_passes 52 = .ok (.aload_n 0, 1) := by decide +kernel
theorem dX8_passes_53 : decode cX8_passes 53 = .ok (.getfield 7, 3) := by decide +kernel
theorem dX8_passes_56 : decode cX8_passes 56 = .ok (.bipush 13, 2) := by decide +kernel
theorem dX8_passes_58 : decode cX8_passes 58 = .ok (.iconst 4, 1) := by decide +kernel
theorem dX8_passes_59 : decode cX8_passes 59 = .ok (.iload 4, 2) := by decide +kernel
theorem dX8_passes_61 : decode cX8_passes 61 = .ok (.imul, 1) := by decide +kernel
theorem dX8_passes_62 : decode cX8_passes 62 = .ok (.iadd, 1) := by decide +kernel
theorem dX8_passes_63 : decode cX8_passes 63 = .ok (.iconst 1, 1) := by decide +kernel
theorem dX8_passes_64 : decode cX8_passes 64 = .ok (.iadd, 1) := by decide +kernel
theorem dX8_passes_65 : decode cX8_passes 65 = .ok (.dup2, 1) := by decide +kernel
theorem dX8_passes_66 : decode cX8_passes 66 = .ok (.iaload, 1) := by decide +kernel
theorem dX8_passes_67 : decode cX8_passes 67 = .ok (.iload 5, 2) := by decide +kernel
theorem dX8_passes_69 : decode cX8_passes 69 = .ok (.isub, 1) := by decide +kernel
theorem dX8_passes_70 : decode cX8_passes 70 = .ok (.iastore, 1) := by decide +kernel
theorem dX8_passes_71 : decode cX8_passes 71 = .ok (.iload_n 2, 1) := by decide +kernel
theorem dX8_passes_72 : decode cX8_passes 72 = .ok (.iload 5, 2) := by decide +kernel
theorem dX8_passes_74 : decode cX8_passes 74 = .ok (.iadd, 1) := by decide +kernel
theorem dX8_passes_75 : decode cX8_passes 75 = .ok (.istore_n 2, 1) := by decide +kernel
theorem dX8_passes_76 : decode cX8_passes 76 = .ok (.iinc 4 1, 3) := by decide +kernel
theorem dX8_passes_79 : decode cX8_passes 79 = .ok (.goto (-57), 3) := by decide +kernel
theorem dX8_passes_82 : decode cX8_passes 82 = .ok (.iinc 3 1, 3) := by decide +kernel
theorem dX8_passes_85 : decode cX8_passes 85 = .ok (.goto (-81), 3) := by decide +kernel
theorem dX8_passes_88 : decode cX8_passes 88 = .ok (.iload_n 2, 1) := by decide +kernel
theorem dX8_passes_89 : decode cX8_passes 89 = .ok (.ireturn, 1) := by decide +kernel
set_option maxRecDepth 20000 in
theorem ggX8_fill_X8_isOne : GoodIn wsX8_fill wsX8_isOne := goodIn_r _ [7, 8, 9, 6, 10] rfl (by decide +kernel)
set_option maxRecDepth 20000 in
theorem gX8_fill_X8_isOne : GoodIn wsX8_fill (va_wsS RX8 60 yX8_isOne wsX8_isOne) := goodIn_app (goodIn_of _ (by decide +kernel)) ggX8_fill_X8_isOne
set_option maxRecDepth 20000 in
theorem ggX8_fill_X8_in : GoodIn wsX8_fill wsX8_in := goodIn_r _ [10] rfl (by decide +kernel)
set_option maxRecDepth 20000 in
theorem gX8_fill_X8_in : GoodIn wsX8_fill (va_wsS RX8 28 yX8_in wsX8_in) := goodIn_app (goodIn_of _ (by decide +kernel)) ggX8_fill_X8_in
set_option maxRecDepth 20000 in
theorem ggX8_fill_X8_hopper : GoodIn wsX8_fill wsX8_hopper := goodIn_r _ [14, 2, 22, 23, 24, 25, 26, 27, 28, 29, 30, 31, 32, 33, 34, 35, 36] rfl (by decide +kernel)
set_option maxRecDepth 20000 in
theorem gX8_fill_X8_hopper : GoodIn wsX8_fill (wsV RX8 65 RX8 yX8_hopper wsX8_hopper) := goodIn_app (goodIn_of _ (by decide +kernel)) ggX8_fill_X8_hopper
set_option maxRecDepth 20000 in
theorem ggX8_fill_X8_changes : GoodIn wsX8_fill wsX8_changes := goodIn_r _ [18, 19, 20, 21, 2, 22, 23, 24, 25, 26, 27, 28, 29, 30, 31, 32, 33, 34, 35, 36] rfl (by decide +kernel)
set_option maxRecDepth 20000 in
theorem gX8_fill_X8_changes : GoodIn wsX8_fill (wsV RX8 70 RX8 yX8_changes wsX8_changes) := goodIn_app (goodIn_of _ (by decide +kernel)) ggX8_fill_X8_changes
theorem dX8_fill_0 : decode cX8_fill 0 = .ok (.iload_n 1, 1) := by decide +kernel
theorem dX8_fill_1 : decode cX8_fill 1 = .ok (.invokestatic 60, 3) := by decide +kernel
theorem dX8_fill_4 : decode cX8_fill 4 = .ok (.ifCond .eq 14, 3) := by decide +kernel
theorem dX8_fill_7 : decode cX8_fill 7 = .ok (.iload_n 2, 1) := by decide +kernel
theorem dX8_fill_8 : decode cX8_fill 8 = .ok (.iconst 1, 1) := by decide +kernel
theorem dX8_fill_9 : decode cX8_fill 9 = .ok (.sipush 999, 3) := by decide +kernel
theorem dX8_fill_12 : decode cX8_fill 12 = .ok (.invokestatic 28, 3) := by decide +kernel
theorem dX8_fill_15 : decode cX8_fill 15 = .ok (.ifCond .ne 6, 3) := by decide +kernel
theorem dX8_fill_18 : decode cX8_fill 18 = .ok (.ldc 64, 2) := by decide +kernel
theorem dX8_fill_20 : decode cX8_fill 20 = .ok (.ireturn, 1) := by decide +kernel
theorem dX8_fill_21 : decode cX8_fill 21 = .ok (.aload_n 0, 1) := by decide +kernel
theorem dX8_fill_22 : decode cX8_fill 22 = .ok (.getfield 7, 3) := by decide +kernel
theorem dX8_fill_25 : decode cX8_fill 25 = .ok (.bipush 21, 2) := by decide +kernel
theorem dX8_fill_27 : decode cX8_fill 27 = .ok (.iaload, 1) := by decide +kernel
theorem dX8_fill_28 : decode cX8_fill 28 = .ok (.iconst 1, 1) := by decide +kernel
theorem dX8_fill_29 : decode cX8_fill 29 = .ok (.isub, 1) := by decide +kernel
theorem dX8_fill_30 : decode cX8_fill 30 = .ok (.istore_n 3, 1) := by decide +kernel
theorem dX8_fill_31 : decode cX8_fill 31 = .ok (.iload_n 3, 1) := by decide +kernel
theorem dX8_fill_32 : decode cX8_fill 32 = .ok (.ifCond .lt 22, 3) := by decide +kernel
theorem dX8_fill_35 : decode cX8_fill 35 = .ok (.aload_n 0, 1) := by decide +kernel
theorem dX8_fill_36 : decode cX8_fill 36 = .ok (.getfield 7, 3) := by decide +kernel
theorem dX8_fill_39 : decode cX8_fill 39 = .ok (.bipush 22, 2) := by decide +kernel
theorem dX8_fill_41 : decode cX8_fill 41 = .ok (.iconst 2, 1) := by decide +kernel
theorem dX8_fill_42 : decode cX8_fill 42 = .ok (.iload_n 3, 1) := by decide +kernel
theorem dX8_fill_43 : decode cX8_fill 43 = .ok (.imul, 1) := by decide +kernel
theorem dX8_fill_44 : decode cX8_fill 44 = .ok (.iadd, 1) := by decide +kernel
theorem dX8_fill_45 : decode cX8_fill 45 = .ok (.iaload, 1) := by decide +kernel
theorem dX8_fill_46 : decode cX8_fill 46 = .ok (.iload_n 1, 1) := by decide +kernel
theorem dX8_fill_47 : decode cX8_fill 47 = .ok (.if_icmp .ne 7, 3) := by decide +kernel
theorem dX8_fill_50 : decode cX8_fill 50 = .ok (.iconst 1, 1) := by decide +kernel
theorem dX8_fill_51 : decode cX8_fill 51 = .ok (.goto 4, 3) := by decide +kernel
theorem dX8_fill_54 : decode cX8_fill 54 = .ok (.iconst 0, 1) := by decide +kernel
theorem dX8_fill_55 : decode cX8_fill 55 = .ok (.istore 4, 2) := by decide +kernel
theorem dX8_fill_57 : decode cX8_fill 57 = .ok (.iload 4, 2) := by decide +kernel
theorem dX8_fill_59 : decode cX8_fill 59 = .ok (.ifCond .ne 15, 3) := by decide +kernel
theorem dX8_fill_62 : decode cX8_fill 62 = .ok (.aload_n 0, 1) := by decide +kernel
theorem dX8_fill_63 : decode cX8_fill 63 = .ok (.getfield 7, 3) := by decide +kernel
theorem dX8_fill_66 : decode cX8_fill 66 = .ok (.bipush 21, 2) := by decide +kernel
theorem dX8_fill_68 : decode cX8_fill 68 = .ok (.iaload, 1) := by decide +kernel
theorem dX8_fill_69 : decode cX8_fill 69 = .ok (.bipush 6, 2) := by decide +kernel
theorem dX8_fill_71 : decode cX8_fill 71 = .ok (.if_icmp .eq 15, 3) := by decide +kernel
theorem dX8_fill_74 : decode cX8_fill 74 = .ok (.aload_n 0, 1) := by decide +kernel
theorem dX8_fill_75 : decode cX8_fill 75 = .ok (.invokevirtual 65, 3) := by decide +kernel
theorem dX8_fill_78 : decode cX8_fill 78 = .ok (.iload_n 2, 1) := by decide +kernel
theorem dX8_fill_79 : decode cX8_fill 79 = .ok (.iadd, 1) := by decide +kernel
theorem dX8_fill_80 : decode cX8_fill 80 = .ok (.sipush 4000, 3) := by decide +kernel
theorem dX8_fill_83 : decode cX8_fill 83 = .ok (.if_icmp .le 6, 3) := by decide +kernel
theorem dX8_fill_86 : decode cX8_fill 86 = .ok (.ldc 69, 2) := by decide +kernel
theorem dX8_fill_88 : decode cX8_fill 88 = .ok (.ireturn, 1) := by decide +kernel
theorem dX8_fill_89 : decode cX8_fill 89 = .ok (.aload_n 0, 1) := by decide +kernel
theorem dX8_fill_90 : decode cX8_fill 90 = .ok (.invokevirtual 70, 3) := by decide +kernel
theorem dX8_fill_93 : decode cX8_fill 93 = .ok (.iload 4, 2) := by decide +kernel
theorem dX8_fill_95 : decode cX8_fill 95 = .ok (.ifCond .eq 23, 3) := by decide +kernel
theorem dX8_fill_98 : decode cX8_fill 98 = .ok (.aload_n 0, 1) := by decide +kernel
theorem dX8_fill_99 : decode cX8_fill 99 = .ok (.getfield 7, 3) := by decide +kernel
theorem dX8_fill_102 : decode cX8_fill 102 = .ok (.bipush 22, 2) := by decide +kernel
theorem dX8_fill_104 : decode cX8_fill 104 = .ok (.iconst 2, 1) := by decide +kernel
theorem dX8_fill_105 : decode cX8_fill 105 = .ok (.iload_n 3, 1) := by decide +kernel
theorem dX8_fill_106 : decode cX8_fill 106 = .ok (.imul, 1) := by decide +kernel
theorem dX8_fill_107 : decode cX8_fill 107 = .ok (.iadd, 1) := by decide +kernel
theorem dX8_fill_108 : decode cX8_fill 108 = .ok (.iconst 1, 1) := by decide +kernel
theorem dX8_fill_109 : decode cX8_fill 109 = .ok (.iadd, 1) := by decide +kernel
theorem dX8_fill_110 : decode cX8_fill 110 = .ok (.dup2, 1) := by decide +kernel
theorem dX8_fill_111 : decode cX8_fill 111 = .ok (.iaload, 1) := by decide +kernel
theorem dX8_fill_112 : decode cX8_fill 112 = .ok (.iload_n 2, 1) := by decide +kernel
theorem dX8_fill_113 : decode cX8_fill 113 = .ok (.iadd, 1) := by decide +kernel
theorem dX8_fill_114 : decode cX8_fill 114 = .ok (.iastore, 1) := by decide +kernel
theorem dX8_fill_115 : decode cX8_fill 115 = .ok (.goto 52, 3) := by decide +kernel
theorem dX8_fill_118 : decode cX8_fill 118 = .ok (.aload_n 0, 1) := by decide +kernel
theorem dX8_fill_119 : decode cX8_fill 119 = .ok (.getfield 7, 3) := by decide +kernel
theorem dX8_fill_122 : decode cX8_fill 122 = .ok (.bipush 22, 2) := by decide +kernel
theorem dX8_fill_124 : decode cX8_fill 124 = .ok (.iconst 2, 1) := by decide +kernel
theorem dX8_fill_125 : decode cX8_fill 125 = .ok (.aload_n 0, 1) := by decide +kernel
theorem dX8_fill_126 : decode cX8_fill 126 = .ok (.getfield 7, 3) := by decide +kernel
theorem dX8_fill_129 : decode cX8_fill 129 = .ok (.bipush 21, 2) := by decide +kernel
theorem dX8_fill_131 : decode cX8_fill 131 = .ok (.iaload, 1) := by decide +kernel
theorem dX8_fill_132 : decode cX8_fill 132 = .ok (.imul, 1) := by decide +kernel
theorem dX8_fill_133 : decode cX8_fill 133 = .ok (.iadd, 1) := by decide +kernel
theorem dX8_fill_134 : decode cX8_fill 134 = .ok (.iload_n 1, 1) := by decide +kernel
theorem dX8_fill_135 : decode cX8_fill 135 = .ok (.iastore, 1) := by decide +kernel
theorem dX8_fill_136 : decode cX8_fill 136 = .ok (.aload_n 0, 1) := by decide +kernel
theorem dX8_fill_137 : decode cX8_fill 137 = .ok (.getfield 7, 3) := by decide +kernel
theorem dX8_fill_140 : decode cX8_fill 140 = .ok (.bipush 22, 2) := by decide +kernel
theorem dX8_fill_142 : decode cX8_fill 142 = .ok (.iconst 2, 1) := by decide +kernel
theorem dX8_fill_143 : decode cX8_fill 143 = .ok (.aload_n 0, 1) := by decide +kernel
theorem dX8_fill_144 : decode cX8_fill 144 = .ok (.getfield 7, 3) := by decide +kernel
theorem dX8_fill_147 : decode cX8_fill 147 = .ok (.bipush 21, 2) := by decide +kernel
theorem dX8_fill_149 : decode cX8_fill 149 = .ok (.iaload, 1) := by decide +kernel
theorem dX8_fill_150 : decode cX8_fill 150 = .ok (.imul, 1) := by decide +kernel
theorem dX8_fill_151 : decode cX8_fill 151 = .ok (.iadd, 1) := by decide +kernel
theorem dX8_fill_152 : decode cX8_fill 152 = .ok (.iconst 1, 1) := by decide +kernel
theorem dX8_fill_153 : decode cX8_fill 153 = .ok (.iadd, 1) := by decide +kernel
theorem dX8_fill_154 : decode cX8_fill 154 = .ok (.iload_n 2, 1) := by decide +kernel
theorem dX8_fill_155 : decode cX8_fill 155 = .ok (.iastore, 1) := by decide +kernel
theorem dX8_fill_156 : decode cX8_fill 156 = .ok (.aload_n 0, 1) := by decide +kernel
theorem dX8_fill_157 : decode cX8_fill 157 = .ok (.getfield 7, 3) := by decide +kernel
theorem dX8_fill_160 : decode cX8_fill 160 = .ok (.bipush 21, 2) := by decide +kernel
theorem dX8_fill_162 : decode cX8_fill 162 = .ok (.dup2, 1) := by decide +kernel
theorem dX8_fill_163 : decode cX8_fill 163 = .ok (.iaload, 1) := by decide +kernel
theorem dX8_fill_164 : decode cX8_fill 164 = .ok (.iconst 1, 1) := by decide +kernel
theorem dX8_fill_165 : decode cX8_fill 165 = .ok (.iadd, 1) := by decide +kernel
theorem dX8_fill_166 : decode cX8_fill 166 = .ok (.iastore, 1) := by decide +kernel
theorem dX8_fill_167 : decode cX8_fill 167 = .ok (.aload_n 0, 1) := by decide +kernel
theorem dX8_fill_168 : decode cX8_fill 168 = .ok (.getfield 7, 3) := by decide +kernel
theorem dX8_fill_171 : decode cX8_fill 171 = .ok (.iconst 1, 1) := by decide +kernel
theorem dX8_fill_172 : decode cX8_fill 172 = .ok (.dup2, 1) := by decide +kernel
theorem dX8_fill_173 : decode cX8_fill 173 = .ok (.iaload, 1) := by decide +kernel
theorem dX8_fill_174 : decode cX8_fill 174 = .ok (.iload_n 2, 1) := by decide +kernel
theorem dX8_fill_175 : decode cX8_fill 175 = .ok (.iadd, 1) := by decide +kernel
theorem dX8_fill_176 : decode cX8_fill 176 = .ok (.iastore, 1) := by decide +kernel
theorem dX8_fill_177 : decode cX8_fill 177 = .ok (.aload_n 0, 1) := by decide +kernel
theorem dX8_fill_178 : decode cX8_fill 178 = .ok (.invokevirtual 65, 3) := by decide +kernel
theorem dX8_fill_181 : decode cX8_fill 181 = .ok (.ireturn, 1) := by decide +kernel
set_option maxRecDepth 20000 in
theorem ggX8_comes_X8_gap : GoodIn wsX8_comes wsX8_gap := goodIn_r _ [6, 7, 8, 9, 5, 10, 1, 11, 12, 13, 14, 15, 16, 17, 18, 19, 20, 21, 22, 23, 24, 25, 26, 27, 28] rfl (by decide +kernel)
set_option maxRecDepth 20000 in
theorem gX8_comes_X8_gap : GoodIn wsX8_comes (wsV RX8 73 RX8 yX8_gap wsX8_gap) := goodIn_app (goodIn_of _ (by decide +kernel)) ggX8_comes_X8_gap
theorem dX8_comes_0 : decode cX8_comes 0 = .ok (.iload_n 2, 1) := by decide +kernel
theorem dX8_comes_1 : decode cX8_comes 1 = .ok (.istore_n 3, 1) := by decide +kernel
theorem dX8_comes_2 : decode cX8_comes 2 = .ok (.aload_n 0, 1) := by decide +kernel
theorem dX8_comes_3 : decode cX8_comes 3 = .ok (.iload_n 1, 1) := by decide +kernel
theorem dX8_comes_4 : decode cX8_comes 4 = .ok (.invokevirtual 73, 3) := by decide +kernel
theorem dX8_comes_7 : decode cX8_comes 7 = .ok (.istore 4, 2) := by decide +kernel
theorem dX8_comes_9 : decode cX8_comes 9 = .ok (.iload_n 3, 1) := by decide +kernel
theorem dX8_comes_10 : decode cX8_comes 10 = .ok (.ifCond .le 166, 3) := by decide +kernel
theorem dX8_comes_13 : decode cX8_comes 13 = .ok (.aload_n 0, 1) := by decide +kernel
theorem dX8_comes_14 : decode cX8_comes 14 = .ok (.getfield 7, 3) := by decide +kernel
theorem dX8_comes_17 : decode cX8_comes 17 = .ok (.bipush 23, 2) := by decide +kernel
theorem dX8_comes_19 : decode cX8_comes 19 = .ok (.iaload, 1) := by decide +kernel
theorem dX8_comes_20 : decode cX8_comes 20 = .ok (.iload_n 3, 1) := by decide +kernel
theorem dX8_comes_21 : decode cX8_comes 21 = .ok (.if_icmp .ge 13, 3) := by decide +kernel
theorem dX8_comes_24 : decode cX8_comes 24 = .ok (.aload_n 0, 1) := by decide +kernel
theorem dX8_comes_25 : decode cX8_comes 25 = .ok (.getfield 7, 3) := by decide +kernel
theorem dX8_comes_28 : decode cX8_comes 28 = .ok (.bipush 23, 2) := by decide +kernel
theorem dX8_comes_30 : decode cX8_comes 30 = .ok (.iaload, 1) := by decide +kernel
theorem dX8_comes_31 : decode cX8_comes 31 = .ok (.goto 4, 3) := by decide +kernel
theorem dX8_comes_34 : decode cX8_comes 34 = .ok (.iload_n 3, 1) := by decide +kernel
theorem dX8_comes_35 : decode cX8_comes 35 = .ok (.istore 5, 2) := by decide +kernel
theorem dX8_comes_37 : decode cX8_comes 37 = .ok (.aload_n 0, 1) := by decide +kernel
theorem dX8_comes_38 : decode cX8_comes 38 = .ok (.getfield 7, 3) := by decide +kernel
theorem dX8_comes_41 : decode cX8_comes 41 = .ok (.bipush 35, 2) := by decide +kernel
theorem dX8_comes_43 : decode cX8_comes 43 = .ok (.aload_n 0, 1) := by decide +kernel
theorem dX8_comes_44 : decode cX8_comes 44 = .ok (.getfield 7, 3) := by decide +kernel
theorem dX8_comes_47 : decode cX8_comes 47 = .ok (.bipush 34, 2) := by decide +kernel
theorem dX8_comes_49 : decode cX8_comes 49 = .ok (.iaload, 1) := by decide +kernel
theorem dX8_comes_50 : decode cX8_comes 50 = .ok (.iadd, 1) := by decide +kernel
theorem dX8_comes_51 : decode cX8_comes 51 = .ok (.iload 5, 2) := by decide +kernel
theorem dX8_comes_53 : decode cX8_comes 53 = .ok (.sipush 512, 3) := by decide +kernel
theorem dX8_comes_56 : decode cX8_comes 56 = .ok (.aload_n 0, 1) := by decide +kernel
theorem dX8_comes_57 : decode cX8_comes 57 = .ok (.getfield 7, 3) := by decide +kernel
theorem dX8_comes_60 : decode cX8_comes 60 = .ok (.bipush 22, 2) := by decide +kernel
theorem dX8_comes_62 : decode cX8_comes 62 = .ok (.iaload, 1) := by decide +kernel
theorem dX8_comes_63 : decode cX8_comes 63 = .ok (.imul, 1) := by decide +kernel
theorem dX8_comes_64 : decode cX8_comes 64 = .ok (.iadd, 1) := by decide +kernel
theorem dX8_comes_65 : decode cX8_comes 65 = .ok (.sipush 1024, 3) := by decide +kernel
theorem dX8_comes_68 : decode cX8_comes 68 = .ok (.iload_n 1, 1) := by decide +kernel
theorem dX8_comes_69 : decode cX8_comes 69 = .ok (.imul, 1) := by decide +kernel
theorem dX8_comes_70 : decode cX8_comes 70 = .ok (.iadd, 1) := by decide +kernel
theorem dX8_comes_71 : decode cX8_comes 71 = .ok (.sipush 2048, 3) := by decide +kernel
theorem dX8_comes_74 : decode cX8_comes 74 = .ok (.iload 4, 2) := by decide +kernel
theorem dX8_comes_76 : decode cX8_comes 76 = .ok (.imul, 1) := by decide +kernel
theorem dX8_comes_77 : decode cX8_comes 77 = .ok (.iadd, 1) := by decide +kernel
theorem dX8_comes_78 : decode cX8_comes 78 = .ok (.iastore, 1) := by decide +kernel
theorem dX8_comes_79 : decode cX8_comes 79 = .ok (.aload_n 0, 1) := by decide +kernel
theorem dX8_comes_80 : decode cX8_comes 80 = .ok (.getfield 7, 3) := by decide +kernel
theorem dX8_comes_83 : decode cX8_comes 83 = .ok (.bipush 34, 2) := by decide +kernel
theorem dX8_comes_85 : decode cX8_comes 85 = .ok (.dup2, 1) := by decide +kernel
theorem dX8_comes_86 : decode cX8_comes 86 = .ok (.iaload, 1) := by decide +kernel
theorem dX8_comes_87 : decode cX8_comes 87 = .ok (.iconst 1, 1) := by decide +kernel
theorem dX8_comes_88 : decode cX8_comes 88 = .ok (.iadd, 1) := by decide +kernel
theorem dX8_comes_89 : decode cX8_comes 89 = .ok (.iastore, 1) := by decide +kernel
theorem dX8_comes_90 : decode cX8_comes 90 = .ok (.aload_n 0, 1) := by decide +kernel
theorem dX8_comes_91 : decode cX8_comes 91 = .ok (.getfield 7, 3) := by decide +kernel
theorem dX8_comes_94 : decode cX8_comes 94 = .ok (.bipush 23, 2) := by decide +kernel
theorem dX8_comes_96 : decode cX8_comes 96 = .ok (.dup2, 1) := by decide +kernel
theorem dX8_comes_97 : decode cX8_comes 97 = .ok (.iaload, 1) := by decide +kernel
theorem dX8_comes_98 : decode cX8_comes 98 = .ok (.iload 5, 2) := by decide +kernel
theorem dX8_comes_100 : decode cX8_comes 100 = .ok (.isub, 1) := by decide +kernel
theorem dX8_comes_101 : decode cX8_comes 101 = .ok (.iastore, 1) := by decide +kernel
theorem dX8_comes_102 : decode cX8_comes 102 = .ok (.iload_n 3, 1) := by decide +kernel
theorem dX8_comes_103 : decode cX8_comes 103 = .ok (.iload 5, 2) := by decide +kernel
theorem dX8_comes_105 : decode cX8_comes 105 = .ok (.isub, 1) := by decide +kernel
theorem dX8_comes_106 : decode cX8_comes 106 = .ok (.istore_n 3, 1) := by decide +kernel
theorem dX8_comes_107 : decode cX8_comes 107 = .ok (.aload_n 0, 1) := by decide +kernel
theorem dX8_comes_108 : decode cX8_comes 108 = .ok (.getfield 7, 3) := by decide +kernel
theorem dX8_comes_111 : decode cX8_comes 111 = .ok (.bipush 23, 2) := by decide +kernel
theorem dX8_comes_113 : decode cX8_comes 113 = .ok (.iaload, 1) := by decide +kernel
theorem dX8_comes_114 : decode cX8_comes 114 = .ok (.ifCond .ne 59, 3) := by decide +kernel
theorem dX8_comes_117 : decode cX8_comes 117 = .ok (.aload_n 0, 1) := by decide +kernel
theorem dX8_comes_118 : decode cX8_comes 118 = .ok (.getfield 7, 3) := by decide +kernel
theorem dX8_comes_121 : decode cX8_comes 121 = .ok (.bipush 21, 2) := by decide +kernel
theorem dX8_comes_123 : decode cX8_comes 123 = .ok (.dup2, 1) := by decide +kernel
theorem dX8_comes_124 : decode cX8_comes 124 = .ok (.iaload, 1) := by decide +kernel
theorem dX8_comes_125 : decode cX8_comes 125 = .ok (.iconst 1, 1) := by decide +kernel
theorem dX8_comes_126 : decode cX8_comes 126 = .ok (.isub, 1) := by decide +kernel
theorem dX8_comes_127 : decode cX8_comes 127 = .ok (.iastore, 1) := by decide +kernel
theorem dX8_comes_128 : decode cX8_comes 128 = .ok (.iconst 0, 1) := by decide +kernel
theorem dX8_comes_129 : decode cX8_comes 129 = .ok (.istore 6, 2) := by decide +kernel
theorem dX8_comes_131 : decode cX8_comes 131 = .ok (.iload 6, 2) := by decide +kernel
theorem dX8_comes_133 : decode cX8_comes 133 = .ok (.iconst 2, 1) := by decide +kernel
theorem dX8_comes_134 : decode cX8_comes 134 = .ok (.aload_n 0, 1) := by decide +kernel
theorem dX8_comes_135 : decode cX8_comes 135 = .ok (.getfield 7, 3) := by decide +kernel
theorem dX8_comes_138 : decode cX8_comes 138 = .ok (.bipush 21, 2) := by decide +kernel
theorem dX8_comes_140 : decode cX8_comes 140 = .ok (.iaload, 1) := by decide +kernel
theorem dX8_comes_141 : decode cX8_comes 141 = .ok (.imul, 1) := by decide +kernel
theorem dX8_comes_142 : decode cX8_comes 142 = .ok (.if_icmp .ge 31, 3) := by decide +kernel
theorem dX8_comes_145 : decode cX8_comes 145 = .ok (.aload_n 0, 1) := by decide +kernel
theorem dX8_comes_146 : decode cX8_comes 146 = .ok (.getfield 7, 3) := by decide +kernel
theorem dX8_comes_149 : decode cX8_comes 149 = .ok (.bipush 22, 2) := by decide +kernel
theorem dX8_comes_151 : decode cX8_comes 151 = .ok (.iload 6, 2) := by decide +kernel
theorem dX8_comes_153 : decode cX8_comes 153 = .ok (.iadd, 1) := by decide +kernel
theorem dX8_comes_154 : decode cX8_comes 154 = .ok (.aload_n 0, 1) := by decide +kernel
theorem dX8_comes_155 : decode cX8_comes 155 = .ok (.getfield 7, 3) := by decide +kernel
theorem dX8_comes_158 : decode cX8_comes 158 = .ok (.bipush 22, 2) := by decide +kernel
theorem dX8_comes_160 : decode cX8_comes 160 = .ok (.iload 6, 2) := by decide +kernel
theorem dX8_comes_162 : decode cX8_comes 162 = .ok (.iadd, 1) := by decide +kernel
theorem dX8_comes_163 : decode cX8_comes 163 = .ok (.iconst 2, 1) := by decide +kernel
theorem dX8_comes_164 : decode cX8_comes 164 = .ok (.iadd, 1) := by decide +kernel
theorem dX8_comes_165 : decode cX8_comes 165 = .ok (.iaload, 1) := by decide +kernel
theorem dX8_comes_166 : decode cX8_comes 166 = .ok (.iastore, 1) := by decide +kernel
theorem dX8_comes_167 : decode cX8_comes 167 = .ok (.iinc 6 1, 3) := by decide +kernel
theorem dX8_comes_170 : decode cX8_comes 170 = .ok (.goto (-39), 3) := by decide +kernel
theorem dX8_comes_173 : decode cX8_comes 173 = .ok (.goto (-164), 3) := by decide +kernel
theorem dX8_comes_176 : decode cX8_comes 176 = .ok (.return_, 1) := by decide +kernel
set_option maxRecDepth 20000 in
theorem ggX8_overflows_X8_amounts : GoodIn wsX8_overflows wsX8_amounts := goodIn_r _ [6, 1, 7, 8, 5, 9, 10, 11, 12, 13, 14, 15, 16, 17, 18, 19, 20, 21, 22, 23, 24] rfl (by decide +kernel)
set_option maxRecDepth 20000 in
theorem gX8_overflows_X8_amounts : GoodIn wsX8_overflows (wsV RX8 76 RX8 yX8_amounts wsX8_amounts) := goodIn_app (goodIn_of _ (by decide +kernel)) ggX8_overflows_X8_amounts
set_option maxRecDepth 20000 in
theorem ggX8_overflows_X8_amountOf : GoodIn wsX8_overflows wsX8_amountOf := goodIn_r _ [9] rfl (by decide +kernel)
set_option maxRecDepth 20000 in
theorem gX8_overflows_X8_amountOf : GoodIn wsX8_overflows (va_wsS RX8 47 yX8_amountOf wsX8_amountOf) := goodIn_app (goodIn_of _ (by decide +kernel)) ggX8_overflows_X8_amountOf
theorem dX8_overflows_0 : decode cX8_overflows 0 = .ok (.aload_n 0, 1) := by decide +kernel
theorem dX8_overflows_1 : decode cX8_overflows 1 = .ok (.bipush 34, 2) := by decide +kernel
theorem dX8_overflows_3 : decode cX8_overflows 3 = .ok (.bipush 35, 2) := by decide +kernel
theorem dX8_overflows_5 : decode cX8_overflows 5 = .ok (.invokevirtual 76, 3) := by decide +kernel
theorem dX8_overflows_8 : decode cX8_overflows 8 = .ok (.aload_n 0, 1) := by decide +kernel
theorem dX8_overflows_9 : decode cX8_overflows 9 = .ok (.getfield 7, 3) := by decide +kernel
theorem dX8_overflows_12 : decode cX8_overflows 12 = .ok (.bipush 9, 2) := by decide +kernel
theorem dX8_overflows_14 : decode cX8_overflows 14 = .ok (.iaload, 1) := by decide +kernel
theorem dX8_overflows_15 : decode cX8_overflows 15 = .ok (.isub, 1) := by decide +kernel
theorem dX8_overflows_16 : decode cX8_overflows 16 = .ok (.istore_n 1, 1) := by decide +kernel
theorem dX8_overflows_17 : decode cX8_overflows 17 = .ok (.iload_n 1, 1) := by decide +kernel
theorem dX8_overflows_18 : decode cX8_overflows 18 = .ok (.ifCond .le 150, 3) := by decide +kernel
theorem dX8_overflows_21 : decode cX8_overflows 21 = .ok (.aload_n 0, 1) := by decide +kernel
theorem dX8_overflows_22 : decode cX8_overflows 22 = .ok (.getfield 7, 3) := by decide +kernel
theorem dX8_overflows_25 : decode cX8_overflows 25 = .ok (.bipush 35, 2) := by decide +kernel
theorem dX8_overflows_27 : decode cX8_overflows 27 = .ok (.iaload, 1) := by decide +kernel
theorem dX8_overflows_28 : decode cX8_overflows 28 = .ok (.istore_n 2, 1) := by decide +kernel
theorem dX8_overflows_29 : decode cX8_overflows 29 = .ok (.iload_n 2, 1) := by decide +kernel
theorem dX8_overflows_30 : decode cX8_overflows 30 = .ok (.invokestatic 47, 3) := by decide +kernel
theorem dX8_overflows_33 : decode cX8_overflows 33 = .ok (.iload_n 1, 1) := by decide +kernel
theorem dX8_overflows_34 : decode cX8_overflows 34 = .ok (.if_icmp .ge 10, 3) := by decide +kernel
theorem dX8_overflows_37 : decode cX8_overflows 37 = .ok (.iload_n 2, 1) := by decide +kernel
theorem dX8_overflows_38 : decode cX8_overflows 38 = .ok (.invokestatic 47, 3) := by decide +kernel
theorem dX8_overflows_41 : decode cX8_overflows 41 = .ok (.goto 4, 3) := by decide +kernel
theorem dX8_overflows_44 : decode cX8_overflows 44 = .ok (.iload_n 1, 1) := by decide +kernel
theorem dX8_overflows_45 : decode cX8_overflows 45 = .ok (.istore_n 3, 1) := by decide +kernel
theorem dX8_overflows_46 : decode cX8_overflows 46 = .ok (.aload_n 0, 1) := by decide +kernel
theorem dX8_overflows_47 : decode cX8_overflows 47 = .ok (.getfield 7, 3) := by decide +kernel
theorem dX8_overflows_50 : decode cX8_overflows 50 = .ok (.sipush 146, 3) := by decide +kernel
theorem dX8_overflows_53 : decode cX8_overflows 53 = .ok (.aload_n 0, 1) := by decide +kernel
theorem dX8_overflows_54 : decode cX8_overflows 54 = .ok (.getfield 7, 3) := by decide +kernel
theorem dX8_overflows_57 : decode cX8_overflows 57 = .ok (.sipush 145, 3) := by decide +kernel
theorem dX8_overflows_60 : decode cX8_overflows 60 = .ok (.iaload, 1) := by decide +kernel
theorem dX8_overflows_61 : decode cX8_overflows 61 = .ok (.iadd, 1) := by decide +kernel
theorem dX8_overflows_62 : decode cX8_overflows 62 = .ok (.iload_n 2, 1) := by decide +kernel
theorem dX8_overflows_63 : decode cX8_overflows 63 = .ok (.iload_n 2, 1) := by decide +kernel
theorem dX8_overflows_64 : decode cX8_overflows 64 = .ok (.invokestatic 47, 3) := by decide +kernel
theorem dX8_overflows_67 : decode cX8_overflows 67 = .ok (.isub, 1) := by decide +kernel
theorem dX8_overflows_68 : decode cX8_overflows 68 = .ok (.iload_n 3, 1) := by decide +kernel
theorem dX8_overflows_69 : decode cX8_overflows 69 = .ok (.iadd, 1) := by decide +kernel
theorem dX8_overflows_70 : decode cX8_overflows 70 = .ok (.iastore, 1) := by decide +kernel
theorem dX8_overflows_71 : decode cX8_overflows 71 = .ok (.aload_n 0, 1) := by decide +kernel
theorem dX8_overflows_72 : decode cX8_overflows 72 = .ok (.getfield 7, 3) := by decide +kernel
theorem dX8_overflows_75 : decode cX8_overflows 75 = .ok (.sipush 145, 3) := by decide +kernel
theorem dX8_overflows_78 : decode cX8_overflows 78 = .ok (.dup2, 1) := by decide +kernel
theorem dX8_overflows_79 : decode cX8_overflows 79 = .ok (.iaload, 1) := by decide +kernel
theorem dX8_overflows_80 : decode cX8_overflows 80 = .ok (.iconst 1, 1) := by decide +kernel
theorem dX8_overflows_81 : decode cX8_overflows 81 = .ok (.iadd, 1) := by decide +kernel
theorem dX8_overflows_82 : decode cX8_overflows 82 = .ok (.iastore, 1) := by decide +kernel
theorem dX8_overflows_83 : decode cX8_overflows 83 = .ok (.aload_n 0, 1) := by decide +kernel
theorem dX8_overflows_84 : decode cX8_overflows 84 = .ok (.getfield 7, 3) := by decide +kernel
theorem dX8_overflows_87 : decode cX8_overflows 87 = .ok (.bipush 35, 2) := by decide +kernel
theorem dX8_overflows_89 : decode cX8_overflows 89 = .ok (.dup2, 1) := by decide +kernel
theorem dX8_overflows_90 : decode cX8_overflows 90 = .ok (.iaload, 1) := by decide +kernel
theorem dX8_overflows_91 : decode cX8_overflows 91 = .ok (.iload_n 3, 1) := by decide +kernel
theorem dX8_overflows_92 : decode cX8_overflows 92 = .ok (.isub, 1) := by decide +kernel
theorem dX8_overflows_93 : decode cX8_overflows 93 = .ok (.iastore, 1) := by decide +kernel
theorem dX8_overflows_94 : decode cX8_overflows 94 = .ok (.iload_n 1, 1) := by decide +kernel
theorem dX8_overflows_95 : decode cX8_overflows 95 = .ok (.iload_n 3, 1) := by decide +kernel
theorem dX8_overflows_96 : decode cX8_overflows 96 = .ok (.isub, 1) := by decide +kernel
theorem dX8_overflows_97 : decode cX8_overflows 97 = .ok (.istore_n 1, 1) := by decide +kernel
theorem dX8_overflows_98 : decode cX8_overflows 98 = .ok (.aload_n 0, 1) := by decide +kernel
theorem dX8_overflows_99 : decode cX8_overflows 99 = .ok (.getfield 7, 3) := by decide +kernel
theorem dX8_overflows_102 : decode cX8_overflows 102 = .ok (.bipush 35, 2) := by decide +kernel
theorem dX8_overflows_104 : decode cX8_overflows 104 = .ok (.iaload, 1) := by decide +kernel
theorem dX8_overflows_105 : decode cX8_overflows 105 = .ok (.invokestatic 47, 3) := by decide +kernel
theorem dX8_overflows_108 : decode cX8_overflows 108 = .ok (.ifCond .ne 57, 3) := by decide +kernel
theorem dX8_overflows_111 : decode cX8_overflows 111 = .ok (.aload_n 0, 1) := by decide +kernel
theorem dX8_overflows_112 : decode cX8_overflows 112 = .ok (.getfield 7, 3) := by decide +kernel
theorem dX8_overflows_115 : decode cX8_overflows 115 = .ok (.bipush 34, 2) := by decide +kernel
theorem dX8_overflows_117 : decode cX8_overflows 117 = .ok (.dup2, 1) := by decide +kernel
theorem dX8_overflows_118 : decode cX8_overflows 118 = .ok (.iaload, 1) := by decide +kernel
theorem dX8_overflows_119 : decode cX8_overflows 119 = .ok (.iconst 1, 1) := by decide +kernel
theorem dX8_overflows_120 : decode cX8_overflows 120 = .ok (.isub, 1) := by decide +kernel
theorem dX8_overflows_121 : decode cX8_overflows 121 = .ok (.iastore, 1) := by decide +kernel
theorem dX8_overflows_122 : decode cX8_overflows 122 = .ok (.iconst 0, 1) := by decide +kernel
theorem dX8_overflows_123 : decode cX8_overflows 123 = .ok (.istore 4, 2) := by decide +kernel
theorem dX8_overflows_125 : decode cX8_overflows 125 = .ok (.iload 4, 2) := by decide +kernel
theorem dX8_overflows_127 : decode cX8_overflows 127 = .ok (.aload_n 0, 1) := by decide +kernel
theorem dX8_overflows_128 : decode cX8_overflows 128 = .ok (.getfield 7, 3) := by decide +kernel
theorem dX8_overflows_131 : decode cX8_overflows 131 = .ok (.bipush 34, 2) := by decide +kernel
theorem dX8_overflows_133 : decode cX8_overflows 133 = .ok (.iaload, 1) := by decide +kernel
theorem dX8_overflows_134 : decode cX8_overflows 134 = .ok (.if_icmp .ge 31, 3) := by decide +kernel
theorem dX8_overflows_137 : decode cX8_overflows 137 = .ok (.aload_n 0, 1) := by decide +kernel
theorem dX8_overflows_138 : decode cX8_overflows 138 = .ok (.getfield 7, 3) := by decide +kernel
theorem dX8_overflows_141 : decode cX8_overflows 141 = .ok (.bipush 35, 2) := by decide +kernel
theorem dX8_overflows_143 : decode cX8_overflows 143 = .ok (.iload 4, 2) := by decide +kernel
theorem dX8_overflows_145 : decode cX8_overflows 145 = .ok (.iadd, 1) := by decide +kernel
theorem dX8_overflows_146 : decode cX8_overflows 146 = .ok (.aload_n 0, 1) := by decide +kernel
theorem dX8_overflows_147 : decode cX8_overflows 147 = .ok (.getfield 7, 3) := by decide +kernel
theorem dX8_overflows_150 : decode cX8_overflows 150 = .ok (.bipush 35, 2) := by decide +kernel
theorem dX8_overflows_152 : decode cX8_overflows 152 = .ok (.iload 4, 2) := by decide +kernel
theorem dX8_overflows_154 : decode cX8_overflows 154 = .ok (.iadd, 1) := by decide +kernel
theorem dX8_overflows_155 : decode cX8_overflows 155 = .ok (.iconst 1, 1) := by decide +kernel
theorem dX8_overflows_156 : decode cX8_overflows 156 = .ok (.iadd, 1) := by decide +kernel
theorem dX8_overflows_157 : decode cX8_overflows 157 = .ok (.iaload, 1) := by decide +kernel
theorem dX8_overflows_158 : decode cX8_overflows 158 = .ok (.iastore, 1) := by decide +kernel
theorem dX8_overflows_159 : decode cX8_overflows 159 = .ok (.iinc 4 1, 3) := by decide +kernel
theorem dX8_overflows_162 : decode cX8_overflows 162 = .ok (.goto (-37), 3) := by decide +kernel
theorem dX8_overflows_165 : decode cX8_overflows 165 = .ok (.goto (-148), 3) := by decide +kernel
theorem dX8_overflows_168 : decode cX8_overflows 168 = .ok (.return_, 1) := by decide +kernel
set_option maxRecDepth 20000 in
theorem ggX8_couldGrind_X8_isOne : GoodIn wsX8_couldGrind wsX8_isOne := goodIn_r _ [8, 9, 10, 7, 11] rfl (by decide +kernel)
set_option maxRecDepth 20000 in
theorem gX8_couldGrind_X8_isOne : GoodIn wsX8_couldGrind (va_wsS RX8 60 yX8_isOne wsX8_isOne) := goodIn_app (goodIn_of _ (by decide +kernel)) ggX8_couldGrind_X8_isOne
set_option maxRecDepth 20000 in
theorem ggX8_couldGrind_X8_in : GoodIn wsX8_couldGrind wsX8_in := goodIn_r _ [11] rfl (by decide +kernel)
set_option maxRecDepth 20000 in
theorem gX8_couldGrind_X8_in : GoodIn wsX8_couldGrind (va_wsS RX8 28 yX8_in wsX8_in) := goodIn_app (goodIn_of _ (by decide +kernel)) ggX8_couldGrind_X8_in
set_option maxRecDepth 20000 in
theorem ggX8_couldGrind_X8_hopper : GoodIn wsX8_couldGrind wsX8_hopper := goodIn_r _ [15, 3, 23, 24, 25, 26, 27, 28, 29, 30, 31, 32, 33, 34, 35, 36, 37] rfl (by decide +kernel)
set_option maxRecDepth 20000 in
theorem gX8_couldGrind_X8_hopper : GoodIn wsX8_couldGrind (wsV RX8 65 RX8 yX8_hopper wsX8_hopper) := goodIn_app (goodIn_of _ (by decide +kernel)) ggX8_couldGrind_X8_hopper
set_option maxRecDepth 20000 in
theorem ggX8_couldGrind_X8_amounts : GoodIn wsX8_couldGrind wsX8_amounts := goodIn_r _ [19, 3, 20, 21, 7, 22, 23, 24, 25, 26, 27, 28, 29, 30, 31, 32, 33, 34, 35, 36, 37] rfl (by decide +kernel)
set_option maxRecDepth 20000 in
theorem gX8_couldGrind_X8_amounts : GoodIn wsX8_couldGrind (wsV RX8 76 RX8 yX8_amounts wsX8_amounts) := goodIn_app (goodIn_of _ (by decide +kernel)) ggX8_couldGrind_X8_amounts
theorem dX8_couldGrind_0 : decode cX8_couldGrind 0 = .ok (.iload_n 1, 1) := by decide +kernel
theorem dX8_couldGrind_1 : decode cX8_couldGrind 1 = .ok (.invokestatic 60, 3) := by decide +kernel
theorem dX8_couldGrind_4 : decode cX8_couldGrind 4 = .ok (.ifCond .eq 14, 3) := by decide +kernel
theorem dX8_couldGrind_7 : decode cX8_couldGrind 7 = .ok (.iload_n 2, 1) := by decide +kernel
theorem dX8_couldGrind_8 : decode cX8_couldGrind 8 = .ok (.iconst 1, 1) := by decide +kernel
theorem dX8_couldGrind_9 : decode cX8_couldGrind 9 = .ok (.sipush 400, 3) := by decide +kernel
theorem dX8_couldGrind_12 : decode cX8_couldGrind 12 = .ok (.invokestatic 28, 3) := by decide +kernel
theorem dX8_couldGrind_15 : decode cX8_couldGrind 15 = .ok (.ifCond .ne 6, 3) := by decide +kernel
theorem dX8_couldGrind_18 : decode cX8_couldGrind 18 = .ok (.ldc 64, 2) := by decide +kernel
theorem dX8_couldGrind_20 : decode cX8_couldGrind 20 = .ok (.ireturn, 1) := by decide +kernel
theorem dX8_couldGrind_21 : decode cX8_couldGrind 21 = .ok (.aload_n 0, 1) := by decide +kernel
theorem dX8_couldGrind_22 : decode cX8_couldGrind 22 = .ok (.invokevirtual 65, 3) := by decide +kernel
theorem dX8_couldGrind_25 : decode cX8_couldGrind 25 = .ok (.iload_n 2, 1) := by decide +kernel
theorem dX8_couldGrind_26 : decode cX8_couldGrind 26 = .ok (.if_icmp .ge 6, 3) := by decide +kernel
theorem dX8_couldGrind_29 : decode cX8_couldGrind 29 = .ok (.ldc 79, 2) := by decide +kernel
theorem dX8_couldGrind_31 : decode cX8_couldGrind 31 = .ok (.ireturn, 1) := by decide +kernel
theorem dX8_couldGrind_32 : decode cX8_couldGrind 32 = .ok (.aload_n 0, 1) := by decide +kernel
theorem dX8_couldGrind_33 : decode cX8_couldGrind 33 = .ok (.bipush 34, 2) := by decide +kernel
theorem dX8_couldGrind_35 : decode cX8_couldGrind 35 = .ok (.bipush 35, 2) := by decide +kernel
theorem dX8_couldGrind_37 : decode cX8_couldGrind 37 = .ok (.invokevirtual 76, 3) := by decide +kernel
theorem dX8_couldGrind_40 : decode cX8_couldGrind 40 = .ok (.iload_n 2, 1) := by decide +kernel
theorem dX8_couldGrind_41 : decode cX8_couldGrind 41 = .ok (.iadd, 1) := by decide +kernel
theorem dX8_couldGrind_42 : decode cX8_couldGrind 42 = .ok (.aload_n 0, 1) := by decide +kernel
theorem dX8_couldGrind_43 : decode cX8_couldGrind 43 = .ok (.getfield 7, 3) := by decide +kernel
theorem dX8_couldGrind_46 : decode cX8_couldGrind 46 = .ok (.bipush 9, 2) := by decide +kernel
theorem dX8_couldGrind_48 : decode cX8_couldGrind 48 = .ok (.iaload, 1) := by decide +kernel
theorem dX8_couldGrind_49 : decode cX8_couldGrind 49 = .ok (.isub, 1) := by decide +kernel
theorem dX8_couldGrind_50 : decode cX8_couldGrind 50 = .ok (.istore_n 3, 1) := by decide +kernel
theorem dX8_couldGrind_51 : decode cX8_couldGrind 51 = .ok (.iload_n 3, 1) := by decide +kernel
theorem dX8_couldGrind_52 : decode cX8_couldGrind 52 = .ok (.ifCond .ge 7, 3) := by decide +kernel
theorem dX8_couldGrind_55 : decode cX8_couldGrind 55 = .ok (.iconst 0, 1) := by decide +kernel
theorem dX8_couldGrind_56 : decode cX8_couldGrind 56 = .ok (.goto 4, 3) := by decide +kernel
theorem dX8_couldGrind_59 : decode cX8_couldGrind 59 = .ok (.iload_n 3, 1) := by decide +kernel
theorem dX8_couldGrind_60 : decode cX8_couldGrind 60 = .ok (.istore_n 3, 1) := by decide +kernel
theorem dX8_couldGrind_61 : decode cX8_couldGrind 61 = .ok (.aload_n 0, 1) := by decide +kernel
theorem dX8_couldGrind_62 : decode cX8_couldGrind 62 = .ok (.sipush 145, 3) := by decide +kernel
theorem dX8_couldGrind_65 : decode cX8_couldGrind 65 = .ok (.sipush 146, 3) := by decide +kernel
theorem dX8_couldGrind_68 : decode cX8_couldGrind 68 = .ok (.invokevirtual 76, 3) := by decide +kernel
theorem dX8_couldGrind_71 : decode cX8_couldGrind 71 = .ok (.iload_n 3, 1) := by decide +kernel
theorem dX8_couldGrind_72 : decode cX8_couldGrind 72 = .ok (.iadd, 1) := by decide +kernel
theorem dX8_couldGrind_73 : decode cX8_couldGrind 73 = .ok (.sipush 400, 3) := by decide +kernel
theorem dX8_couldGrind_76 : decode cX8_couldGrind 76 = .ok (.if_icmp .le 8, 3) := by decide +kernel
theorem dX8_couldGrind_79 : decode cX8_couldGrind 79 = .ok (.ldc 69, 2) := by decide +kernel
theorem dX8_couldGrind_81 : decode cX8_couldGrind 81 = .ok (.goto 4, 3) := by decide +kernel
theorem dX8_couldGrind_84 : decode cX8_couldGrind 84 = .ok (.iload_n 3, 1) := by decide +kernel
theorem dX8_couldGrind_85 : decode cX8_couldGrind 85 = .ok (.ireturn, 1) := by decide +kernel
set_option maxRecDepth 20000 in
theorem ggX8_grinds_X8_comes : GoodIn wsX8_grinds wsX8_comes := goodIn_r _ [6, 1, 7, 8, 9, 5, 10, 11, 12, 13, 14, 15, 16, 17, 29, 30, 31, 32, 33, 34, 35, 36, 37, 38, 39, 40, 41, 42, 43] rfl (by decide +kernel)
set_option maxRecDepth 20000 in
theorem gX8_grinds_X8_comes : GoodIn wsX8_grinds (wsV RX8 80 RX8 yX8_comes wsX8_comes) := goodIn_app (goodIn_of _ (by decide +kernel)) ggX8_grinds_X8_comes
set_option maxRecDepth 20000 in
theorem ggX8_grinds_X8_ofBurr : GoodIn wsX8_grinds wsX8_ofBurr := goodIn_r _ [14, 1, 29, 30, 31, 32, 33, 34, 35, 36, 37, 38, 39, 40, 41, 42, 43] rfl (by decide +kernel)
set_option maxRecDepth 20000 in
theorem gX8_grinds_X8_ofBurr : GoodIn wsX8_grinds (wsV RX8 50 RX8 yX8_ofBurr wsX8_ofBurr) := goodIn_app (goodIn_of _ (by decide +kernel)) ggX8_grinds_X8_ofBurr
set_option maxRecDepth 20000 in
theorem ggX8_grinds_X8_overflows : GoodIn wsX8_grinds wsX8_overflows := goodIn_r _ [21, 1, 22, 23, 24, 5, 25, 26, 27, 28, 29, 30, 31, 32, 33, 34, 35, 36, 37, 38, 39, 40, 41, 42, 43] rfl (by decide +kernel)
set_option maxRecDepth 20000 in
theorem gX8_grinds_X8_overflows : GoodIn wsX8_grinds (wsV RX8 84 RX8 yX8_overflows wsX8_overflows) := goodIn_app (goodIn_of _ (by decide +kernel)) ggX8_grinds_X8_overflows
theorem dX8_grinds_0 : decode cX8_grinds 0 = .ok (.aload_n 0, 1) := by decide +kernel
theorem dX8_grinds_1 : decode cX8_grinds 1 = .ok (.iload_n 1, 1) := by decide +kernel
theorem dX8_grinds_2 : decode cX8_grinds 2 = .ok (.iload_n 2, 1) := by decide +kernel
theorem dX8_grinds_3 : decode cX8_grinds 3 = .ok (.invokevirtual 80, 3) := by decide +kernel
theorem dX8_grinds_6 : decode cX8_grinds 6 = .ok (.aload_n 0, 1) := by decide +kernel
theorem dX8_grinds_7 : decode cX8_grinds 7 = .ok (.iload_n 1, 1) := by decide +kernel
theorem dX8_grinds_8 : decode cX8_grinds 8 = .ok (.iconst 1, 1) := by decide +kernel
theorem dX8_grinds_9 : decode cX8_grinds 9 = .ok (.invokevirtual 50, 3) := by decide +kernel
theorem dX8_grinds_12 : decode cX8_grinds 12 = .ok (.iload_n 2, 1) := by decide +kernel
theorem dX8_grinds_13 : decode cX8_grinds 13 = .ok (.iconst 4, 1) := by decide +kernel
theorem dX8_grinds_14 : decode cX8_grinds 14 = .ok (.idiv, 1) := by decide +kernel
theorem dX8_grinds_15 : decode cX8_grinds 15 = .ok (.iadd, 1) := by decide +kernel
theorem dX8_grinds_16 : decode cX8_grinds 16 = .ok (.istore_n 3, 1) := by decide +kernel
theorem dX8_grinds_17 : decode cX8_grinds 17 = .ok (.aload_n 0, 1) := by decide +kernel
theorem dX8_grinds_18 : decode cX8_grinds 18 = .ok (.getfield 7, 3) := by decide +kernel
theorem dX8_grinds_21 : decode cX8_grinds 21 = .ok (.bipush 13, 2) := by decide +kernel
theorem dX8_grinds_23 : decode cX8_grinds 23 = .ok (.iconst 4, 1) := by decide +kernel
theorem dX8_grinds_24 : decode cX8_grinds 24 = .ok (.iload_n 1, 1) := by decide +kernel
theorem dX8_grinds_25 : decode cX8_grinds 25 = .ok (.imul, 1) := by decide +kernel
theorem dX8_grinds_26 : decode cX8_grinds 26 = .ok (.iadd, 1) := by decide +kernel
theorem dX8_grinds_27 : decode cX8_grinds 27 = .ok (.iconst 1, 1) := by decide +kernel
theorem dX8_grinds_28 : decode cX8_grinds 28 = .ok (.iadd, 1) := by decide +kernel
theorem dX8_grinds_29 : decode cX8_grinds 29 = .ok (.iload_n 3, 1) := by decide +kernel
theorem dX8_grinds_30 : decode cX8_grinds 30 = .ok (.sipush 300, 3) := by decide +kernel
theorem dX8_grinds_33 : decode cX8_grinds 33 = .ok (.if_icmp .le 9, 3) := by decide +kernel
theorem dX8_grinds_36 : decode cX8_grinds 36 = .ok (.sipush 300, 3) := by decide +kernel
theorem dX8_grinds_39 : decode cX8_grinds 39 = .ok (.goto 4, 3) := by decide +kernel
theorem dX8_grinds_42 : decode cX8_grinds 42 = .ok (.iload_n 3, 1) := by decide +kernel
theorem dX8_grinds_43 : decode cX8_grinds 43 = .ok (.iastore, 1) := by decide +kernel
theorem dX8_grinds_44 : decode cX8_grinds 44 = .ok (.aload_n 0, 1) := by decide +kernel
theorem dX8_grinds_45 : decode cX8_grinds 45 = .ok (.getfield 7, 3) := by decide +kernel
theorem dX8_grinds_48 : decode cX8_grinds 48 = .ok (.bipush 13, 2) := by decide +kernel
theorem dX8_grinds_50 : decode cX8_grinds 50 = .ok (.iconst 4, 1) := by decide +kernel
theorem dX8_grinds_51 : decode cX8_grinds 51 = .ok (.iload_n 1, 1) := by decide +kernel
theorem dX8_grinds_52 : decode cX8_grinds 52 = .ok (.imul, 1) := by decide +kernel
theorem dX8_grinds_53 : decode cX8_grinds 53 = .ok (.iadd, 1) := by decide +kernel
theorem dX8_grinds_54 : decode cX8_grinds 54 = .ok (.iconst 2, 1) := by decide +kernel
theorem dX8_grinds_55 : decode cX8_grinds 55 = .ok (.iadd, 1) := by decide +kernel
theorem dX8_grinds_56 : decode cX8_grinds 56 = .ok (.dup2, 1) := by decide +kernel
theorem dX8_grinds_57 : decode cX8_grinds 57 = .ok (.iaload, 1) := by decide +kernel
theorem dX8_grinds_58 : decode cX8_grinds 58 = .ok (.iload_n 2, 1) := by decide +kernel
theorem dX8_grinds_59 : decode cX8_grinds 59 = .ok (.iadd, 1) := by decide +kernel
theorem dX8_grinds_60 : decode cX8_grinds 60 = .ok (.iastore, 1) := by decide +kernel
theorem dX8_grinds_61 : decode cX8_grinds 61 = .ok (.aload_n 0, 1) := by decide +kernel
theorem dX8_grinds_62 : decode cX8_grinds 62 = .ok (.getfield 7, 3) := by decide +kernel
theorem dX8_grinds_65 : decode cX8_grinds 65 = .ok (.iconst 2, 1) := by decide +kernel
theorem dX8_grinds_66 : decode cX8_grinds 66 = .ok (.dup2, 1) := by decide +kernel
theorem dX8_grinds_67 : decode cX8_grinds 67 = .ok (.iaload, 1) := by decide +kernel
theorem dX8_grinds_68 : decode cX8_grinds 68 = .ok (.iload_n 2, 1) := by decide +kernel
theorem dX8_grinds_69 : decode cX8_grinds 69 = .ok (.iadd, 1) := by decide +kernel
theorem dX8_grinds_70 : decode cX8_grinds 70 = .ok (.iastore, 1) := by decide +kernel
theorem dX8_grinds_71 : decode cX8_grinds 71 = .ok (.aload_n 0, 1) := by decide +kernel
theorem dX8_grinds_72 : decode cX8_grinds 72 = .ok (.invokevirtual 84, 3) := by decide +kernel
theorem dX8_grinds_75 : decode cX8_grinds 75 = .ok (.return_, 1) := by decide +kernel
set_option maxRecDepth 20000 in
theorem ggX8_grind_X8_couldGrind : GoodIn wsX8_grind wsX8_couldGrind := goodIn_r _ [6, 7, 8, 9, 10, 11, 12, 5, 13, 14, 15, 16, 17, 18, 19, 20, 21, 22, 23, 24, 25, 26, 27, 65, 66, 67, 68, 69, 70, 71, 72, 73, 74, 75, 76, 77, 78, 79] rfl (by decide +kernel)
set_option maxRecDepth 20000 in
theorem gX8_grind_X8_couldGrind : GoodIn wsX8_grind (wsV RX8 87 RX8 yX8_couldGrind wsX8_couldGrind) := goodIn_app (goodIn_of _ (by decide +kernel)) ggX8_grind_X8_couldGrind
set_option maxRecDepth 20000 in
theorem ggX8_grind_X8_changes : GoodIn wsX8_grind wsX8_changes := goodIn_r _ [31, 32, 33, 34, 9, 65, 66, 67, 68, 69, 70, 71, 72, 73, 74, 75, 76, 77, 78, 79] rfl (by decide +kernel)
set_option maxRecDepth 20000 in
theorem gX8_grind_X8_changes : GoodIn wsX8_grind (wsV RX8 70 RX8 yX8_changes wsX8_changes) := goodIn_app (goodIn_of _ (by decide +kernel)) ggX8_grind_X8_changes
set_option maxRecDepth 20000 in
theorem ggX8_grind_X8_grinds : GoodIn wsX8_grind wsX8_grinds := goodIn_r _ [38, 9, 39, 40, 41, 5, 42, 43, 44, 45, 46, 47, 48, 49, 50, 51, 52, 53, 54, 55, 56, 57, 21, 22, 23, 24, 25, 26, 27, 65, 66, 67, 68, 69, 70, 71, 72, 73, 74, 75, 76, 77, 78, 79] rfl (by decide +kernel)
set_option maxRecDepth 20000 in
theorem gX8_grind_X8_grinds : GoodIn wsX8_grind (wsV RX8 90 RX8 yX8_grinds wsX8_grinds) := goodIn_app (goodIn_of _ (by decide +kernel)) ggX8_grind_X8_grinds
set_option maxRecDepth 20000 in
theorem ggX8_grind_X8_passes : GoodIn wsX8_grind wsX8_passes := goodIn_r _ [61, 9, 47, 48, 49, 5, 50, 62, 63, 64, 65, 66, 67, 68, 69, 70, 71, 72, 73, 74, 75, 76, 77, 78, 79] rfl (by decide +kernel)
set_option maxRecDepth 20000 in
theorem gX8_grind_X8_passes : GoodIn wsX8_grind (wsV RX8 93 RX8 yX8_passes wsX8_passes) := goodIn_app (goodIn_of _ (by decide +kernel)) ggX8_grind_X8_passes
theorem dX8_grind_0 : decode cX8_grind 0 = .ok (.aload_n 0, 1) := by decide +kernel
theorem dX8_grind_1 : decode cX8_grind 1 = .ok (.iload_n 1, 1) := by decide +kernel
theorem dX8_grind_2 : decode cX8_grind 2 = .ok (.iload_n 2, 1) := by decide +kernel
theorem dX8_grind_3 : decode cX8_grind 3 = .ok (.invokevirtual 87, 3) := by decide +kernel
theorem dX8_grind_6 : decode cX8_grind 6 = .ok (.istore_n 3, 1) := by decide +kernel
theorem dX8_grind_7 : decode cX8_grind 7 = .ok (.iload_n 3, 1) := by decide +kernel
theorem dX8_grind_8 : decode cX8_grind 8 = .ok (.ifCond .ge 5, 3) := by decide +kernel
theorem dX8_grind_11 : decode cX8_grind 11 = .ok (.iload_n 3, 1) := by decide +kernel
theorem dX8_grind_12 : decode cX8_grind 12 = .ok (.ireturn, 1) := by decide +kernel
theorem dX8_grind_13 : decode cX8_grind 13 = .ok (.aload_n 0, 1) := by decide +kernel
theorem dX8_grind_14 : decode cX8_grind 14 = .ok (.invokevirtual 70, 3) := by decide +kernel
theorem dX8_grind_17 : decode cX8_grind 17 = .ok (.aload_n 0, 1) := by decide +kernel
theorem dX8_grind_18 : decode cX8_grind 18 = .ok (.iload_n 1, 1) := by decide +kernel
theorem dX8_grind_19 : decode cX8_grind 19 = .ok (.iload_n 2, 1) := by decide +kernel
theorem dX8_grind_20 : decode cX8_grind 20 = .ok (.invokevirtual 90, 3) := by decide +kernel
theorem dX8_grind_23 : decode cX8_grind 23 = .ok (.aload_n 0, 1) := by decide +kernel
theorem dX8_grind_24 : decode cX8_grind 24 = .ok (.iload_n 2, 1) := by decide +kernel
theorem dX8_grind_25 : decode cX8_grind 25 = .ok (.bipush 9, 2) := by decide +kernel
theorem dX8_grind_27 : decode cX8_grind 27 = .ok (.iadd, 1) := by decide +kernel
theorem dX8_grind_28 : decode cX8_grind 28 = .ok (.bipush 10, 2) := by decide +kernel
theorem dX8_grind_30 : decode cX8_grind 30 = .ok (.idiv, 1) := by decide +kernel
theorem dX8_grind_31 : decode cX8_grind 31 = .ok (.invokevirtual 93, 3) := by decide +kernel
theorem dX8_grind_34 : decode cX8_grind 34 = .ok (.istore 4, 2) := by decide +kernel
theorem dX8_grind_36 : decode cX8_grind 36 = .ok (.iload 4, 2) := by decide +kernel
theorem dX8_grind_38 : decode cX8_grind 38 = .ok (.ifCond .ge 8, 3) := by decide +kernel
theorem dX8_grind_41 : decode cX8_grind 41 = .ok (.ldc 96, 2) := by decide +kernel
theorem dX8_grind_43 : decode cX8_grind 43 = .ok (.goto 4, 3) := by decide +kernel
theorem dX8_grind_46 : decode cX8_grind 46 = .ok (.iload_n 3, 1) := by decide +kernel
theorem dX8_grind_47 : decode cX8_grind 47 = .ok (.ireturn, 1) := by decide +kernel
set_option maxRecDepth 20000 in
theorem ggX8_dial_X8_isOne : GoodIn wsX8_dial wsX8_isOne := goodIn_r _ [6, 7, 8, 5, 9] rfl (by decide +kernel)
set_option maxRecDepth 20000 in
theorem gX8_dial_X8_isOne : GoodIn wsX8_dial (va_wsS RX8 60 yX8_isOne wsX8_isOne) := goodIn_app (goodIn_of _ (by decide +kernel)) ggX8_dial_X8_isOne
set_option maxRecDepth 20000 in
theorem ggX8_dial_X8_in : GoodIn wsX8_dial wsX8_in := goodIn_r _ [9] rfl (by decide +kernel)
set_option maxRecDepth 20000 in
theorem gX8_dial_X8_in : GoodIn wsX8_dial (va_wsS RX8 28 yX8_in wsX8_in) := goodIn_app (goodIn_of _ (by decide +kernel)) ggX8_dial_X8_in
set_option maxRecDepth 20000 in
theorem ggX8_dial_X8_changes : GoodIn wsX8_dial wsX8_changes := goodIn_r _ [13, 14, 15, 16, 2, 21, 22, 23, 24, 25, 26, 27, 28, 29, 30, 31, 32, 33, 34, 35] rfl (by decide +kernel)
set_option maxRecDepth 20000 in
theorem gX8_dial_X8_changes : GoodIn wsX8_dial (wsV RX8 70 RX8 yX8_changes wsX8_changes) := goodIn_app (goodIn_of _ (by decide +kernel)) ggX8_dial_X8_changes
set_option maxRecDepth 20000 in
theorem ggX8_dial_X8_ofBurr : GoodIn wsX8_dial wsX8_ofBurr := goodIn_r _ [20, 2, 21, 22, 23, 24, 25, 26, 27, 28, 29, 30, 31, 32, 33, 34, 35] rfl (by decide +kernel)
set_option maxRecDepth 20000 in
theorem gX8_dial_X8_ofBurr : GoodIn wsX8_dial (wsV RX8 50 RX8 yX8_ofBurr wsX8_ofBurr) := goodIn_app (goodIn_of _ (by decide +kernel)) ggX8_dial_X8_ofBurr
theorem dX8_dial_0 : decode cX8_dial 0 = .ok (.iload_n 1, 1) := by decide +kernel
theorem dX8_dial_1 : decode cX8_dial 1 = .ok (.invokestatic 60, 3) := by decide +kernel
theorem dX8_dial_4 : decode cX8_dial 4 = .ok (.ifCond .eq 13, 3) := by decide +kernel
theorem dX8_dial_7 : decode cX8_dial 7 = .ok (.iload_n 2, 1) := by decide +kernel
theorem dX8_dial_8 : decode cX8_dial 8 = .ok (.iconst 1, 1) := by decide +kernel
theorem dX8_dial_9 : decode cX8_dial 9 = .ok (.bipush 60, 2) := by decide +kernel
theorem dX8_dial_11 : decode cX8_dial 11 = .ok (.invokestatic 28, 3) := by decide +kernel
theorem dX8_dial_14 : decode cX8_dial 14 = .ok (.ifCond .ne 6, 3) := by decide +kernel
theorem dX8_dial_17 : decode cX8_dial 17 = .ok (.ldc 64, 2) := by decide +kernel
theorem dX8_dial_19 : decode cX8_dial 19 = .ok (.ireturn, 1) := by decide +kernel
theorem dX8_dial_20 : decode cX8_dial 20 = .ok (.aload_n 0, 1) := by decide +kernel
theorem dX8_dial_21 : decode cX8_dial 21 = .ok (.invokevirtual 70, 3) := by decide +kernel
theorem dX8_dial_24 : decode cX8_dial 24 = .ok (.aload_n 0, 1) := by decide +kernel
theorem dX8_dial_25 : decode cX8_dial 25 = .ok (.iload_n 1, 1) := by decide +kernel
theorem dX8_dial_26 : decode cX8_dial 26 = .ok (.iconst 0, 1) := by decide +kernel
theorem dX8_dial_27 : decode cX8_dial 27 = .ok (.invokevirtual 50, 3) := by decide +kernel
theorem dX8_dial_30 : decode cX8_dial 30 = .ok (.istore_n 3, 1) := by decide +kernel
theorem dX8_dial_31 : decode cX8_dial 31 = .ok (.aload_n 0, 1) := by decide +kernel
theorem dX8_dial_32 : decode cX8_dial 32 = .ok (.getfield 7, 3) := by decide +kernel
theorem dX8_dial_35 : decode cX8_dial 35 = .ok (.bipush 13, 2) := by decide +kernel
theorem dX8_dial_37 : decode cX8_dial 37 = .ok (.iconst 4, 1) := by decide +kernel
theorem dX8_dial_38 : decode cX8_dial 38 = .ok (.iload_n 1, 1) := by decide +kernel
theorem dX8_dial_39 : decode cX8_dial 39 = .ok (.imul, 1) := by decide +kernel
theorem dX8_dial_40 : decode cX8_dial 40 = .ok (.iadd, 1) := by decide +kernel
theorem dX8_dial_41 : decode cX8_dial 41 = .ok (.iconst 0, 1) := by decide +kernel
theorem dX8_dial_42 : decode cX8_dial 42 = .ok (.iadd, 1) := by decide +kernel
theorem dX8_dial_43 : decode cX8_dial 43 = .ok (.iload_n 2, 1) := by decide +kernel
theorem dX8_dial_44 : decode cX8_dial 44 = .ok (.iastore, 1) := by decide +kernel
theorem dX8_dial_45 : decode cX8_dial 45 = .ok (.iload_n 3, 1) := by decide +kernel
theorem dX8_dial_46 : decode cX8_dial 46 = .ok (.ireturn, 1) := by decide +kernel
set_option maxRecDepth 20000 in
theorem ggX8_rest_X8_in : GoodIn wsX8_rest wsX8_in := goodIn_r _ [5] rfl (by decide +kernel)
set_option maxRecDepth 20000 in
theorem gX8_rest_X8_in : GoodIn wsX8_rest (va_wsS RX8 28 yX8_in wsX8_in) := goodIn_app (goodIn_of _ (by decide +kernel)) ggX8_rest_X8_in
set_option maxRecDepth 20000 in
theorem ggX8_rest_X8_changes : GoodIn wsX8_rest wsX8_changes := goodIn_r _ [9, 10, 11, 12, 13, 25, 26, 27, 28, 29, 30, 31, 32, 33, 34, 35, 36, 37, 38, 39] rfl (by decide +kernel)
set_option maxRecDepth 20000 in
theorem gX8_rest_X8_changes : GoodIn wsX8_rest (wsV RX8 70 RX8 yX8_changes wsX8_changes) := goodIn_app (goodIn_of _ (by decide +kernel)) ggX8_rest_X8_changes
set_option maxRecDepth 20000 in
theorem ggX8_rest_X8_passes : GoodIn wsX8_rest wsX8_passes := goodIn_r _ [17, 13, 18, 19, 20, 4, 21, 22, 23, 24, 25, 26, 27, 28, 29, 30, 31, 32, 33, 34, 35, 36, 37, 38, 39] rfl (by decide +kernel)
set_option maxRecDepth 20000 in
theorem gX8_rest_X8_passes : GoodIn wsX8_rest (wsV RX8 93 RX8 yX8_passes wsX8_passes) := goodIn_app (goodIn_of _ (by decide +kernel)) ggX8_rest_X8_passes
theorem dX8_rest_0 : decode cX8_rest 0 = .ok (.iload_n 1, 1) := by decide +kernel
theorem dX8_rest_1 : decode cX8_rest 1 = .ok (.iconst 1, 1) := by decide +kernel
theorem dX8_rest_2 : decode cX8_rest 2 = .ok (.sipush 999, 3) := by decide +kernel
theorem dX8_rest_5 : decode cX8_rest 5 = .ok (.invokestatic 28, 3) := by decide +kernel
theorem dX8_rest_8 : decode cX8_rest 8 = .ok (.ifCond .ne 6, 3) := by decide +kernel
theorem dX8_rest_11 : decode cX8_rest 11 = .ok (.ldc 64, 2) := by decide +kernel
theorem dX8_rest_13 : decode cX8_rest 13 = .ok (.ireturn, 1) := by decide +kernel
theorem dX8_rest_14 : decode cX8_rest 14 = .ok (.aload_n 0, 1) := by decide +kernel
theorem dX8_rest_15 : decode cX8_rest 15 = .ok (.invokevirtual 70, 3) := by decide +kernel
theorem dX8_rest_18 : decode cX8_rest 18 = .ok (.aload_n 0, 1) := by decide +kernel
theorem dX8_rest_19 : decode cX8_rest 19 = .ok (.iload_n 1, 1) := by decide +kernel
theorem dX8_rest_20 : decode cX8_rest 20 = .ok (.invokevirtual 93, 3) := by decide +kernel
theorem dX8_rest_23 : decode cX8_rest 23 = .ok (.ireturn, 1) := by decide +kernel
set_option maxRecDepth 20000 in
theorem ggX8_timeNow_X8_amountOf : GoodIn wsX8_timeNow wsX8_amountOf := goodIn_r _ [5] rfl (by decide +kernel)
set_option maxRecDepth 20000 in
theorem gX8_timeNow_X8_amountOf : GoodIn wsX8_timeNow (va_wsS RX8 47 yX8_amountOf wsX8_amountOf) := goodIn_app (goodIn_of _ (by decide +kernel)) ggX8_timeNow_X8_amountOf
set_option maxRecDepth 20000 in
theorem ggX8_timeNow_X8_flowOf : GoodIn wsX8_timeNow wsX8_flowOf := goodIn_r _ [9, 1, 10, 11, 4, 12, 13, 14, 15, 20, 21, 22, 23, 24, 25, 26, 27, 28, 29, 30, 31, 32, 33, 34] rfl (by decide +kernel)
set_option maxRecDepth 20000 in
theorem gX8_timeNow_X8_flowOf : GoodIn wsX8_timeNow (wsV RX8 97 RX8 yX8_flowOf wsX8_flowOf) := goodIn_app (goodIn_of _ (by decide +kernel)) ggX8_timeNow_X8_flowOf
set_option maxRecDepth 20000 in
theorem ggX8_timeNow_X8_amounts : GoodIn wsX8_timeNow wsX8_amounts := goodIn_r _ [19, 1, 2, 3, 4, 5, 20, 21, 22, 23, 24, 25, 26, 27, 28, 29, 30, 31, 32, 33, 34] rfl (by decide +kernel)
set_option maxRecDepth 20000 in
theorem gX8_timeNow_X8_amounts : GoodIn wsX8_timeNow (wsV RX8 76 RX8 yX8_amounts wsX8_amounts) := goodIn_app (goodIn_of _ (by decide +kernel)) ggX8_timeNow_X8_amounts
theorem dX8_timeNow_0 : decode cX8_timeNow 0 = .ok (.iconst 0, 1) := by decide +kernel
theorem dX8_timeNow_1 : decode cX8_timeNow 1 = .ok (.istore_n 1, 1) := by decide +kernel
theorem dX8_timeNow_2 : decode cX8_timeNow 2 = .ok (.iconst 0, 1) := by decide +kernel
theorem dX8_timeNow_3 : decode cX8_timeNow 3 = .ok (.istore_n 2, 1) := by decide +kernel
theorem dX8_timeNow_4 : decode cX8_timeNow 4 = .ok (.iload_n 2, 1) := by decide +kernel
theorem dX8_timeNow_5 : decode cX8_timeNow 5 = .ok (.aload_n 0, 1) := by decide +kernel
theorem dX8_timeNow_6 : decode cX8_timeNow 6 = .ok (.getfield 7, 3) := by decide +kernel
theorem dX8_timeNow_9 : decode cX8_timeNow 9 = .ok (.sipush 145, 3) := by decide +kernel
theorem dX8_timeNow_12 : decode cX8_timeNow 12 = .ok (.iaload, 1) := by decide +kernel
theorem dX8_timeNow_13 : decode cX8_timeNow 13 = .ok (.if_icmp .ge 40, 3) := by decide +kernel
theorem dX8_timeNow_16 : decode cX8_timeNow 16 = .ok (.iload_n 1, 1) := by decide +kernel
theorem dX8_timeNow_17 : decode cX8_timeNow 17 = .ok (.aload_n 0, 1) := by decide +kernel
theorem dX8_timeNow_18 : decode cX8_timeNow 18 = .ok (.getfield 7, 3) := by decide +kernel
theorem dX8_timeNow_21 : decode cX8_timeNow 21 = .ok (.sipush 146, 3) := by decide +kernel
theorem dX8_timeNow_24 : decode cX8_timeNow 24 = .ok (.iload_n 2, 1) := by decide +kernel
theorem dX8_timeNow_25 : decode cX8_timeNow 25 = .ok (.iadd, 1) := by decide +kernel
theorem dX8_timeNow_26 : decode cX8_timeNow 26 = .ok (.iaload, 1) := by decide +kernel
theorem dX8_timeNow_27 : decode cX8_timeNow 27 = .ok (.invokestatic 47, 3) := by decide +kernel
theorem dX8_timeNow_30 : decode cX8_timeNow 30 = .ok (.aload_n 0, 1) := by decide +kernel
theorem dX8_timeNow_31 : decode cX8_timeNow 31 = .ok (.aload_n 0, 1) := by decide +kernel
theorem dX8_timeNow_32 : decode cX8_timeNow 32 = .ok (.getfield 7, 3) := by decide +kernel
theorem dX8_timeNow_35 : decode cX8_timeNow 35 = .ok (.sipush 146, 3) := by decide +kernel
theorem dX8_timeNow_38 : decode cX8_timeNow 38 = .ok (.iload_n 2, 1) := by decide +kernel
theorem dX8_timeNow_39 : decode cX8_timeNow 39 = .ok (.iadd, 1) := by decide +kernel
theorem dX8_timeNow_40 : decode cX8_timeNow 40 = .ok (.iaload, 1) := by decide +kernel
theorem dX8_timeNow_41 : decode cX8_timeNow 41 = .ok (.invokevirtual 97, 3) := by decide +kernel
theorem dX8_timeNow_44 : decode cX8_timeNow 44 = .ok (.imul, 1) := by decide +kernel
theorem dX8_timeNow_45 : decode cX8_timeNow 45 = .ok (.iadd, 1) := by decide +kernel
theorem dX8_timeNow_46 : decode cX8_timeNow 46 = .ok (.istore_n 1, 1) := by decide +kernel
theorem dX8_timeNow_47 : decode cX8_timeNow 47 = .ok (.iinc 2 1, 3) := by decide +kernel
theorem dX8_timeNow_50 : decode cX8_timeNow 50 = .ok (.goto (-46), 3) := by decide +kernel
theorem dX8_timeNow_53 : decode cX8_timeNow 53 = .ok (.iload_n 1, 1) := by decide +kernel
theorem dX8_timeNow_54 : decode cX8_timeNow 54 = .ok (.aload_n 0, 1) := by decide +kernel
theorem dX8_timeNow_55 : decode cX8_timeNow 55 = .ok (.sipush 145, 3) := by decide +kernel
theorem dX8_timeNow_58 : decode cX8_timeNow 58 = .ok (.sipush 146, 3) := by decide +kernel
theorem dX8_timeNow_61 : decode cX8_timeNow 61 = .ok (.invokevirtual 76, 3) := by decide +kernel
theorem dX8_timeNow_64 : decode cX8_timeNow 64 = .ok (.idiv, 1) := by decide +kernel
theorem dX8_timeNow_65 : decode cX8_timeNow 65 = .ok (.ireturn, 1) := by decide +kernel
set_option maxRecDepth 20000 in
theorem ggX8_corrects_X8_ofBurr : GoodIn wsX8_corrects wsX8_ofBurr := goodIn_r _ [6, 1, 7, 8, 9, 10, 11, 12, 13, 14, 15, 16, 17, 18, 19, 20, 21] rfl (by decide +kernel)
set_option maxRecDepth 20000 in
theorem gX8_corrects_X8_ofBurr : GoodIn wsX8_corrects (wsV RX8 50 RX8 yX8_ofBurr wsX8_ofBurr) := goodIn_app (goodIn_of _ (by decide +kernel)) ggX8_corrects_X8_ofBurr
theorem dX8_corrects_0 : decode cX8_corrects 0 = .ok (.aload_n 0, 1) := by decide +kernel
theorem dX8_corrects_1 : decode cX8_corrects 1 = .ok (.iload_n 1, 1) := by decide +kernel
theorem dX8_corrects_2 : decode cX8_corrects 2 = .ok (.iconst 0, 1) := by decide +kernel
theorem dX8_corrects_3 : decode cX8_corrects 3 = .ok (.invokevirtual 50, 3) := by decide +kernel
theorem dX8_corrects_6 : decode cX8_corrects 6 = .ok (.iload_n 2, 1) := by decide +kernel
theorem dX8_corrects_7 : decode cX8_corrects 7 = .ok (.imul, 1) := by decide +kernel
theorem dX8_corrects_8 : decode cX8_corrects 8 = .ok (.aload_n 0, 1) := by decide +kernel
theorem dX8_corrects_9 : decode cX8_corrects 9 = .ok (.getfield 7, 3) := by decide +kernel
theorem dX8_corrects_12 : decode cX8_corrects 12 = .ok (.bipush 7, 2) := by decide +kernel
theorem dX8_corrects_14 : decode cX8_corrects 14 = .ok (.iaload, 1) := by decide +kernel
theorem dX8_corrects_15 : decode cX8_corrects 15 = .ok (.iconst 2, 1) := by decide +kernel
theorem dX8_corrects_16 : decode cX8_corrects 16 = .ok (.idiv, 1) := by decide +kernel
theorem dX8_corrects_17 : decode cX8_corrects 17 = .ok (.iadd, 1) := by decide +kernel
theorem dX8_corrects_18 : decode cX8_corrects 18 = .ok (.aload_n 0, 1) := by decide +kernel
theorem dX8_corrects_19 : decode cX8_corrects 19 = .ok (.getfield 7, 3) := by decide +kernel
theorem dX8_corrects_22 : decode cX8_corrects 22 = .ok (.bipush 7, 2) := by decide +kernel
theorem dX8_corrects_24 : decode cX8_corrects 24 = .ok (.iaload, 1) := by decide +kernel
theorem dX8_corrects_25 : decode cX8_corrects 25 = .ok (.idiv, 1) := by decide +kernel
theorem dX8_corrects_26 : decode cX8_corrects 26 = .ok (.istore_n 3, 1) := by decide +kernel
theorem dX8_corrects_27 : decode cX8_corrects 27 = .ok (.aload_n 0, 1) := by decide +kernel
theorem dX8_corrects_28 : decode cX8_corrects 28 = .ok (.getfield 7, 3) := by decide +kernel
theorem dX8_corrects_31 : decode cX8_corrects 31 = .ok (.bipush 13, 2) := by decide +kernel
theorem dX8_corrects_33 : decode cX8_corrects 33 = .ok (.iconst 4, 1) := by decide +kernel
theorem dX8_corrects_34 : decode cX8_corrects 34 = .ok (.iload_n 1, 1) := by decide +kernel
theorem dX8_corrects_35 : decode cX8_corrects 35 = .ok (.imul, 1) := by decide +kernel
theorem dX8_corrects_36 : decode cX8_corrects 36 = .ok (.iadd, 1) := by decide +kernel
theorem dX8_corrects_37 : decode cX8_corrects 37 = .ok (.iconst 0, 1) := by decide +kernel
theorem dX8_corrects_38 : decode cX8_corrects 38 = .ok (.iadd, 1) := by decide +kernel
theorem dX8_corrects_39 : decode cX8_corrects 39 = .ok (.iload_n 3, 1) := by decide +kernel
theorem dX8_corrects_40 : decode cX8_corrects 40 = .ok (.iconst 1, 1) := by decide +kernel
theorem dX8_corrects_41 : decode cX8_corrects 41 = .ok (.if_icmp .ge 7, 3) := by decide +kernel
theorem dX8_corrects_44 : decode cX8_corrects 44 = .ok (.iconst 1, 1) := by decide +kernel
theorem dX8_corrects_45 : decode cX8_corrects 45 = .ok (.goto 15, 3) := by decide +kernel
theorem dX8_corrects_48 : decode cX8_corrects 48 = .ok (.iload_n 3, 1) := by decide +kernel
theorem dX8_corrects_49 : decode cX8_corrects 49 = .ok (.bipush 60, 2) := by decide +kernel
theorem dX8_corrects_51 : decode cX8_corrects 51 = .ok (.if_icmp .le 8, 3) := by decide +kernel
theorem dX8_corrects_54 : decode cX8_corrects 54 = .ok (.bipush 60, 2) := by decide +kernel
theorem dX8_corrects_56 : decode cX8_corrects 56 = .ok (.goto 4, 3) := by decide +kernel
theorem dX8_corrects_59 : decode cX8_corrects 59 = .ok (.iload_n 3, 1) := by decide +kernel
theorem dX8_corrects_60 : decode cX8_corrects 60 = .ok (.iastore, 1) := by decide +kernel
theorem dX8_corrects_61 : decode cX8_corrects 61 = .ok (.aload_n 0, 1) := by decide +kernel
theorem dX8_corrects_62 : decode cX8_corrects 62 = .ok (.getfield 7, 3) := by decide +kernel
theorem dX8_corrects_65 : decode cX8_corrects 65 = .ok (.bipush 13, 2) := by decide +kernel
theorem dX8_corrects_67 : decode cX8_corrects 67 = .ok (.iconst 4, 1) := by decide +kernel
theorem dX8_corrects_68 : decode cX8_corrects 68 = .ok (.iload_n 1, 1) := by decide +kernel
theorem dX8_corrects_69 : decode cX8_corrects 69 = .ok (.imul, 1) := by decide +kernel
theorem dX8_corrects_70 : decode cX8_corrects 70 = .ok (.iadd, 1) := by decide +kernel
theorem dX8_corrects_71 : decode cX8_corrects 71 = .ok (.iconst 3, 1) := by decide +kernel
theorem dX8_corrects_72 : decode cX8_corrects 72 = .ok (.iadd, 1) := by decide +kernel
theorem dX8_corrects_73 : decode cX8_corrects 73 = .ok (.dup2, 1) := by decide +kernel
theorem dX8_corrects_74 : decode cX8_corrects 74 = .ok (.iaload, 1) := by decide +kernel
theorem dX8_corrects_75 : decode cX8_corrects 75 = .ok (.iconst 1, 1) := by decide +kernel
theorem dX8_corrects_76 : decode cX8_corrects 76 = .ok (.iadd, 1) := by decide +kernel
theorem dX8_corrects_77 : decode cX8_corrects 77 = .ok (.iastore, 1) := by decide +kernel
theorem dX8_corrects_78 : decode cX8_corrects 78 = .ok (.return_, 1) := by decide +kernel
theorem dX8_away_0 : decode cX8_away 0 = .ok (.iload_n 1, 1) := by decide +kernel
theorem dX8_away_1 : decode cX8_away 1 = .ok (.aload_n 0, 1) := by decide +kernel
theorem dX8_away_2 : decode cX8_away 2 = .ok (.getfield 7, 3) := by decide +kernel
theorem dX8_away_5 : decode cX8_away 5 = .ok (.bipush 7, 2) := by decide +kernel
theorem dX8_away_7 : decode cX8_away 7 = .ok (.iaload, 1) := by decide +kernel
theorem dX8_away_8 : decode cX8_away 8 = .ok (.isub, 1) := by decide +kernel
theorem dX8_away_9 : decode cX8_away 9 = .ok (.istore_n 2, 1) := by decide +kernel
theorem dX8_away_10 : decode cX8_away 10 = .ok (.iload_n 2, 1) := by decide +kernel
theorem dX8_away_11 : decode cX8_away 11 = .ok (.ifCond .ge 8, 3) := by decide +kernel
theorem dX8_away_14 : decode cX8_away 14 = .ok (.iload_n 2, 1) := by decide +kernel
theorem dX8_away_15 : decode cX8_away 15 = .ok (.ineg, 1) := by decide +kernel
theorem dX8_away_16 : decode cX8_away 16 = .ok (.goto 4, 3) := by decide +kernel
theorem dX8_away_19 : decode cX8_away 19 = .ok (.iload_n 2, 1) := by decide +kernel
theorem dX8_away_20 : decode cX8_away 20 = .ok (.ireturn, 1) := by decide +kernel
set_option maxRecDepth 20000 in
theorem ggX8_shot_X8_changes : GoodIn wsX8_shot wsX8_changes := goodIn_r _ [8, 9, 10, 11, 1, 55, 56, 57, 58, 59, 60, 61, 62, 63, 64, 65, 66, 67, 68, 69] rfl (by decide +kernel)
set_option maxRecDepth 20000 in
theorem gX8_shot_X8_changes : GoodIn wsX8_shot (wsV RX8 70 RX8 yX8_changes wsX8_changes) := goodIn_app (goodIn_of _ (by decide +kernel)) ggX8_shot_X8_changes
set_option maxRecDepth 20000 in
theorem ggX8_shot_X8_timeNow : GoodIn wsX8_shot wsX8_timeNow := goodIn_r _ [15, 1, 16, 17, 7, 18, 19, 20, 21, 22, 23, 24, 25, 26, 27, 28, 29, 30, 31, 32, 55, 56, 57, 58, 59, 60, 61, 62, 63, 64, 65, 66, 67, 68, 69] rfl (by decide +kernel)
set_option maxRecDepth 20000 in
theorem gX8_shot_X8_timeNow : GoodIn wsX8_shot (wsV RX8 100 RX8 yX8_timeNow wsX8_timeNow) := goodIn_app (goodIn_of _ (by decide +kernel)) ggX8_shot_X8_timeNow
set_option maxRecDepth 20000 in
theorem ggX8_shot_X8_amounts : GoodIn wsX8_shot wsX8_amounts := goodIn_r _ [32, 1, 16, 17, 7, 18, 55, 56, 57, 58, 59, 60, 61, 62, 63, 64, 65, 66, 67, 68, 69] rfl (by decide +kernel)
set_option maxRecDepth 20000 in
theorem gX8_shot_X8_amounts : GoodIn wsX8_shot (wsV RX8 76 RX8 yX8_amounts wsX8_amounts) := goodIn_app (goodIn_of _ (by decide +kernel)) ggX8_shot_X8_amounts
set_option maxRecDepth 20000 in
theorem ggX8_shot_X8_kindOf : GoodIn wsX8_shot wsX8_kindOf := goodIn_r _ [25] rfl (by decide +kernel)
set_option maxRecDepth 20000 in
theorem gX8_shot_X8_kindOf : GoodIn wsX8_shot (va_wsS RX8 40 yX8_kindOf wsX8_kindOf) := goodIn_app (goodIn_of _ (by decide +kernel)) ggX8_shot_X8_kindOf
set_option maxRecDepth 20000 in
theorem ggX8_shot_X8_amountOf : GoodIn wsX8_shot wsX8_amountOf := goodIn_r _ [18] rfl (by decide +kernel)
set_option maxRecDepth 20000 in
theorem gX8_shot_X8_amountOf : GoodIn wsX8_shot (va_wsS RX8 47 yX8_amountOf wsX8_amountOf) := goodIn_app (goodIn_of _ (by decide +kernel)) ggX8_shot_X8_amountOf
set_option maxRecDepth 20000 in
theorem ggX8_shot_X8_burrIn : GoodIn wsX8_shot wsX8_burrIn := goodIn_r _ [35] rfl (by decide +kernel)
set_option maxRecDepth 20000 in
theorem gX8_shot_X8_burrIn : GoodIn wsX8_shot (va_wsS RX8 103 yX8_burrIn wsX8_burrIn) := goodIn_app (goodIn_of _ (by decide +kernel)) ggX8_shot_X8_burrIn
set_option maxRecDepth 20000 in
theorem ggX8_shot_X8_away : GoodIn wsX8_shot wsX8_away := goodIn_r _ [39, 1, 55, 56, 57, 58, 59, 60, 61, 62, 63, 64, 65, 66, 67, 68, 69] rfl (by decide +kernel)
set_option maxRecDepth 20000 in
theorem gX8_shot_X8_away : GoodIn wsX8_shot (wsV RX8 106 RX8 yX8_away wsX8_away) := goodIn_app (goodIn_of _ (by decide +kernel)) ggX8_shot_X8_away
set_option maxRecDepth 20000 in
theorem ggX8_shot_X8_corrects : GoodIn wsX8_shot wsX8_corrects := goodIn_r _ [43, 1, 44, 45, 46, 7, 47, 55, 56, 57, 58, 59, 60, 61, 62, 63, 64, 65, 66, 67, 68, 69] rfl (by decide +kernel)
set_option maxRecDepth 20000 in
theorem gX8_shot_X8_corrects : GoodIn wsX8_shot (wsV RX8 109 RX8 yX8_corrects wsX8_corrects) := goodIn_app (goodIn_of _ (by decide +kernel)) ggX8_shot_X8_corrects
set_option maxRecDepth 20000 in
theorem ggX8_shot_X8_passes : GoodIn wsX8_shot wsX8_passes := goodIn_r _ [51, 1, 44, 45, 46, 7, 47, 52, 53, 54, 55, 56, 57, 58, 59, 60, 61, 62, 63, 64, 65, 66, 67, 68, 69] rfl (by decide +kernel)
set_option maxRecDepth 20000 in
theorem gX8_shot_X8_passes : GoodIn wsX8_shot (wsV RX8 93 RX8 yX8_passes wsX8_passes) := goodIn_app (goodIn_of _ (by decide +kernel)) ggX8_shot_X8_passes
theorem dX8_shot_0 : decode cX8_shot 0 = .ok (.aload_n 0, 1) := by decide +kernel
theorem dX8_shot_1 : decode cX8_shot 1 = .ok (.getfield 7, 3) := by decide +kernel
theorem dX8_shot_4 : decode cX8_shot 4 = .ok (.sipush 145, 3) := by decide +kernel
theorem dX8_shot_7 : decode cX8_shot 7 = .ok (.iaload, 1) := by decide +kernel
theorem dX8_shot_8 : decode cX8_shot 8 = .ok (.ifCond .ne 6, 3) := by decide +kernel
theorem dX8_shot_11 : decode cX8_shot 11 = .ok (.ldc 79, 2) := by decide +kernel
theorem dX8_shot_13 : decode cX8_shot 13 = .ok (.ireturn, 1) := by decide +kernel
theorem dX8_shot_14 : decode cX8_shot 14 = .ok (.aload_n 0, 1) := by decide +kernel
theorem dX8_shot_15 : decode cX8_shot 15 = .ok (.invokevirtual 70, 3) := by decide +kernel
theorem dX8_shot_18 : decode cX8_shot 18 = .ok (.aload_n 0, 1) := by decide +kernel
theorem dX8_shot_19 : decode cX8_shot 19 = .ok (.invokevirtual 100, 3) := by decide +kernel
theorem dX8_shot_22 : decode cX8_shot 22 = .ok (.istore_n 1, 1) := by decide +kernel
theorem dX8_shot_23 : decode cX8_shot 23 = .ok (.aload_n 0, 1) := by decide +kernel
theorem dX8_shot_24 : decode cX8_shot 24 = .ok (.sipush 145, 3) := by decide +kernel
theorem dX8_shot_27 : decode cX8_shot 27 = .ok (.sipush 146, 3) := by decide +kernel
theorem dX8_shot_30 : decode cX8_shot 30 = .ok (.invokevirtual 76, 3) := by decide +kernel
theorem dX8_shot_33 : decode cX8_shot 33 = .ok (.istore_n 2, 1) := by decide +kernel
theorem dX8_shot_34 : decode cX8_shot 34 = .ok (.iconst 0, 1) := by decide +kernel
theorem dX8_shot_35 : decode cX8_shot 35 = .ok (.istore_n 3, 1) := by decide +kernel
theorem dX8_shot_36 : decode cX8_shot 36 = .ok (.iconst 0, 1) := by decide +kernel
theorem dX8_shot_37 : decode cX8_shot 37 = .ok (.istore 4, 2) := by decide +kernel
theorem dX8_shot_39 : decode cX8_shot 39 = .ok (.iconst 0, 1) := by decide +kernel
theorem dX8_shot_40 : decode cX8_shot 40 = .ok (.istore 5, 2) := by decide +kernel
theorem dX8_shot_42 : decode cX8_shot 42 = .ok (.iload 5, 2) := by decide +kernel
theorem dX8_shot_44 : decode cX8_shot 44 = .ok (.aload_n 0, 1) := by decide +kernel
theorem dX8_shot_45 : decode cX8_shot 45 = .ok (.getfield 7, 3) := by decide +kernel
theorem dX8_shot_48 : decode cX8_shot 48 = .ok (.sipush 145, 3) := by decide +kernel
theorem dX8_shot_51 : decode cX8_shot 51 = .ok (.iaload, 1) := by decide +kernel
theorem dX8_shot_52 : decode cX8_shot 52 = .ok (.if_icmp .ge 52, 3) := by decide +kernel
theorem dX8_shot_55 : decode cX8_shot 55 = .ok (.aload_n 0, 1) := by decide +kernel
theorem dX8_shot_56 : decode cX8_shot 56 = .ok (.getfield 7, 3) := by decide +kernel
theorem dX8_shot_59 : decode cX8_shot 59 = .ok (.sipush 146, 3) := by decide +kernel
theorem dX8_shot_62 : decode cX8_shot 62 = .ok (.iload 5, 2) := by decide +kernel
theorem dX8_shot_64 : decode cX8_shot 64 = .ok (.iadd, 1) := by decide +kernel
theorem dX8_shot_65 : decode cX8_shot 65 = .ok (.iaload, 1) := by decide +kernel
theorem dX8_shot_66 : decode cX8_shot 66 = .ok (.istore 6, 2) := by decide +kernel
theorem dX8_shot_68 : decode cX8_shot 68 = .ok (.iload_n 3, 1) := by decide +kernel
theorem dX8_shot_69 : decode cX8_shot 69 = .ok (.iload 6, 2) := by decide +kernel
theorem dX8_shot_71 : decode cX8_shot 71 = .ok (.invokestatic 40, 3) := by decide +kernel
theorem dX8_shot_74 : decode cX8_shot 74 = .ok (.iload 6, 2) := by decide +kernel
theorem dX8_shot_76 : decode cX8_shot 76 = .ok (.invokestatic 47, 3) := by decide +kernel
theorem dX8_shot_79 : decode cX8_shot 79 = .ok (.imul, 1) := by decide +kernel
theorem dX8_shot_80 : decode cX8_shot 80 = .ok (.iadd, 1) := by decide +kernel
theorem dX8_shot_81 : decode cX8_shot 81 = .ok (.istore_n 3, 1) := by decide +kernel
theorem dX8_shot_82 : decode cX8_shot 82 = .ok (.iload 4, 2) := by decide +kernel
theorem dX8_shot_84 : decode cX8_shot 84 = .ok (.iload 6, 2) := by decide +kernel
theorem dX8_shot_86 : decode cX8_shot 86 = .ok (.invokestatic 103, 3) := by decide +kernel
theorem dX8_shot_89 : decode cX8_shot 89 = .ok (.iload 6, 2) := by decide +kernel
theorem dX8_shot_91 : decode cX8_shot 91 = .ok (.invokestatic 47, 3) := by decide +kernel
theorem dX8_shot_94 : decode cX8_shot 94 = .ok (.imul, 1) := by decide +kernel
theorem dX8_shot_95 : decode cX8_shot 95 = .ok (.iadd, 1) := by decide +kernel
theorem dX8_shot_96 : decode cX8_shot 96 = .ok (.istore 4, 2) := by decide +kernel
theorem dX8_shot_98 : decode cX8_shot 98 = .ok (.iinc 5 1, 3) := by decide +kernel
theorem dX8_shot_101 : decode cX8_shot 101 = .ok (.goto (-59), 3) := by decide +kernel
theorem dX8_shot_104 : decode cX8_shot 104 = .ok (.iconst 2, 1) := by decide +kernel
theorem dX8_shot_105 : decode cX8_shot 105 = .ok (.iload 4, 2) := by decide +kernel
theorem dX8_shot_107 : decode cX8_shot 107 = .ok (.imul, 1) := by decide +kernel
theorem dX8_shot_108 : decode cX8_shot 108 = .ok (.iload_n 2, 1) := by decide +kernel
theorem dX8_shot_109 : decode cX8_shot 109 = .ok (.if_icmp .le 7, 3) := by decide +kernel
theorem dX8_shot_112 : decode cX8_shot 112 = .ok (.iconst 1, 1) := by decide +kernel
theorem dX8_shot_113 : decode cX8_shot 113 = .ok (.goto 4, 3) := by decide +kernel
theorem dX8_shot_116 : decode cX8_shot 116 = .ok (.iconst 0, 1) := by decide +kernel
theorem dX8_shot_117 : decode cX8_shot 117 = .ok (.istore 5, 2) := by decide +kernel
theorem dX8_shot_119 : decode cX8_shot 119 = .ok (.bipush 83, 2) := by decide +kernel
theorem dX8_shot_121 : decode cX8_shot 121 = .ok (.istore 6, 2) := by decide +kernel
theorem dX8_shot_123 : decode cX8_shot 123 = .ok (.iload 6, 2) := by decide +kernel
theorem dX8_shot_125 : decode cX8_shot 125 = .ok (.bipush 7, 2) := by decide +kernel
theorem dX8_shot_127 : decode cX8_shot 127 = .ok (.if_icmp .lt 34, 3) := by decide +kernel
theorem dX8_shot_130 : decode cX8_shot 130 = .ok (.aload_n 0, 1) := by decide +kernel
theorem dX8_shot_131 : decode cX8_shot 131 = .ok (.getfield 7, 3) := by decide +kernel
theorem dX8_shot_134 : decode cX8_shot 134 = .ok (.sipush 547, 3) := by decide +kernel
theorem dX8_shot_137 : decode cX8_shot 137 = .ok (.iload 6, 2) := by decide +kernel
theorem dX8_shot_139 : decode cX8_shot 139 = .ok (.iadd, 1) := by decide +kernel
theorem dX8_shot_140 : decode cX8_shot 140 = .ok (.aload_n 0, 1) := by decide +kernel
theorem dX8_shot_141 : decode cX8_shot 141 = .ok (.getfield 7, 3) := by decide +kernel
theorem dX8_shot_144 : decode cX8_shot 144 = .ok (.sipush 547, 3) := by decide +kernel
theorem dX8_shot_147 : decode cX8_shot 147 = .ok (.iload 6, 2) := by decide +kernel
theorem dX8_shot_149 : decode cX8_shot 149 = .ok (.iadd, 1) := by decide +kernel
theorem dX8_shot_150 : decode cX8_shot 150 = .ok (.bipush 7, 2) := by decide +kernel
theorem dX8_shot_152 : decode cX8_shot 152 = .ok (.isub, 1) := by decide +kernel
theorem dX8_shot_153 : decode cX8_shot 153 = .ok (.iaload, 1) := by decide +kernel
theorem dX8_shot_154 : decode cX8_shot 154 = .ok (.iastore, 1) := by decide +kernel
theorem dX8_shot_155 : decode cX8_shot 155 = .ok (.iinc 6 (-1), 3) := by decide +kernel
theorem dX8_shot_158 : decode cX8_shot 158 = .ok (.goto (-35), 3) := by decide +kernel
theorem dX8_shot_161 : decode cX8_shot 161 = .ok (.aload_n 0, 1) := by decide +kernel
theorem dX8_shot_162 : decode cX8_shot 162 = .ok (.getfield 7, 3) := by decide +kernel
theorem dX8_shot_165 : decode cX8_shot 165 = .ok (.sipush 547, 3) := by decide +kernel
theorem dX8_shot_168 : decode cX8_shot 168 = .ok (.aload_n 0, 1) := by decide +kernel
theorem dX8_shot_169 : decode cX8_shot 169 = .ok (.getfield 7, 3) := by decide +kernel
theorem dX8_shot_172 : decode cX8_shot 172 = .ok (.iconst 5, 1) := by decide +kernel
theorem dX8_shot_173 : decode cX8_shot 173 = .ok (.iaload, 1) := by decide +kernel
theorem dX8_shot_174 : decode cX8_shot 174 = .ok (.iastore, 1) := by decide +kernel
theorem dX8_shot_175 : decode cX8_shot 175 = .ok (.aload_n 0, 1) := by decide +kernel
theorem dX8_shot_176 : decode cX8_shot 176 = .ok (.getfield 7, 3) := by decide +kernel
theorem dX8_shot_179 : decode cX8_shot 179 = .ok (.sipush 548, 3) := by decide +kernel
theorem dX8_shot_182 : decode cX8_shot 182 = .ok (.iload_n 1, 1) := by decide +kernel
theorem dX8_shot_183 : decode cX8_shot 183 = .ok (.iastore, 1) := by decide +kernel
theorem dX8_shot_184 : decode cX8_shot 184 = .ok (.aload_n 0, 1) := by decide +kernel
theorem dX8_shot_185 : decode cX8_shot 185 = .ok (.getfield 7, 3) := by decide +kernel
theorem dX8_shot_188 : decode cX8_shot 188 = .ok (.sipush 549, 3) := by decide +kernel
theorem dX8_shot_191 : decode cX8_shot 191 = .ok (.iload_n 2, 1) := by decide +kernel
theorem dX8_shot_192 : decode cX8_shot 192 = .ok (.iastore, 1) := by decide +kernel
theorem dX8_shot_193 : decode cX8_shot 193 = .ok (.aload_n 0, 1) := by decide +kernel
theorem dX8_shot_194 : decode cX8_shot 194 = .ok (.getfield 7, 3) := by decide +kernel
theorem dX8_shot_197 : decode cX8_shot 197 = .ok (.sipush 550, 3) := by decide +kernel
theorem dX8_shot_200 : decode cX8_shot 200 = .ok (.iload 5, 2) := by decide +kernel
theorem dX8_shot_202 : decode cX8_shot 202 = .ok (.iastore, 1) := by decide +kernel
theorem dX8_shot_203 : decode cX8_shot 203 = .ok (.aload_n 0, 1) := by decide +kernel
theorem dX8_shot_204 : decode cX8_shot 204 = .ok (.getfield 7, 3) := by decide +kernel
theorem dX8_shot_207 : decode cX8_shot 207 = .ok (.sipush 551, 3) := by decide +kernel
theorem dX8_shot_210 : decode cX8_shot 210 = .ok (.iconst 2, 1) := by decide +kernel
theorem dX8_shot_211 : decode cX8_shot 211 = .ok (.iload_n 3, 1) := by decide +kernel
theorem dX8_shot_212 : decode cX8_shot 212 = .ok (.imul, 1) := by decide +kernel
theorem dX8_shot_213 : decode cX8_shot 213 = .ok (.iload_n 2, 1) := by decide +kernel
theorem dX8_shot_214 : decode cX8_shot 214 = .ok (.if_icmp .le 7, 3) := by decide +kernel
theorem dX8_shot_217 : decode cX8_shot 217 = .ok (.iconst 1, 1) := by decide +kernel
theorem dX8_shot_218 : decode cX8_shot 218 = .ok (.goto 4, 3) := by decide +kernel
theorem dX8_shot_221 : decode cX8_shot 221 = .ok (.iconst 0, 1) := by decide +kernel
theorem dX8_shot_222 : decode cX8_shot 222 = .ok (.iastore, 1) := by decide +kernel
theorem dX8_shot_223 : decode cX8_shot 223 = .ok (.aload_n 0, 1) := by decide +kernel
theorem dX8_shot_224 : decode cX8_shot 224 = .ok (.getfield 7, 3) := by decide +kernel
theorem dX8_shot_227 : decode cX8_shot 227 = .ok (.sipush 552, 3) := by decide +kernel
theorem dX8_shot_230 : decode cX8_shot 230 = .ok (.aload_n 0, 1) := by decide +kernel
theorem dX8_shot_231 : decode cX8_shot 231 = .ok (.getfield 7, 3) := by decide +kernel
theorem dX8_shot_234 : decode cX8_shot 234 = .ok (.iconst 0, 1) := by decide +kernel
theorem dX8_shot_235 : decode cX8_shot 235 = .ok (.iaload, 1) := by decide +kernel
theorem dX8_shot_236 : decode cX8_shot 236 = .ok (.iastore, 1) := by decide +kernel
theorem dX8_shot_237 : decode cX8_shot 237 = .ok (.aload_n 0, 1) := by decide +kernel
theorem dX8_shot_238 : decode cX8_shot 238 = .ok (.getfield 7, 3) := by decide +kernel
theorem dX8_shot_241 : decode cX8_shot 241 = .ok (.sipush 553, 3) := by decide +kernel
theorem dX8_shot_244 : decode cX8_shot 244 = .ok (.aload_n 0, 1) := by decide +kernel
theorem dX8_shot_245 : decode cX8_shot 245 = .ok (.getfield 7, 3) := by decide +kernel
theorem dX8_shot_248 : decode cX8_shot 248 = .ok (.sipush 145, 3) := by decide +kernel
theorem dX8_shot_251 : decode cX8_shot 251 = .ok (.iaload, 1) := by decide +kernel
theorem dX8_shot_252 : decode cX8_shot 252 = .ok (.iastore, 1) := by decide +kernel
theorem dX8_shot_253 : decode cX8_shot 253 = .ok (.aload_n 0, 1) := by decide +kernel
theorem dX8_shot_254 : decode cX8_shot 254 = .ok (.getfield 7, 3) := by decide +kernel
theorem dX8_shot_257 : decode cX8_shot 257 = .ok (.sipush 546, 3) := by decide +kernel
theorem dX8_shot_260 : decode cX8_shot 260 = .ok (.dup2, 1) := by decide +kernel
theorem dX8_shot_261 : decode cX8_shot 261 = .ok (.iaload, 1) := by decide +kernel
theorem dX8_shot_262 : decode cX8_shot 262 = .ok (.aload_n 0, 1) := by decide +kernel
theorem dX8_shot_263 : decode cX8_shot 263 = .ok (.getfield 7, 3) := by decide +kernel
theorem dX8_shot_266 : decode cX8_shot 266 = .ok (.sipush 546, 3) := by decide +kernel
theorem dX8_shot_269 : decode cX8_shot 269 = .ok (.iaload, 1) := by decide +kernel
theorem dX8_shot_270 : decode cX8_shot 270 = .ok (.bipush 12, 2) := by decide +kernel
theorem dX8_shot_272 : decode cX8_shot 272 = .ok (.if_icmp .ge 7, 3) := by decide +kernel
theorem dX8_shot_275 : decode cX8_shot 275 = .ok (.iconst 1, 1) := by decide +kernel
theorem dX8_shot_276 : decode cX8_shot 276 = .ok (.goto 4, 3) := by decide +kernel
theorem dX8_shot_279 : decode cX8_shot 279 = .ok (.iconst 0, 1) := by decide +kernel
theorem dX8_shot_280 : decode cX8_shot 280 = .ok (.iadd, 1) := by decide +kernel
theorem dX8_shot_281 : decode cX8_shot 281 = .ok (.iastore, 1) := by decide +kernel
theorem dX8_shot_282 : decode cX8_shot 282 = .ok (.aload_n 0, 1) := by decide +kernel
theorem dX8_shot_283 : decode cX8_shot 283 = .ok (.getfield 7, 3) := by decide +kernel
theorem dX8_shot_286 : decode cX8_shot 286 = .ok (.iconst 5, 1) := by decide +kernel
theorem dX8_shot_287 : decode cX8_shot 287 = .ok (.dup2, 1) := by decide +kernel
theorem dX8_shot_288 : decode cX8_shot 288 = .ok (.iaload, 1) := by decide +kernel
theorem dX8_shot_289 : decode cX8_shot 289 = .ok (.iconst 1, 1) := by decide +kernel
theorem dX8_shot_290 : decode cX8_shot 290 = .ok (.iadd, 1) := by decide +kernel
theorem dX8_shot_291 : decode cX8_shot 291 = .ok (.iastore, 1) := by decide +kernel
theorem dX8_shot_292 : decode cX8_shot 292 = .ok (.aload_n 0, 1) := by decide +kernel
theorem dX8_shot_293 : decode cX8_shot 293 = .ok (.getfield 7, 3) := by decide +kernel
theorem dX8_shot_296 : decode cX8_shot 296 = .ok (.iconst 3, 1) := by decide +kernel
theorem dX8_shot_297 : decode cX8_shot 297 = .ok (.dup2, 1) := by decide +kernel
theorem dX8_shot_298 : decode cX8_shot 298 = .ok (.iaload, 1) := by decide +kernel
theorem dX8_shot_299 : decode cX8_shot 299 = .ok (.iload_n 2, 1) := by decide +kernel
theorem dX8_shot_300 : decode cX8_shot 300 = .ok (.iadd, 1) := by decide +kernel
theorem dX8_shot_301 : decode cX8_shot 301 = .ok (.iastore, 1) := by decide +kernel
theorem dX8_shot_302 : decode cX8_shot 302 = .ok (.aload_n 0, 1) := by decide +kernel
theorem dX8_shot_303 : decode cX8_shot 303 = .ok (.getfield 7, 3) := by decide +kernel
theorem dX8_shot_306 : decode cX8_shot 306 = .ok (.bipush 6, 2) := by decide +kernel
theorem dX8_shot_308 : decode cX8_shot 308 = .ok (.dup2, 1) := by decide +kernel
theorem dX8_shot_309 : decode cX8_shot 309 = .ok (.iaload, 1) := by decide +kernel
theorem dX8_shot_310 : decode cX8_shot 310 = .ok (.aload_n 0, 1) := by decide +kernel
theorem dX8_shot_311 : decode cX8_shot 311 = .ok (.iload_n 1, 1) := by decide +kernel
theorem dX8_shot_312 : decode cX8_shot 312 = .ok (.invokevirtual 106, 3) := by decide +kernel
theorem dX8_shot_315 : decode cX8_shot 315 = .ok (.aload_n 0, 1) := by decide +kernel
theorem dX8_shot_316 : decode cX8_shot 316 = .ok (.getfield 7, 3) := by decide +kernel
theorem dX8_shot_319 : decode cX8_shot 319 = .ok (.bipush 8, 2) := by decide +kernel
theorem dX8_shot_321 : decode cX8_shot 321 = .ok (.iaload, 1) := by decide +kernel
theorem dX8_shot_322 : decode cX8_shot 322 = .ok (.if_icmp .gt 7, 3) := by decide +kernel
theorem dX8_shot_325 : decode cX8_shot 325 = .ok (.iconst 1, 1) := by decide +kernel
theorem dX8_shot_326 : decode cX8_shot 326 = .ok (.goto 4, 3) := by decide +kernel
theorem dX8_shot_329 : decode cX8_shot 329 = .ok (.iconst 0, 1) := by decide +kernel
theorem dX8_shot_330 : decode cX8_shot 330 = .ok (.iadd, 1) := by decide +kernel
theorem dX8_shot_331 : decode cX8_shot 331 = .ok (.iastore, 1) := by decide +kernel
theorem dX8_shot_332 : decode cX8_shot 332 = .ok (.aload_n 0, 1) := by decide +kernel
theorem dX8_shot_333 : decode cX8_shot 333 = .ok (.getfield 7, 3) := by decide +kernel
theorem dX8_shot_336 : decode cX8_shot 336 = .ok (.sipush 145, 3) := by decide +kernel
theorem dX8_shot_339 : decode cX8_shot 339 = .ok (.iconst 0, 1) := by decide +kernel
theorem dX8_shot_340 : decode cX8_shot 340 = .ok (.iastore, 1) := by decide +kernel
theorem dX8_shot_341 : decode cX8_shot 341 = .ok (.aload_n 0, 1) := by decide +kernel
theorem dX8_shot_342 : decode cX8_shot 342 = .ok (.getfield 7, 3) := by decide +kernel
theorem dX8_shot_345 : decode cX8_shot 345 = .ok (.bipush 12, 2) := by decide +kernel
theorem dX8_shot_347 : decode cX8_shot 347 = .ok (.iaload, 1) := by decide +kernel
theorem dX8_shot_348 : decode cX8_shot 348 = .ok (.iconst 1, 1) := by decide +kernel
theorem dX8_shot_349 : decode cX8_shot 349 = .ok (.if_icmp .ne 25, 3) := by decide +kernel
theorem dX8_shot_352 : decode cX8_shot 352 = .ok (.aload_n 0, 1) := by decide +kernel
theorem dX8_shot_353 : decode cX8_shot 353 = .ok (.iload_n 1, 1) := by decide +kernel
theorem dX8_shot_354 : decode cX8_shot 354 = .ok (.invokevirtual 106, 3) := by decide +kernel
theorem dX8_shot_357 : decode cX8_shot 357 = .ok (.aload_n 0, 1) := by decide +kernel
theorem dX8_shot_358 : decode cX8_shot 358 = .ok (.getfield 7, 3) := by decide +kernel
theorem dX8_shot_361 : decode cX8_shot 361 = .ok (.bipush 8, 2) := by decide +kernel
theorem dX8_shot_363 : decode cX8_shot 363 = .ok (.iaload, 1) := by decide +kernel
theorem dX8_shot_364 : decode cX8_shot 364 = .ok (.if_icmp .le 10, 3) := by decide +kernel
theorem dX8_shot_367 : decode cX8_shot 367 = .ok (.aload_n 0, 1) := by decide +kernel
theorem dX8_shot_368 : decode cX8_shot 368 = .ok (.iload 5, 2) := by decide +kernel
theorem dX8_shot_370 : decode cX8_shot 370 = .ok (.iload_n 1, 1) := by decide +kernel
theorem dX8_shot_371 : decode cX8_shot 371 = .ok (.invokevirtual 109, 3) := by decide +kernel
theorem dX8_shot_374 : decode cX8_shot 374 = .ok (.aload_n 0, 1) := by decide +kernel
theorem dX8_shot_375 : decode cX8_shot 375 = .ok (.iload_n 1, 1) := by decide +kernel
theorem dX8_shot_376 : decode cX8_shot 376 = .ok (.bipush 10, 2) := by decide +kernel
theorem dX8_shot_378 : decode cX8_shot 378 = .ok (.idiv, 1) := by decide +kernel
theorem dX8_shot_379 : decode cX8_shot 379 = .ok (.invokevirtual 93, 3) := by decide +kernel
theorem dX8_shot_382 : decode cX8_shot 382 = .ok (.istore 6, 2) := by decide +kernel
theorem dX8_shot_384 : decode cX8_shot 384 = .ok (.iload 6, 2) := by decide +kernel
theorem dX8_shot_386 : decode cX8_shot 386 = .ok (.ifCond .ge 8, 3) := by decide +kernel
theorem dX8_shot_389 : decode cX8_shot 389 = .ok (.ldc 96, 2) := by decide +kernel
theorem dX8_shot_391 : decode cX8_shot 391 = .ok (.goto 4, 3) := by decide +kernel
theorem dX8_shot_394 : decode cX8_shot 394 = .ok (.iload_n 1, 1) := by decide +kernel
theorem dX8_shot_395 : decode cX8_shot 395 = .ok (.ireturn, 1) := by decide +kernel
set_option maxRecDepth 20000 in
theorem ggX8_purge_X8_changes : GoodIn wsX8_purge wsX8_changes := goodIn_r _ [6, 7, 8, 9, 1, 17, 18, 19, 20, 21, 22, 23, 24, 25, 26, 27, 28, 29, 30, 31] rfl (by decide +kernel)
set_option maxRecDepth 20000 in
theorem gX8_purge_X8_changes : GoodIn wsX8_purge (wsV RX8 70 RX8 yX8_changes wsX8_changes) := goodIn_app (goodIn_of _ (by decide +kernel)) ggX8_purge_X8_changes
set_option maxRecDepth 20000 in
theorem ggX8_purge_X8_amounts : GoodIn wsX8_purge wsX8_amounts := goodIn_r _ [13, 1, 14, 15, 5, 16, 17, 18, 19, 20, 21, 22, 23, 24, 25, 26, 27, 28, 29, 30, 31] rfl (by decide +kernel)
set_option maxRecDepth 20000 in
theorem gX8_purge_X8_amounts : GoodIn wsX8_purge (wsV RX8 76 RX8 yX8_amounts wsX8_amounts) := goodIn_app (goodIn_of _ (by decide +kernel)) ggX8_purge_X8_amounts
theorem dX8_purge_0 : decode cX8_purge 0 = .ok (.aload_n 0, 1) := by decide +kernel
theorem dX8_purge_1 : decode cX8_purge 1 = .ok (.invokevirtual 70, 3) := by decide +kernel
theorem dX8_purge_4 : decode cX8_purge 4 = .ok (.aload_n 0, 1) := by decide +kernel
theorem dX8_purge_5 : decode cX8_purge 5 = .ok (.bipush 34, 2) := by decide +kernel
theorem dX8_purge_7 : decode cX8_purge 7 = .ok (.bipush 35, 2) := by decide +kernel
theorem dX8_purge_9 : decode cX8_purge 9 = .ok (.invokevirtual 76, 3) := by decide +kernel
theorem dX8_purge_12 : decode cX8_purge 12 = .ok (.istore_n 1, 1) := by decide +kernel
theorem dX8_purge_13 : decode cX8_purge 13 = .ok (.aload_n 0, 1) := by decide +kernel
theorem dX8_purge_14 : decode cX8_purge 14 = .ok (.getfield 7, 3) := by decide +kernel
theorem dX8_purge_17 : decode cX8_purge 17 = .ok (.iconst 4, 1) := by decide +kernel
theorem dX8_purge_18 : decode cX8_purge 18 = .ok (.dup2, 1) := by decide +kernel
theorem dX8_purge_19 : decode cX8_purge 19 = .ok (.iaload, 1) := by decide +kernel
theorem dX8_purge_20 : decode cX8_purge 20 = .ok (.iload_n 1, 1) := by decide +kernel
theorem dX8_purge_21 : decode cX8_purge 21 = .ok (.iadd, 1) := by decide +kernel
theorem dX8_purge_22 : decode cX8_purge 22 = .ok (.iastore, 1) := by decide +kernel
theorem dX8_purge_23 : decode cX8_purge 23 = .ok (.aload_n 0, 1) := by decide +kernel
theorem dX8_purge_24 : decode cX8_purge 24 = .ok (.getfield 7, 3) := by decide +kernel
theorem dX8_purge_27 : decode cX8_purge 27 = .ok (.bipush 34, 2) := by decide +kernel
theorem dX8_purge_29 : decode cX8_purge 29 = .ok (.iconst 0, 1) := by decide +kernel
theorem dX8_purge_30 : decode cX8_purge 30 = .ok (.iastore, 1) := by decide +kernel
theorem dX8_purge_31 : decode cX8_purge 31 = .ok (.iload_n 1, 1) := by decide +kernel
theorem dX8_purge_32 : decode cX8_purge 32 = .ok (.ireturn, 1) := by decide +kernel
set_option maxRecDepth 20000 in
theorem ggX8_correct_X8_isOne : GoodIn wsX8_correct wsX8_isOne := goodIn_r _ [7, 8, 9, 6, 10] rfl (by decide +kernel)
set_option maxRecDepth 20000 in
theorem gX8_correct_X8_isOne : GoodIn wsX8_correct (va_wsS RX8 60 yX8_isOne wsX8_isOne) := goodIn_app (goodIn_of _ (by decide +kernel)) ggX8_correct_X8_isOne
set_option maxRecDepth 20000 in
theorem ggX8_correct_X8_changes : GoodIn wsX8_correct wsX8_changes := goodIn_r _ [14, 15, 16, 17, 2, 26, 27, 28, 29, 30, 31, 32, 33, 34, 35, 36, 37, 38, 39, 40] rfl (by decide +kernel)
set_option maxRecDepth 20000 in
theorem gX8_correct_X8_changes : GoodIn wsX8_correct (wsV RX8 70 RX8 yX8_changes wsX8_changes) := goodIn_app (goodIn_of _ (by decide +kernel)) ggX8_correct_X8_changes
set_option maxRecDepth 20000 in
theorem ggX8_correct_X8_corrects : GoodIn wsX8_correct wsX8_corrects := goodIn_r _ [21, 2, 22, 23, 24, 6, 25, 26, 27, 28, 29, 30, 31, 32, 33, 34, 35, 36, 37, 38, 39, 40] rfl (by decide +kernel)
set_option maxRecDepth 20000 in
theorem gX8_correct_X8_corrects : GoodIn wsX8_correct (wsV RX8 109 RX8 yX8_corrects wsX8_corrects) := goodIn_app (goodIn_of _ (by decide +kernel)) ggX8_correct_X8_corrects
set_option maxRecDepth 20000 in
theorem ggX8_correct_X8_ofBurr : GoodIn wsX8_correct wsX8_ofBurr := goodIn_r _ [25, 2, 26, 27, 28, 29, 30, 31, 32, 33, 34, 35, 36, 37, 38, 39, 40] rfl (by decide +kernel)
set_option maxRecDepth 20000 in
theorem gX8_correct_X8_ofBurr : GoodIn wsX8_correct (wsV RX8 50 RX8 yX8_ofBurr wsX8_ofBurr) := goodIn_app (goodIn_of _ (by decide +kernel)) ggX8_correct_X8_ofBurr
theorem dX8_correct_0 : decode cX8_correct 0 = .ok (.iload_n 1, 1) := by decide +kernel
theorem dX8_correct_1 : decode cX8_correct 1 = .ok (.invokestatic 60, 3) := by decide +kernel
theorem dX8_correct_4 : decode cX8_correct 4 = .ok (.ifCond .ne 6, 3) := by decide +kernel
theorem dX8_correct_7 : decode cX8_correct 7 = .ok (.ldc 64, 2) := by decide +kernel
theorem dX8_correct_9 : decode cX8_correct 9 = .ok (.ireturn, 1) := by decide +kernel
theorem dX8_correct_10 : decode cX8_correct 10 = .ok (.aload_n 0, 1) := by decide +kernel
theorem dX8_correct_11 : decode cX8_correct 11 = .ok (.getfield 7, 3) := by decide +kernel
theorem dX8_correct_14 : decode cX8_correct 14 = .ok (.sipush 546, 3) := by decide +kernel
theorem dX8_correct_17 : decode cX8_correct 17 = .ok (.iaload, 1) := by decide +kernel
theorem dX8_correct_18 : decode cX8_correct 18 = .ok (.ifCond .ne 6, 3) := by decide +kernel
theorem dX8_correct_21 : decode cX8_correct 21 = .ok (.ldc 79, 2) := by decide +kernel
theorem dX8_correct_23 : decode cX8_correct 23 = .ok (.ireturn, 1) := by decide +kernel
theorem dX8_correct_24 : decode cX8_correct 24 = .ok (.aload_n 0, 1) := by decide +kernel
theorem dX8_correct_25 : decode cX8_correct 25 = .ok (.invokevirtual 70, 3) := by decide +kernel
theorem dX8_correct_28 : decode cX8_correct 28 = .ok (.aload_n 0, 1) := by decide +kernel
theorem dX8_correct_29 : decode cX8_correct 29 = .ok (.iload_n 1, 1) := by decide +kernel
theorem dX8_correct_30 : decode cX8_correct 30 = .ok (.aload_n 0, 1) := by decide +kernel
theorem dX8_correct_31 : decode cX8_correct 31 = .ok (.getfield 7, 3) := by decide +kernel
theorem dX8_correct_34 : decode cX8_correct 34 = .ok (.sipush 548, 3) := by decide +kernel
theorem dX8_correct_37 : decode cX8_correct 37 = .ok (.iaload, 1) := by decide +kernel
theorem dX8_correct_38 : decode cX8_correct 38 = .ok (.invokevirtual 109, 3) := by decide +kernel
theorem dX8_correct_41 : decode cX8_correct 41 = .ok (.aload_n 0, 1) := by decide +kernel
theorem dX8_correct_42 : decode cX8_correct 42 = .ok (.iload_n 1, 1) := by decide +kernel
theorem dX8_correct_43 : decode cX8_correct 43 = .ok (.iconst 0, 1) := by decide +kernel
theorem dX8_correct_44 : decode cX8_correct 44 = .ok (.invokevirtual 50, 3) := by decide +kernel
theorem dX8_correct_47 : decode cX8_correct 47 = .ok (.ireturn, 1) := by decide +kernel
theorem dX8_leastOf_0 : decode cX8_leastOf 0 = .ok (.iload_n 0, 1) := by decide +kernel
theorem dX8_leastOf_1 : decode cX8_leastOf 1 = .ok (.ifCond .ne 8, 3) := by decide +kernel
theorem dX8_leastOf_4 : decode cX8_leastOf 4 = .ok (.bipush 100, 2) := by decide +kernel
theorem dX8_leastOf_6 : decode cX8_leastOf 6 = .ok (.goto 19, 3) := by decide +kernel
theorem dX8_leastOf_9 : decode cX8_leastOf 9 = .ok (.iload_n 0, 1) := by decide +kernel
theorem dX8_leastOf_10 : decode cX8_leastOf 10 = .ok (.iconst 3, 1) := by decide +kernel
theorem dX8_leastOf_11 : decode cX8_leastOf 11 = .ok (.if_icmp .eq 8, 3) := by decide +kernel
theorem dX8_leastOf_14 : decode cX8_leastOf 14 = .ok (.iload_n 0, 1) := by decide +kernel
theorem dX8_leastOf_15 : decode cX8_leastOf 15 = .ok (.iconst 4, 1) := by decide +kernel
theorem dX8_leastOf_16 : decode cX8_leastOf 16 = .ok (.if_icmp .ne 8, 3) := by decide +kernel
theorem dX8_leastOf_19 : decode cX8_leastOf 19 = .ok (.bipush 30, 2) := by decide +kernel
theorem dX8_leastOf_21 : decode cX8_leastOf 21 = .ok (.goto 4, 3) := by decide +kernel
theorem dX8_leastOf_24 : decode cX8_leastOf 24 = .ok (.iconst 0, 1) := by decide +kernel
theorem dX8_leastOf_25 : decode cX8_leastOf 25 = .ok (.ireturn, 1) := by decide +kernel
theorem dX8_mostOf_0 : decode cX8_mostOf 0 = .ok (.iload_n 0, 1) := by decide +kernel
theorem dX8_mostOf_1 : decode cX8_mostOf 1 = .ok (.ifCond .ne 9, 3) := by decide +kernel
theorem dX8_mostOf_4 : decode cX8_mostOf 4 = .ok (.sipush 600, 3) := by decide +kernel
theorem dX8_mostOf_7 : decode cX8_mostOf 7 = .ok (.goto 36, 3) := by decide +kernel
theorem dX8_mostOf_10 : decode cX8_mostOf 10 = .ok (.iload_n 0, 1) := by decide +kernel
theorem dX8_mostOf_11 : decode cX8_mostOf 11 = .ok (.iconst 1, 1) := by decide +kernel
theorem dX8_mostOf_12 : decode cX8_mostOf 12 = .ok (.if_icmp .ne 9, 3) := by decide +kernel
theorem dX8_mostOf_15 : decode cX8_mostOf 15 = .ok (.sipush 200, 3) := by decide +kernel
theorem dX8_mostOf_18 : decode cX8_mostOf 18 = .ok (.goto 25, 3) := by decide +kernel
theorem dX8_mostOf_21 : decode cX8_mostOf 21 = .ok (.iload_n 0, 1) := by decide +kernel
theorem dX8_mostOf_22 : decode cX8_mostOf 22 = .ok (.iconst 2, 1) := by decide +kernel
theorem dX8_mostOf_23 : decode cX8_mostOf 23 = .ok (.if_icmp .ne 8, 3) := by decide +kernel
theorem dX8_mostOf_26 : decode cX8_mostOf 26 = .ok (.bipush 100, 2) := by decide +kernel
theorem dX8_mostOf_28 : decode cX8_mostOf 28 = .ok (.goto 15, 3) := by decide +kernel
theorem dX8_mostOf_31 : decode cX8_mostOf 31 = .ok (.iload_n 0, 1) := by decide +kernel
theorem dX8_mostOf_32 : decode cX8_mostOf 32 = .ok (.iconst 5, 1) := by decide +kernel
theorem dX8_mostOf_33 : decode cX8_mostOf 33 = .ok (.if_icmp .ne 7, 3) := by decide +kernel
theorem dX8_mostOf_36 : decode cX8_mostOf 36 = .ok (.iconst 1, 1) := by decide +kernel
theorem dX8_mostOf_37 : decode cX8_mostOf 37 = .ok (.goto 6, 3) := by decide +kernel
theorem dX8_mostOf_40 : decode cX8_mostOf 40 = .ok (.sipush 300, 3) := by decide +kernel
theorem dX8_mostOf_43 : decode cX8_mostOf 43 = .ok (.ireturn, 1) := by decide +kernel
set_option maxRecDepth 20000 in
theorem ggX8_set_X8_in : GoodIn wsX8_set wsX8_in := goodIn_r _ [6] rfl (by decide +kernel)
set_option maxRecDepth 20000 in
theorem gX8_set_X8_in : GoodIn wsX8_set (va_wsS RX8 28 yX8_in wsX8_in) := goodIn_app (goodIn_of _ (by decide +kernel)) ggX8_set_X8_in
set_option maxRecDepth 20000 in
theorem ggX8_set_X8_leastOf : GoodIn wsX8_set wsX8_leastOf := goodIn_r _ [9] rfl (by decide +kernel)
set_option maxRecDepth 20000 in
theorem gX8_set_X8_leastOf : GoodIn wsX8_set (va_wsS RX8 112 yX8_leastOf wsX8_leastOf) := goodIn_app (goodIn_of _ (by decide +kernel)) ggX8_set_X8_leastOf
set_option maxRecDepth 20000 in
theorem ggX8_set_X8_mostOf : GoodIn wsX8_set wsX8_mostOf := goodIn_r _ [12] rfl (by decide +kernel)
set_option maxRecDepth 20000 in
theorem gX8_set_X8_mostOf : GoodIn wsX8_set (va_wsS RX8 115 yX8_mostOf wsX8_mostOf) := goodIn_app (goodIn_of _ (by decide +kernel)) ggX8_set_X8_mostOf
set_option maxRecDepth 20000 in
theorem ggX8_set_X8_changes : GoodIn wsX8_set wsX8_changes := goodIn_r _ [16, 17, 18, 19, 2, 20, 21, 22, 23, 24, 25, 26, 27, 28, 29, 30, 31, 32, 33, 34] rfl (by decide +kernel)
set_option maxRecDepth 20000 in
theorem gX8_set_X8_changes : GoodIn wsX8_set (wsV RX8 70 RX8 yX8_changes wsX8_changes) := goodIn_app (goodIn_of _ (by decide +kernel)) ggX8_set_X8_changes
theorem dX8_set_0 : decode cX8_set 0 = .ok (.iload_n 1, 1) := by decide +kernel
theorem dX8_set_1 : decode cX8_set 1 = .ok (.iconst 0, 1) := by decide +kernel
theorem dX8_set_2 : decode cX8_set 2 = .ok (.iconst 5, 1) := by decide +kernel
theorem dX8_set_3 : decode cX8_set 3 = .ok (.invokestatic 28, 3) := by decide +kernel
theorem dX8_set_6 : decode cX8_set 6 = .ok (.ifCond .eq 18, 3) := by decide +kernel
theorem dX8_set_9 : decode cX8_set 9 = .ok (.iload_n 2, 1) := by decide +kernel
theorem dX8_set_10 : decode cX8_set 10 = .ok (.iload_n 1, 1) := by decide +kernel
theorem dX8_set_11 : decode cX8_set 11 = .ok (.invokestatic 112, 3) := by decide +kernel
theorem dX8_set_14 : decode cX8_set 14 = .ok (.iload_n 1, 1) := by decide +kernel
theorem dX8_set_15 : decode cX8_set 15 = .ok (.invokestatic 115, 3) := by decide +kernel
theorem dX8_set_18 : decode cX8_set 18 = .ok (.invokestatic 28, 3) := by decide +kernel
theorem dX8_set_21 : decode cX8_set 21 = .ok (.ifCond .ne 6, 3) := by decide +kernel
theorem dX8_set_24 : decode cX8_set 24 = .ok (.ldc 64, 2) := by decide +kernel
theorem dX8_set_26 : decode cX8_set 26 = .ok (.ireturn, 1) := by decide +kernel
theorem dX8_set_27 : decode cX8_set 27 = .ok (.aload_n 0, 1) := by decide +kernel
theorem dX8_set_28 : decode cX8_set 28 = .ok (.invokevirtual 70, 3) := by decide +kernel
theorem dX8_set_31 : decode cX8_set 31 = .ok (.aload_n 0, 1) := by decide +kernel
theorem dX8_set_32 : decode cX8_set 32 = .ok (.getfield 7, 3) := by decide +kernel
theorem dX8_set_35 : decode cX8_set 35 = .ok (.bipush 7, 2) := by decide +kernel
theorem dX8_set_37 : decode cX8_set 37 = .ok (.iload_n 1, 1) := by decide +kernel
theorem dX8_set_38 : decode cX8_set 38 = .ok (.iadd, 1) := by decide +kernel
theorem dX8_set_39 : decode cX8_set 39 = .ok (.iaload, 1) := by decide +kernel
theorem dX8_set_40 : decode cX8_set 40 = .ok (.istore_n 3, 1) := by decide +kernel
theorem dX8_set_41 : decode cX8_set 41 = .ok (.aload_n 0, 1) := by decide +kernel
theorem dX8_set_42 : decode cX8_set 42 = .ok (.getfield 7, 3) := by decide +kernel
theorem dX8_set_45 : decode cX8_set 45 = .ok (.bipush 7, 2) := by decide +kernel
theorem dX8_set_47 : decode cX8_set 47 = .ok (.iload_n 1, 1) := by decide +kernel
theorem dX8_set_48 : decode cX8_set 48 = .ok (.iadd, 1) := by decide +kernel
theorem dX8_set_49 : decode cX8_set 49 = .ok (.iload_n 2, 1) := by decide +kernel
theorem dX8_set_50 : decode cX8_set 50 = .ok (.iastore, 1) := by decide +kernel
theorem dX8_set_51 : decode cX8_set 51 = .ok (.iload_n 3, 1) := by decide +kernel
theorem dX8_set_52 : decode cX8_set 52 = .ok (.ireturn, 1) := by decide +kernel
set_option maxRecDepth 20000 in
theorem ggX8_burrOf_X8_isOne : GoodIn wsX8_burrOf wsX8_isOne := goodIn_r _ [5, 6, 7, 4, 8] rfl (by decide +kernel)
set_option maxRecDepth 20000 in
theorem gX8_burrOf_X8_isOne : GoodIn wsX8_burrOf (va_wsS RX8 60 yX8_isOne wsX8_isOne) := goodIn_app (goodIn_of _ (by decide +kernel)) ggX8_burrOf_X8_isOne
set_option maxRecDepth 20000 in
theorem ggX8_burrOf_X8_in : GoodIn wsX8_burrOf wsX8_in := goodIn_r _ [8] rfl (by decide +kernel)
set_option maxRecDepth 20000 in
theorem gX8_burrOf_X8_in : GoodIn wsX8_burrOf (va_wsS RX8 28 yX8_in wsX8_in) := goodIn_app (goodIn_of _ (by decide +kernel)) ggX8_burrOf_X8_in
set_option maxRecDepth 20000 in
theorem ggX8_burrOf_X8_gap : GoodIn wsX8_burrOf wsX8_gap := goodIn_r _ [12, 13, 14, 15, 4, 16, 17, 18, 19, 20, 21, 22, 23, 24, 25, 26, 27, 28, 29, 30, 31, 32, 33, 34, 35] rfl (by decide +kernel)
set_option maxRecDepth 20000 in
theorem gX8_burrOf_X8_gap : GoodIn wsX8_burrOf (wsV RX8 73 RX8 yX8_gap wsX8_gap) := goodIn_app (goodIn_of _ (by decide +kernel)) ggX8_burrOf_X8_gap
set_option maxRecDepth 20000 in
theorem ggX8_burrOf_X8_ofBurr : GoodIn wsX8_burrOf wsX8_ofBurr := goodIn_r _ [16, 17, 21, 22, 23, 24, 25, 26, 27, 28, 29, 30, 31, 32, 33, 34, 35] rfl (by decide +kernel)
set_option maxRecDepth 20000 in
theorem gX8_burrOf_X8_ofBurr : GoodIn wsX8_burrOf (wsV RX8 50 RX8 yX8_ofBurr wsX8_ofBurr) := goodIn_app (goodIn_of _ (by decide +kernel)) ggX8_burrOf_X8_ofBurr
theorem dX8_burrOf_0 : decode cX8_burrOf 0 = .ok (.iload_n 1, 1) := by decide +kernel
theorem dX8_burrOf_1 : decode cX8_burrOf 1 = .ok (.invokestatic 60, 3) := by decide +kernel
theorem dX8_burrOf_4 : decode cX8_burrOf 4 = .ok (.ifCond .eq 12, 3) := by decide +kernel
theorem dX8_burrOf_7 : decode cX8_burrOf 7 = .ok (.iload_n 2, 1) := by decide +kernel
theorem dX8_burrOf_8 : decode cX8_burrOf 8 = .ok (.iconst 0, 1) := by decide +kernel
theorem dX8_burrOf_9 : decode cX8_burrOf 9 = .ok (.iconst 4, 1) := by decide +kernel
theorem dX8_burrOf_10 : decode cX8_burrOf 10 = .ok (.invokestatic 28, 3) := by decide +kernel
theorem dX8_burrOf_13 : decode cX8_burrOf 13 = .ok (.ifCond .ne 6, 3) := by decide +kernel
theorem dX8_burrOf_16 : decode cX8_burrOf 16 = .ok (.ldc 64, 2) := by decide +kernel
theorem dX8_burrOf_18 : decode cX8_burrOf 18 = .ok (.ireturn, 1) := by decide +kernel
theorem dX8_burrOf_19 : decode cX8_burrOf 19 = .ok (.iload_n 2, 1) := by decide +kernel
theorem dX8_burrOf_20 : decode cX8_burrOf 20 = .ok (.iconst 2, 1) := by decide +kernel
theorem dX8_burrOf_21 : decode cX8_burrOf 21 = .ok (.if_icmp .ne 11, 3) := by decide +kernel
theorem dX8_burrOf_24 : decode cX8_burrOf 24 = .ok (.aload_n 0, 1) := by decide +kernel
theorem dX8_burrOf_25 : decode cX8_burrOf 25 = .ok (.iload_n 1, 1) := by decide +kernel
theorem dX8_burrOf_26 : decode cX8_burrOf 26 = .ok (.invokevirtual 73, 3) := by decide +kernel
theorem dX8_burrOf_29 : decode cX8_burrOf 29 = .ok (.goto 20, 3) := by decide +kernel
theorem dX8_burrOf_32 : decode cX8_burrOf 32 = .ok (.aload_n 0, 1) := by decide +kernel
theorem dX8_burrOf_33 : decode cX8_burrOf 33 = .ok (.iload_n 1, 1) := by decide +kernel
theorem dX8_burrOf_34 : decode cX8_burrOf 34 = .ok (.iload_n 2, 1) := by decide +kernel
theorem dX8_burrOf_35 : decode cX8_burrOf 35 = .ok (.iconst 2, 1) := by decide +kernel
theorem dX8_burrOf_36 : decode cX8_burrOf 36 = .ok (.if_icmp .ge 7, 3) := by decide +kernel
theorem dX8_burrOf_39 : decode cX8_burrOf 39 = .ok (.iload_n 2, 1) := by decide +kernel
theorem dX8_burrOf_40 : decode cX8_burrOf 40 = .ok (.goto 6, 3) := by decide +kernel
theorem dX8_burrOf_43 : decode cX8_burrOf 43 = .ok (.iload_n 2, 1) := by decide +kernel
theorem dX8_burrOf_44 : decode cX8_burrOf 44 = .ok (.iconst 1, 1) := by decide +kernel
theorem dX8_burrOf_45 : decode cX8_burrOf 45 = .ok (.isub, 1) := by decide +kernel
theorem dX8_burrOf_46 : decode cX8_burrOf 46 = .ok (.invokevirtual 50, 3) := by decide +kernel
theorem dX8_burrOf_49 : decode cX8_burrOf 49 = .ok (.ireturn, 1) := by decide +kernel
set_option maxRecDepth 20000 in
theorem ggX8_lotOf_X8_isOne : GoodIn wsX8_lotOf wsX8_isOne := goodIn_r _ [7, 8, 9, 6, 10] rfl (by decide +kernel)
set_option maxRecDepth 20000 in
theorem gX8_lotOf_X8_isOne : GoodIn wsX8_lotOf (va_wsS RX8 60 yX8_isOne wsX8_isOne) := goodIn_app (goodIn_of _ (by decide +kernel)) ggX8_lotOf_X8_isOne
theorem dX8_lotOf_0 : decode cX8_lotOf 0 = .ok (.iload_n 1, 1) := by decide +kernel
theorem dX8_lotOf_1 : decode cX8_lotOf 1 = .ok (.ifCond .lt 10, 3) := by decide +kernel
theorem dX8_lotOf_4 : decode cX8_lotOf 4 = .ok (.iload_n 2, 1) := by decide +kernel
theorem dX8_lotOf_5 : decode cX8_lotOf 5 = .ok (.invokestatic 60, 3) := by decide +kernel
theorem dX8_lotOf_8 : decode cX8_lotOf 8 = .ok (.ifCond .ne 6, 3) := by decide +kernel
theorem dX8_lotOf_11 : decode cX8_lotOf 11 = .ok (.ldc 64, 2) := by decide +kernel
theorem dX8_lotOf_13 : decode cX8_lotOf 13 = .ok (.ireturn, 1) := by decide +kernel
theorem dX8_lotOf_14 : decode cX8_lotOf 14 = .ok (.iload_n 1, 1) := by decide +kernel
theorem dX8_lotOf_15 : decode cX8_lotOf 15 = .ok (.aload_n 0, 1) := by decide +kernel
theorem dX8_lotOf_16 : decode cX8_lotOf 16 = .ok (.getfield 7, 3) := by decide +kernel
theorem dX8_lotOf_19 : decode cX8_lotOf 19 = .ok (.bipush 21, 2) := by decide +kernel
theorem dX8_lotOf_21 : decode cX8_lotOf 21 = .ok (.iaload, 1) := by decide +kernel
theorem dX8_lotOf_22 : decode cX8_lotOf 22 = .ok (.if_icmp .lt 8, 3) := by decide +kernel
theorem dX8_lotOf_25 : decode cX8_lotOf 25 = .ok (.ldc 96, 2) := by decide +kernel
theorem dX8_lotOf_27 : decode cX8_lotOf 27 = .ok (.goto 16, 3) := by decide +kernel
theorem dX8_lotOf_30 : decode cX8_lotOf 30 = .ok (.aload_n 0, 1) := by decide +kernel
theorem dX8_lotOf_31 : decode cX8_lotOf 31 = .ok (.getfield 7, 3) := by decide +kernel
theorem dX8_lotOf_34 : decode cX8_lotOf 34 = .ok (.bipush 22, 2) := by decide +kernel
theorem dX8_lotOf_36 : decode cX8_lotOf 36 = .ok (.iconst 2, 1) := by decide +kernel
theorem dX8_lotOf_37 : decode cX8_lotOf 37 = .ok (.iload_n 1, 1) := by decide +kernel
theorem dX8_lotOf_38 : decode cX8_lotOf 38 = .ok (.imul, 1) := by decide +kernel
theorem dX8_lotOf_39 : decode cX8_lotOf 39 = .ok (.iadd, 1) := by decide +kernel
theorem dX8_lotOf_40 : decode cX8_lotOf 40 = .ok (.iload_n 2, 1) := by decide +kernel
theorem dX8_lotOf_41 : decode cX8_lotOf 41 = .ok (.iadd, 1) := by decide +kernel
theorem dX8_lotOf_42 : decode cX8_lotOf 42 = .ok (.iaload, 1) := by decide +kernel
theorem dX8_lotOf_43 : decode cX8_lotOf 43 = .ok (.ireturn, 1) := by decide +kernel
set_option maxRecDepth 20000 in
theorem ggX8_portionOf_X8_isOne : GoodIn wsX8_portionOf wsX8_isOne := goodIn_r _ [7, 8, 9, 6, 10] rfl (by decide +kernel)
set_option maxRecDepth 20000 in
theorem gX8_portionOf_X8_isOne : GoodIn wsX8_portionOf (va_wsS RX8 60 yX8_isOne wsX8_isOne) := goodIn_app (goodIn_of _ (by decide +kernel)) ggX8_portionOf_X8_isOne
set_option maxRecDepth 20000 in
theorem ggX8_portionOf_X8_in : GoodIn wsX8_portionOf wsX8_in := goodIn_r _ [10] rfl (by decide +kernel)
set_option maxRecDepth 20000 in
theorem gX8_portionOf_X8_in : GoodIn wsX8_portionOf (va_wsS RX8 28 yX8_in wsX8_in) := goodIn_app (goodIn_of _ (by decide +kernel)) ggX8_portionOf_X8_in
set_option maxRecDepth 20000 in
theorem ggX8_portionOf_X8_amountOf : GoodIn wsX8_portionOf wsX8_amountOf := goodIn_r _ [13] rfl (by decide +kernel)
set_option maxRecDepth 20000 in
theorem gX8_portionOf_X8_amountOf : GoodIn wsX8_portionOf (va_wsS RX8 47 yX8_amountOf wsX8_amountOf) := goodIn_app (goodIn_of _ (by decide +kernel)) ggX8_portionOf_X8_amountOf
set_option maxRecDepth 20000 in
theorem ggX8_portionOf_X8_kindOf : GoodIn wsX8_portionOf wsX8_kindOf := goodIn_r _ [16] rfl (by decide +kernel)
set_option maxRecDepth 20000 in
theorem gX8_portionOf_X8_kindOf : GoodIn wsX8_portionOf (va_wsS RX8 40 yX8_kindOf wsX8_kindOf) := goodIn_app (goodIn_of _ (by decide +kernel)) ggX8_portionOf_X8_kindOf
set_option maxRecDepth 20000 in
theorem ggX8_portionOf_X8_burrIn : GoodIn wsX8_portionOf wsX8_burrIn := goodIn_r _ [19] rfl (by decide +kernel)
set_option maxRecDepth 20000 in
theorem gX8_portionOf_X8_burrIn : GoodIn wsX8_portionOf (va_wsS RX8 103 yX8_burrIn wsX8_burrIn) := goodIn_app (goodIn_of _ (by decide +kernel)) ggX8_portionOf_X8_burrIn
set_option maxRecDepth 20000 in
theorem ggX8_portionOf_X8_gapOf : GoodIn wsX8_portionOf wsX8_gapOf := goodIn_r _ [22] rfl (by decide +kernel)
set_option maxRecDepth 20000 in
theorem gX8_portionOf_X8_gapOf : GoodIn wsX8_portionOf (va_wsS RX8 44 yX8_gapOf wsX8_gapOf) := goodIn_app (goodIn_of _ (by decide +kernel)) ggX8_portionOf_X8_gapOf
set_option maxRecDepth 20000 in
theorem ggX8_portionOf_X8_flowOf : GoodIn wsX8_portionOf wsX8_flowOf := goodIn_r _ [26, 2, 14, 15, 6, 16, 20, 21, 22, 27, 28, 29, 30, 31, 32, 33, 34, 35, 36, 37, 38, 39, 40, 41] rfl (by decide +kernel)
set_option maxRecDepth 20000 in
theorem gX8_portionOf_X8_flowOf : GoodIn wsX8_portionOf (wsV RX8 97 RX8 yX8_flowOf wsX8_flowOf) := goodIn_app (goodIn_of _ (by decide +kernel)) ggX8_portionOf_X8_flowOf
theorem dX8_portionOf_0 : decode cX8_portionOf 0 = .ok (.iload_n 1, 1) := by decide +kernel
theorem dX8_portionOf_1 : decode cX8_portionOf 1 = .ok (.invokestatic 60, 3) := by decide +kernel
theorem dX8_portionOf_4 : decode cX8_portionOf 4 = .ok (.ifCond .eq 16, 3) := by decide +kernel
theorem dX8_portionOf_7 : decode cX8_portionOf 7 = .ok (.iload_n 2, 1) := by decide +kernel
theorem dX8_portionOf_8 : decode cX8_portionOf 8 = .ok (.ifCond .lt 12, 3) := by decide +kernel
theorem dX8_portionOf_11 : decode cX8_portionOf 11 = .ok (.iload_n 3, 1) := by decide +kernel
theorem dX8_portionOf_12 : decode cX8_portionOf 12 = .ok (.iconst 0, 1) := by decide +kernel
theorem dX8_portionOf_13 : decode cX8_portionOf 13 = .ok (.iconst 4, 1) := by decide +kernel
theorem dX8_portionOf_14 : decode cX8_portionOf 14 = .ok (.invokestatic 28, 3) := by decide +kernel
theorem dX8_portionOf_17 : decode cX8_portionOf 17 = .ok (.ifCond .ne 6, 3) := by decide +kernel
theorem dX8_portionOf_20 : decode cX8_portionOf 20 = .ok (.ldc 64, 2) := by decide +kernel
theorem dX8_portionOf_22 : decode cX8_portionOf 22 = .ok (.ireturn, 1) := by decide +kernel
theorem dX8_portionOf_23 : decode cX8_portionOf 23 = .ok (.iload_n 2, 1) := by decide +kernel
theorem dX8_portionOf_24 : decode cX8_portionOf 24 = .ok (.aload_n 0, 1) := by decide +kernel
theorem dX8_portionOf_25 : decode cX8_portionOf 25 = .ok (.getfield 7, 3) := by decide +kernel
theorem dX8_portionOf_28 : decode cX8_portionOf 28 = .ok (.iload_n 1, 1) := by decide +kernel
theorem dX8_portionOf_29 : decode cX8_portionOf 29 = .ok (.ifCond .ne 8, 3) := by decide +kernel
theorem dX8_portionOf_32 : decode cX8_portionOf 32 = .ok (.bipush 34, 2) := by decide +kernel
theorem dX8_portionOf_34 : decode cX8_portionOf 34 = .ok (.goto 6, 3) := by decide +kernel
theorem dX8_portionOf_37 : decode cX8_portionOf 37 = .ok (.sipush 145, 3) := by decide +kernel
theorem dX8_portionOf_40 : decode cX8_portionOf 40 = .ok (.iaload, 1) := by decide +kernel
theorem dX8_portionOf_41 : decode cX8_portionOf 41 = .ok (.if_icmp .lt 6, 3) := by decide +kernel
theorem dX8_portionOf_44 : decode cX8_portionOf 44 = .ok (.ldc 96, 2) := by decide +kernel
theorem dX8_portionOf_46 : decode cX8_portionOf 46 = .ok (.ireturn, 1) := by decide +kernel
theorem dX8_portionOf_47 : decode cX8_portionOf 47 = .ok (.aload_n 0, 1) := by decide +kernel
theorem dX8_portionOf_48 : decode cX8_portionOf 48 = .ok (.getfield 7, 3) := by decide +kernel
theorem dX8_portionOf_51 : decode cX8_portionOf 51 = .ok (.iload_n 1, 1) := by decide +kernel
theorem dX8_portionOf_52 : decode cX8_portionOf 52 = .ok (.ifCond .ne 8, 3) := by decide +kernel
theorem dX8_portionOf_55 : decode cX8_portionOf 55 = .ok (.bipush 35, 2) := by decide +kernel
theorem dX8_portionOf_57 : decode cX8_portionOf 57 = .ok (.goto 6, 3) := by decide +kernel
theorem dX8_portionOf_60 : decode cX8_portionOf 60 = .ok (.sipush 146, 3) := by decide +kernel
theorem dX8_portionOf_63 : decode cX8_portionOf 63 = .ok (.iload_n 2, 1) := by decide +kernel
theorem dX8_portionOf_64 : decode cX8_portionOf 64 = .ok (.iadd, 1) := by decide +kernel
theorem dX8_portionOf_65 : decode cX8_portionOf 65 = .ok (.iaload, 1) := by decide +kernel
theorem dX8_portionOf_66 : decode cX8_portionOf 66 = .ok (.istore 4, 2) := by decide +kernel
theorem dX8_portionOf_68 : decode cX8_portionOf 68 = .ok (.iload_n 3, 1) := by decide +kernel
theorem dX8_portionOf_69 : decode cX8_portionOf 69 = .ok (.ifCond .ne 11, 3) := by decide +kernel
theorem dX8_portionOf_72 : decode cX8_portionOf 72 = .ok (.iload 4, 2) := by decide +kernel
theorem dX8_portionOf_74 : decode cX8_portionOf 74 = .ok (.invokestatic 47, 3) := by decide +kernel
theorem dX8_portionOf_77 : decode cX8_portionOf 77 = .ok (.goto 48, 3) := by decide +kernel
theorem dX8_portionOf_80 : decode cX8_portionOf 80 = .ok (.iload_n 3, 1) := by decide +kernel
theorem dX8_portionOf_81 : decode cX8_portionOf 81 = .ok (.iconst 1, 1) := by decide +kernel
theorem dX8_portionOf_82 : decode cX8_portionOf 82 = .ok (.if_icmp .ne 11, 3) := by decide +kernel
theorem dX8_portionOf_85 : decode cX8_portionOf 85 = .ok (.iload 4, 2) := by decide +kernel
theorem dX8_portionOf_87 : decode cX8_portionOf 87 = .ok (.invokestatic 40, 3) := by decide +kernel
theorem dX8_portionOf_90 : decode cX8_portionOf 90 = .ok (.goto 35, 3) := by decide +kernel
theorem dX8_portionOf_93 : decode cX8_portionOf 93 = .ok (.iload_n 3, 1) := by decide +kernel
theorem dX8_portionOf_94 : decode cX8_portionOf 94 = .ok (.iconst 2, 1) := by decide +kernel
theorem dX8_portionOf_95 : decode cX8_portionOf 95 = .ok (.if_icmp .ne 11, 3) := by decide +kernel
theorem dX8_portionOf_98 : decode cX8_portionOf 98 = .ok (.iload 4, 2) := by decide +kernel
theorem dX8_portionOf_100 : decode cX8_portionOf 100 = .ok (.invokestatic 103, 3) := by decide +kernel
theorem dX8_portionOf_103 : decode cX8_portionOf 103 = .ok (.goto 22, 3) := by decide +kernel
theorem dX8_portionOf_106 : decode cX8_portionOf 106 = .ok (.iload_n 3, 1) := by decide +kernel
theorem dX8_portionOf_107 : decode cX8_portionOf 107 = .ok (.iconst 3, 1) := by decide +kernel
theorem dX8_portionOf_108 : decode cX8_portionOf 108 = .ok (.if_icmp .ne 11, 3) := by decide +kernel
theorem dX8_portionOf_111 : decode cX8_portionOf 111 = .ok (.iload 4, 2) := by decide +kernel
theorem dX8_portionOf_113 : decode cX8_portionOf 113 = .ok (.invokestatic 44, 3) := by decide +kernel
theorem dX8_portionOf_116 : decode cX8_portionOf 116 = .ok (.goto 9, 3) := by decide +kernel
theorem dX8_portionOf_119 : decode cX8_portionOf 119 = .ok (.aload_n 0, 1) := by decide +kernel
theorem dX8_portionOf_120 : decode cX8_portionOf 120 = .ok (.iload 4, 2) := by decide +kernel
theorem dX8_portionOf_122 : decode cX8_portionOf 122 = .ok (.invokevirtual 97, 3) := by decide +kernel
theorem dX8_portionOf_125 : decode cX8_portionOf 125 = .ok (.ireturn, 1) := by decide +kernel
set_option maxRecDepth 20000 in
theorem ggX8_shotOf_X8_in : GoodIn wsX8_shotOf wsX8_in := goodIn_r _ [7] rfl (by decide +kernel)
set_option maxRecDepth 20000 in
theorem gX8_shotOf_X8_in : GoodIn wsX8_shotOf (va_wsS RX8 28 yX8_in wsX8_in) := goodIn_app (goodIn_of _ (by decide +kernel)) ggX8_shotOf_X8_in
set_option maxRecDepth 20000 in
theorem ggX8_shotOf_X8_away : GoodIn wsX8_shotOf wsX8_away := goodIn_r _ [11, 2, 12, 13, 14, 15, 16, 17, 18, 19, 20, 21, 22, 23, 24, 25, 26] rfl (by decide +kernel)
set_option maxRecDepth 20000 in
theorem gX8_shotOf_X8_away : GoodIn wsX8_shotOf (wsV RX8 106 RX8 yX8_away wsX8_away) := goodIn_app (goodIn_of _ (by decide +kernel)) ggX8_shotOf_X8_away
theorem dX8_shotOf_0 : decode cX8_shotOf 0 = .ok (.iload_n 1, 1) := by decide +kernel
theorem dX8_shotOf_1 : decode cX8_shotOf 1 = .ok (.ifCond .lt 13, 3) := by decide +kernel
theorem dX8_shotOf_4 : decode cX8_shotOf 4 = .ok (.iload_n 2, 1) := by decide +kernel
theorem dX8_shotOf_5 : decode cX8_shotOf 5 = .ok (.iconst 0, 1) := by decide +kernel
theorem dX8_shotOf_6 : decode cX8_shotOf 6 = .ok (.bipush 7, 2) := by decide +kernel
theorem dX8_shotOf_8 : decode cX8_shotOf 8 = .ok (.invokestatic 28, 3) := by decide +kernel
theorem dX8_shotOf_11 : decode cX8_shotOf 11 = .ok (.ifCond .ne 6, 3) := by decide +kernel
theorem dX8_shotOf_14 : decode cX8_shotOf 14 = .ok (.ldc 64, 2) := by decide +kernel
theorem dX8_shotOf_16 : decode cX8_shotOf 16 = .ok (.ireturn, 1) := by decide +kernel
theorem dX8_shotOf_17 : decode cX8_shotOf 17 = .ok (.iload_n 1, 1) := by decide +kernel
theorem dX8_shotOf_18 : decode cX8_shotOf 18 = .ok (.aload_n 0, 1) := by decide +kernel
theorem dX8_shotOf_19 : decode cX8_shotOf 19 = .ok (.getfield 7, 3) := by decide +kernel
theorem dX8_shotOf_22 : decode cX8_shotOf 22 = .ok (.sipush 546, 3) := by decide +kernel
theorem dX8_shotOf_25 : decode cX8_shotOf 25 = .ok (.iaload, 1) := by decide +kernel
theorem dX8_shotOf_26 : decode cX8_shotOf 26 = .ok (.if_icmp .lt 6, 3) := by decide +kernel
theorem dX8_shotOf_29 : decode cX8_shotOf 29 = .ok (.ldc 96, 2) := by decide +kernel
theorem dX8_shotOf_31 : decode cX8_shotOf 31 = .ok (.ireturn, 1) := by decide +kernel
theorem dX8_shotOf_32 : decode cX8_shotOf 32 = .ok (.sipush 547, 3) := by decide +kernel
theorem dX8_shotOf_35 : decode cX8_shotOf 35 = .ok (.bipush 7, 2) := by decide +kernel
theorem dX8_shotOf_37 : decode cX8_shotOf 37 = .ok (.iload_n 1, 1) := by decide +kernel
theorem dX8_shotOf_38 : decode cX8_shotOf 38 = .ok (.imul, 1) := by decide +kernel
theorem dX8_shotOf_39 : decode cX8_shotOf 39 = .ok (.iadd, 1) := by decide +kernel
theorem dX8_shotOf_40 : decode cX8_shotOf 40 = .ok (.istore_n 3, 1) := by decide +kernel
theorem dX8_shotOf_41 : decode cX8_shotOf 41 = .ok (.iload_n 2, 1) := by decide +kernel
theorem dX8_shotOf_42 : decode cX8_shotOf 42 = .ok (.iconst 5, 1) := by decide +kernel
theorem dX8_shotOf_43 : decode cX8_shotOf 43 = .ok (.if_icmp .ne 18, 3) := by decide +kernel
theorem dX8_shotOf_46 : decode cX8_shotOf 46 = .ok (.aload_n 0, 1) := by decide +kernel
theorem dX8_shotOf_47 : decode cX8_shotOf 47 = .ok (.aload_n 0, 1) := by decide +kernel
theorem dX8_shotOf_48 : decode cX8_shotOf 48 = .ok (.getfield 7, 3) := by decide +kernel
theorem dX8_shotOf_51 : decode cX8_shotOf 51 = .ok (.iload_n 3, 1) := by decide +kernel
theorem dX8_shotOf_52 : decode cX8_shotOf 52 = .ok (.iconst 1, 1) := by decide +kernel
theorem dX8_shotOf_53 : decode cX8_shotOf 53 = .ok (.iadd, 1) := by decide +kernel
theorem dX8_shotOf_54 : decode cX8_shotOf 54 = .ok (.iaload, 1) := by decide +kernel
theorem dX8_shotOf_55 : decode cX8_shotOf 55 = .ok (.invokevirtual 106, 3) := by decide +kernel
theorem dX8_shotOf_58 : decode cX8_shotOf 58 = .ok (.goto 22, 3) := by decide +kernel
theorem dX8_shotOf_61 : decode cX8_shotOf 61 = .ok (.aload_n 0, 1) := by decide +kernel
theorem dX8_shotOf_62 : decode cX8_shotOf 62 = .ok (.getfield 7, 3) := by decide +kernel
theorem dX8_shotOf_65 : decode cX8_shotOf 65 = .ok (.iload_n 3, 1) := by decide +kernel
theorem dX8_shotOf_66 : decode cX8_shotOf 66 = .ok (.iload_n 2, 1) := by decide +kernel
theorem dX8_shotOf_67 : decode cX8_shotOf 67 = .ok (.iconst 5, 1) := by decide +kernel
theorem dX8_shotOf_68 : decode cX8_shotOf 68 = .ok (.if_icmp .ge 7, 3) := by decide +kernel
theorem dX8_shotOf_71 : decode cX8_shotOf 71 = .ok (.iload_n 2, 1) := by decide +kernel
theorem dX8_shotOf_72 : decode cX8_shotOf 72 = .ok (.goto 6, 3) := by decide +kernel
theorem dX8_shotOf_75 : decode cX8_shotOf 75 = .ok (.iload_n 2, 1) := by decide +kernel
theorem dX8_shotOf_76 : decode cX8_shotOf 76 = .ok (.iconst 1, 1) := by decide +kernel
theorem dX8_shotOf_77 : decode cX8_shotOf 77 = .ok (.isub, 1) := by decide +kernel
theorem dX8_shotOf_78 : decode cX8_shotOf 78 = .ok (.iadd, 1) := by decide +kernel
theorem dX8_shotOf_79 : decode cX8_shotOf 79 = .ok (.iaload, 1) := by decide +kernel
theorem dX8_shotOf_80 : decode cX8_shotOf 80 = .ok (.ireturn, 1) := by decide +kernel
set_option maxRecDepth 20000 in
theorem ggX8_best_X8_away : GoodIn wsX8_best wsX8_away := goodIn_r _ [8, 3, 9, 10, 11, 12, 13, 14, 15, 16, 17, 18, 19, 20, 21, 22, 23] rfl (by decide +kernel)
set_option maxRecDepth 20000 in
theorem gX8_best_X8_away : GoodIn wsX8_best (wsV RX8 106 RX8 yX8_away wsX8_away) := goodIn_app (goodIn_of _ (by decide +kernel)) ggX8_best_X8_away
theorem dX8_best_0 : decode cX8_best 0 = .ok (.iload_n 1, 1) := by decide +kernel
theorem dX8_best_1 : decode cX8_best 1 = .ok (.ifCond .ge 6, 3) := by decide +kernel
theorem dX8_best_4 : decode cX8_best 4 = .ok (.ldc 64, 2) := by decide +kernel
theorem dX8_best_6 : decode cX8_best 6 = .ok (.ireturn, 1) := by decide +kernel
theorem dX8_best_7 : decode cX8_best 7 = .ok (.ldc 96, 2) := by decide +kernel
theorem dX8_best_9 : decode cX8_best 9 = .ok (.istore_n 2, 1) := by decide +kernel
theorem dX8_best_10 : decode cX8_best 10 = .ok (.iconst 0, 1) := by decide +kernel
theorem dX8_best_11 : decode cX8_best 11 = .ok (.istore_n 3, 1) := by decide +kernel
theorem dX8_best_12 : decode cX8_best 12 = .ok (.iload_n 3, 1) := by decide +kernel
theorem dX8_best_13 : decode cX8_best 13 = .ok (.aload_n 0, 1) := by decide +kernel
theorem dX8_best_14 : decode cX8_best 14 = .ok (.getfield 7, 3) := by decide +kernel
theorem dX8_best_17 : decode cX8_best 17 = .ok (.sipush 546, 3) := by decide +kernel
theorem dX8_best_20 : decode cX8_best 20 = .ok (.iaload, 1) := by decide +kernel
theorem dX8_best_21 : decode cX8_best 21 = .ok (.if_icmp .ge 131, 3) := by decide +kernel
theorem dX8_best_24 : decode cX8_best 24 = .ok (.aload_n 0, 1) := by decide +kernel
theorem dX8_best_25 : decode cX8_best 25 = .ok (.aload_n 0, 1) := by decide +kernel
theorem dX8_best_26 : decode cX8_best 26 = .ok (.getfield 7, 3) := by decide +kernel
theorem dX8_best_29 : decode cX8_best 29 = .ok (.sipush 547, 3) := by decide +kernel
theorem dX8_best_32 : decode cX8_best 32 = .ok (.bipush 7, 2) := by decide +kernel
theorem dX8_best_34 : decode cX8_best 34 = .ok (.iload_n 3, 1) := by decide +kernel
theorem dX8_best_35 : decode cX8_best 35 = .ok (.imul, 1) := by decide +kernel
theorem dX8_best_36 : decode cX8_best 36 = .ok (.iadd, 1) := by decide +kernel
theorem dX8_best_37 : decode cX8_best 37 = .ok (.iconst 1, 1) := by decide +kernel
theorem dX8_best_38 : decode cX8_best 38 = .ok (.iadd, 1) := by decide +kernel
theorem dX8_best_39 : decode cX8_best 39 = .ok (.iaload, 1) := by decide +kernel
theorem dX8_best_40 : decode cX8_best 40 = .ok (.invokevirtual 106, 3) := by decide +kernel
theorem dX8_best_43 : decode cX8_best 43 = .ok (.istore 4, 2) := by decide +kernel
theorem dX8_best_45 : decode cX8_best 45 = .ok (.iconst 0, 1) := by decide +kernel
theorem dX8_best_46 : decode cX8_best 46 = .ok (.istore 5, 2) := by decide +kernel
theorem dX8_best_48 : decode cX8_best 48 = .ok (.iconst 0, 1) := by decide +kernel
theorem dX8_best_49 : decode cX8_best 49 = .ok (.istore 6, 2) := by decide +kernel
theorem dX8_best_51 : decode cX8_best 51 = .ok (.iload 6, 2) := by decide +kernel
theorem dX8_best_53 : decode cX8_best 53 = .ok (.aload_n 0, 1) := by decide +kernel
theorem dX8_best_54 : decode cX8_best 54 = .ok (.getfield 7, 3) := by decide +kernel
theorem dX8_best_57 : decode cX8_best 57 = .ok (.sipush 546, 3) := by decide +kernel
theorem dX8_best_60 : decode cX8_best 60 = .ok (.iaload, 1) := by decide +kernel
theorem dX8_best_61 : decode cX8_best 61 = .ok (.if_icmp .ge 61, 3) := by decide +kernel
theorem dX8_best_64 : decode cX8_best 64 = .ok (.aload_n 0, 1) := by decide +kernel
theorem dX8_best_65 : decode cX8_best 65 = .ok (.aload_n 0, 1) := by decide +kernel
theorem dX8_best_66 : decode cX8_best 66 = .ok (.getfield 7, 3) := by decide +kernel
theorem dX8_best_69 : decode cX8_best 69 = .ok (.sipush 547, 3) := by decide +kernel
theorem dX8_best_72 : decode cX8_best 72 = .ok (.bipush 7, 2) := by decide +kernel
theorem dX8_best_74 : decode cX8_best 74 = .ok (.iload 6, 2) := by decide +kernel
theorem dX8_best_76 : decode cX8_best 76 = .ok (.imul, 1) := by decide +kernel
theorem dX8_best_77 : decode cX8_best 77 = .ok (.iadd, 1) := by decide +kernel
theorem dX8_best_78 : decode cX8_best 78 = .ok (.iconst 1, 1) := by decide +kernel
theorem dX8_best_79 : decode cX8_best 79 = .ok (.iadd, 1) := by decide +kernel
theorem dX8_best_80 : decode cX8_best 80 = .ok (.iaload, 1) := by decide +kernel
theorem dX8_best_81 : decode cX8_best 81 = .ok (.invokevirtual 106, 3) := by decide +kernel
theorem dX8_best_84 : decode cX8_best 84 = .ok (.istore 7, 2) := by decide +kernel
theorem dX8_best_86 : decode cX8_best 86 = .ok (.iload 5, 2) := by decide +kernel
theorem dX8_best_88 : decode cX8_best 88 = .ok (.iload 7, 2) := by decide +kernel
theorem dX8_best_90 : decode cX8_best 90 = .ok (.iload 4, 2) := by decide +kernel
theorem dX8_best_92 : decode cX8_best 92 = .ok (.if_icmp .lt 16, 3) := by decide +kernel
theorem dX8_best_95 : decode cX8_best 95 = .ok (.iload 7, 2) := by decide +kernel
theorem dX8_best_97 : decode cX8_best 97 = .ok (.iload 4, 2) := by decide +kernel
theorem dX8_best_99 : decode cX8_best 99 = .ok (.if_icmp .ne 13, 3) := by decide +kernel
theorem dX8_best_102 : decode cX8_best 102 = .ok (.iload 6, 2) := by decide +kernel
theorem dX8_best_104 : decode cX8_best 104 = .ok (.iload_n 3, 1) := by decide +kernel
theorem dX8_best_105 : decode cX8_best 105 = .ok (.if_icmp .ge 7, 3) := by decide +kernel
theorem dX8_best_108 : decode cX8_best 108 = .ok (.iconst 1, 1) := by decide +kernel
theorem dX8_best_109 : decode cX8_best 109 = .ok (.goto 4, 3) := by decide +kernel
theorem dX8_best_112 : decode cX8_best 112 = .ok (.iconst 0, 1) := by decide +kernel
theorem dX8_best_113 : decode cX8_best 113 = .ok (.iadd, 1) := by decide +kernel
theorem dX8_best_114 : decode cX8_best 114 = .ok (.istore 5, 2) := by decide +kernel
theorem dX8_best_116 : decode cX8_best 116 = .ok (.iinc 6 1, 3) := by decide +kernel
theorem dX8_best_119 : decode cX8_best 119 = .ok (.goto (-68), 3) := by decide +kernel
theorem dX8_best_122 : decode cX8_best 122 = .ok (.iload 5, 2) := by decide +kernel
theorem dX8_best_124 : decode cX8_best 124 = .ok (.iload_n 1, 1) := by decide +kernel
theorem dX8_best_125 : decode cX8_best 125 = .ok (.if_icmp .ne 19, 3) := by decide +kernel
theorem dX8_best_128 : decode cX8_best 128 = .ok (.aload_n 0, 1) := by decide +kernel
theorem dX8_best_129 : decode cX8_best 129 = .ok (.getfield 7, 3) := by decide +kernel
theorem dX8_best_132 : decode cX8_best 132 = .ok (.sipush 547, 3) := by decide +kernel
theorem dX8_best_135 : decode cX8_best 135 = .ok (.bipush 7, 2) := by decide +kernel
theorem dX8_best_137 : decode cX8_best 137 = .ok (.iload_n 3, 1) := by decide +kernel
theorem dX8_best_138 : decode cX8_best 138 = .ok (.imul, 1) := by decide +kernel
theorem dX8_best_139 : decode cX8_best 139 = .ok (.iadd, 1) := by decide +kernel
theorem dX8_best_140 : decode cX8_best 140 = .ok (.iaload, 1) := by decide +kernel
theorem dX8_best_141 : decode cX8_best 141 = .ok (.goto 4, 3) := by decide +kernel
theorem dX8_best_144 : decode cX8_best 144 = .ok (.iload_n 2, 1) := by decide +kernel
theorem dX8_best_145 : decode cX8_best 145 = .ok (.istore_n 2, 1) := by decide +kernel
theorem dX8_best_146 : decode cX8_best 146 = .ok (.iinc 3 1, 3) := by decide +kernel
theorem dX8_best_149 : decode cX8_best 149 = .ok (.goto (-137), 3) := by decide +kernel
theorem dX8_best_152 : decode cX8_best 152 = .ok (.iload_n 2, 1) := by decide +kernel
theorem dX8_best_153 : decode cX8_best 153 = .ok (.ireturn, 1) := by decide +kernel
set_option maxRecDepth 20000 in
theorem ggX8_wouldTake_X8_couldGrind : GoodIn wsX8_wouldTake wsX8_couldGrind := goodIn_r _ [8, 9, 2, 1, 10, 11, 12, 7, 13, 14, 15, 16, 17, 18, 19, 20, 21, 22, 23, 24, 25, 26, 27, 68, 69, 70, 71, 72, 73, 74, 75, 76, 77, 78, 79, 80, 81, 82] rfl (by decide +kernel)
set_option maxRecDepth 20000 in
theorem gX8_wouldTake_X8_couldGrind : GoodIn wsX8_wouldTake (wsV RX8 87 RX8 yX8_couldGrind wsX8_couldGrind) := goodIn_app (goodIn_of _ (by decide +kernel)) ggX8_wouldTake_X8_couldGrind
set_option maxRecDepth 20000 in
theorem ggX8_wouldTake_X8_copies : GoodIn wsX8_wouldTake wsX8_copies := goodIn_r _ [30] rfl (by decide +kernel)
set_option maxRecDepth 20000 in
theorem gX8_wouldTake_X8_copies : GoodIn wsX8_wouldTake (va_wsS RX8 118 yX8_copies wsX8_copies) := goodIn_app (goodIn_of _ (by decide +kernel)) ggX8_wouldTake_X8_copies
set_option maxRecDepth 20000 in
theorem ggX8_wouldTake_X8_grinds : GoodIn wsX8_wouldTake wsX8_grinds := goodIn_r _ [34, 1, 35, 36, 37, 7, 38, 39, 40, 41, 42, 43, 44, 45, 46, 47, 48, 49, 50, 51, 52, 53, 21, 22, 23, 24, 25, 26, 27, 68, 69, 70, 71, 72, 73, 74, 75, 76, 77, 78, 79, 80, 81, 82] rfl (by decide +kernel)
set_option maxRecDepth 20000 in
theorem gX8_wouldTake_X8_grinds : GoodIn wsX8_wouldTake (wsV RX8 90 RX8 yX8_grinds wsX8_grinds) := goodIn_app (goodIn_of _ (by decide +kernel)) ggX8_wouldTake_X8_grinds
set_option maxRecDepth 20000 in
theorem ggX8_wouldTake_X8_timeNow : GoodIn wsX8_wouldTake wsX8_timeNow := goodIn_r _ [57, 1, 25, 26, 7, 27, 58, 59, 60, 61, 62, 63, 64, 65, 66, 67, 21, 22, 23, 24, 68, 69, 70, 71, 72, 73, 74, 75, 76, 77, 78, 79, 80, 81, 82] rfl (by decide +kernel)
set_option maxRecDepth 20000 in
theorem gX8_wouldTake_X8_timeNow : GoodIn wsX8_wouldTake (wsV RX8 100 RX8 yX8_timeNow wsX8_timeNow) := goodIn_app (goodIn_of _ (by decide +kernel)) ggX8_wouldTake_X8_timeNow
theorem dX8_wouldTake_0 : decode cX8_wouldTake 0 = .ok (.aload_n 0, 1) := by decide +kernel
theorem dX8_wouldTake_1 : decode cX8_wouldTake 1 = .ok (.iload_n 1, 1) := by decide +kernel
theorem dX8_wouldTake_2 : decode cX8_wouldTake 2 = .ok (.iload_n 2, 1) := by decide +kernel
theorem dX8_wouldTake_3 : decode cX8_wouldTake 3 = .ok (.invokevirtual 87, 3) := by decide +kernel
theorem dX8_wouldTake_6 : decode cX8_wouldTake 6 = .ok (.istore_n 3, 1) := by decide +kernel
theorem dX8_wouldTake_7 : decode cX8_wouldTake 7 = .ok (.iload_n 3, 1) := by decide +kernel
theorem dX8_wouldTake_8 : decode cX8_wouldTake 8 = .ok (.ifCond .ge 5, 3) := by decide +kernel
theorem dX8_wouldTake_11 : decode cX8_wouldTake 11 = .ok (.iload_n 3, 1) := by decide +kernel
theorem dX8_wouldTake_12 : decode cX8_wouldTake 12 = .ok (.ireturn, 1) := by decide +kernel
theorem dX8_wouldTake_13 : decode cX8_wouldTake 13 = .ok (.iload_n 3, 1) := by decide +kernel
theorem dX8_wouldTake_14 : decode cX8_wouldTake 14 = .ok (.ifCond .ne 17, 3) := by decide +kernel
theorem dX8_wouldTake_17 : decode cX8_wouldTake 17 = .ok (.aload_n 0, 1) := by decide +kernel
theorem dX8_wouldTake_18 : decode cX8_wouldTake 18 = .ok (.getfield 7, 3) := by decide +kernel
theorem dX8_wouldTake_21 : decode cX8_wouldTake 21 = .ok (.sipush 145, 3) := by decide +kernel
theorem dX8_wouldTake_24 : decode cX8_wouldTake 24 = .ok (.iaload, 1) := by decide +kernel
theorem dX8_wouldTake_25 : decode cX8_wouldTake 25 = .ok (.ifCond .ne 6, 3) := by decide +kernel
theorem dX8_wouldTake_28 : decode cX8_wouldTake 28 = .ok (.ldc 79, 2) := by decide +kernel
theorem dX8_wouldTake_30 : decode cX8_wouldTake 30 = .ok (.ireturn, 1) := by decide +kernel
theorem dX8_wouldTake_31 : decode cX8_wouldTake 31 = .ok (.aload_n 0, 1) := by decide +kernel
theorem dX8_wouldTake_32 : decode cX8_wouldTake 32 = .ok (.getfield 7, 3) := by decide +kernel
theorem dX8_wouldTake_35 : decode cX8_wouldTake 35 = .ok (.aload_n 0, 1) := by decide +kernel
theorem dX8_wouldTake_36 : decode cX8_wouldTake 36 = .ok (.getfield 19, 3) := by decide +kernel
theorem dX8_wouldTake_39 : decode cX8_wouldTake 39 = .ok (.invokestatic 118, 3) := by decide +kernel
theorem dX8_wouldTake_42 : decode cX8_wouldTake 42 = .ok (.aload_n 0, 1) := by decide +kernel
theorem dX8_wouldTake_43 : decode cX8_wouldTake 43 = .ok (.iload_n 1, 1) := by decide +kernel
theorem dX8_wouldTake_44 : decode cX8_wouldTake 44 = .ok (.iload_n 2, 1) := by decide +kernel
theorem dX8_wouldTake_45 : decode cX8_wouldTake 45 = .ok (.invokevirtual 90, 3) := by decide +kernel
theorem dX8_wouldTake_48 : decode cX8_wouldTake 48 = .ok (.aload_n 0, 1) := by decide +kernel
theorem dX8_wouldTake_49 : decode cX8_wouldTake 49 = .ok (.invokevirtual 100, 3) := by decide +kernel
theorem dX8_wouldTake_52 : decode cX8_wouldTake 52 = .ok (.istore 4, 2) := by decide +kernel
theorem dX8_wouldTake_54 : decode cX8_wouldTake 54 = .ok (.aload_n 0, 1) := by decide +kernel
theorem dX8_wouldTake_55 : decode cX8_wouldTake 55 = .ok (.getfield 19, 3) := by decide +kernel
theorem dX8_wouldTake_58 : decode cX8_wouldTake 58 = .ok (.aload_n 0, 1) := by decide +kernel
theorem dX8_wouldTake_59 : decode cX8_wouldTake 59 = .ok (.getfield 7, 3) := by decide +kernel
theorem dX8_wouldTake_62 : decode cX8_wouldTake 62 = .ok (.invokestatic 118, 3) := by decide +kernel
theorem dX8_wouldTake_65 : decode cX8_wouldTake 65 = .ok (.iload 4, 2) := by decide +kernel
theorem dX8_wouldTake_67 : decode cX8_wouldTake 67 = .ok (.ireturn, 1) := by decide +kernel
set_option maxRecDepth 20000 in
theorem ggX8_dialFor_X8_isOne : GoodIn wsX8_dialFor wsX8_isOne := goodIn_r _ [6, 7, 8, 5, 9] rfl (by decide +kernel)
set_option maxRecDepth 20000 in
theorem gX8_dialFor_X8_isOne : GoodIn wsX8_dialFor (va_wsS RX8 60 yX8_isOne wsX8_isOne) := goodIn_app (goodIn_of _ (by decide +kernel)) ggX8_dialFor_X8_isOne
set_option maxRecDepth 20000 in
theorem ggX8_dialFor_X8_ofBurr : GoodIn wsX8_dialFor wsX8_ofBurr := goodIn_r _ [13, 2, 21, 22, 23, 24, 25, 26, 27, 28, 29, 30, 31, 32, 33, 34, 35] rfl (by decide +kernel)
set_option maxRecDepth 20000 in
theorem gX8_dialFor_X8_ofBurr : GoodIn wsX8_dialFor (wsV RX8 50 RX8 yX8_ofBurr wsX8_ofBurr) := goodIn_app (goodIn_of _ (by decide +kernel)) ggX8_dialFor_X8_ofBurr
set_option maxRecDepth 20000 in
theorem ggX8_dialFor_X8_gapBy : GoodIn wsX8_dialFor wsX8_gapBy := goodIn_r _ [16] rfl (by decide +kernel)
set_option maxRecDepth 20000 in
theorem gX8_dialFor_X8_gapBy : GoodIn wsX8_dialFor (va_wsS RX8 54 yX8_gapBy wsX8_gapBy) := goodIn_app (goodIn_of _ (by decide +kernel)) ggX8_dialFor_X8_gapBy
set_option maxRecDepth 20000 in
theorem ggX8_dialFor_X8_away : GoodIn wsX8_dialFor wsX8_away := goodIn_r _ [20, 2, 21, 22, 23, 24, 25, 26, 27, 28, 29, 30, 31, 32, 33, 34, 35] rfl (by decide +kernel)
set_option maxRecDepth 20000 in
theorem gX8_dialFor_X8_away : GoodIn wsX8_dialFor (wsV RX8 106 RX8 yX8_away wsX8_away) := goodIn_app (goodIn_of _ (by decide +kernel)) ggX8_dialFor_X8_away
theorem dX8_dialFor_0 : decode cX8_dialFor 0 = .ok (.iload_n 1, 1) := by decide +kernel
theorem dX8_dialFor_1 : decode cX8_dialFor 1 = .ok (.invokestatic 60, 3) := by decide +kernel
theorem dX8_dialFor_4 : decode cX8_dialFor 4 = .ok (.ifCond .eq 10, 3) := by decide +kernel
theorem dX8_dialFor_7 : decode cX8_dialFor 7 = .ok (.iload_n 2, 1) := by decide +kernel
theorem dX8_dialFor_8 : decode cX8_dialFor 8 = .ok (.invokestatic 60, 3) := by decide +kernel
theorem dX8_dialFor_11 : decode cX8_dialFor 11 = .ok (.ifCond .ne 6, 3) := by decide +kernel
theorem dX8_dialFor_14 : decode cX8_dialFor 14 = .ok (.ldc 64, 2) := by decide +kernel
theorem dX8_dialFor_16 : decode cX8_dialFor 16 = .ok (.ireturn, 1) := by decide +kernel
theorem dX8_dialFor_17 : decode cX8_dialFor 17 = .ok (.iconst 1, 1) := by decide +kernel
theorem dX8_dialFor_18 : decode cX8_dialFor 18 = .ok (.istore_n 3, 1) := by decide +kernel
theorem dX8_dialFor_19 : decode cX8_dialFor 19 = .ok (.iconst (-1), 1) := by decide +kernel
theorem dX8_dialFor_20 : decode cX8_dialFor 20 = .ok (.istore 4, 2) := by decide +kernel
theorem dX8_dialFor_22 : decode cX8_dialFor 22 = .ok (.iconst 1, 1) := by decide +kernel
theorem dX8_dialFor_23 : decode cX8_dialFor 23 = .ok (.istore 5, 2) := by decide +kernel
theorem dX8_dialFor_25 : decode cX8_dialFor 25 = .ok (.iload 5, 2) := by decide +kernel
theorem dX8_dialFor_27 : decode cX8_dialFor 27 = .ok (.bipush 60, 2) := by decide +kernel
theorem dX8_dialFor_29 : decode cX8_dialFor 29 = .ok (.if_icmp .gt 59, 3) := by decide +kernel
theorem dX8_dialFor_32 : decode cX8_dialFor 32 = .ok (.aload_n 0, 1) := by decide +kernel
theorem dX8_dialFor_33 : decode cX8_dialFor 33 = .ok (.aload_n 0, 1) := by decide +kernel
theorem dX8_dialFor_34 : decode cX8_dialFor 34 = .ok (.getfield 7, 3) := by decide +kernel
theorem dX8_dialFor_37 : decode cX8_dialFor 37 = .ok (.bipush 10, 2) := by decide +kernel
theorem dX8_dialFor_39 : decode cX8_dialFor 39 = .ok (.iload_n 2, 1) := by decide +kernel
theorem dX8_dialFor_40 : decode cX8_dialFor 40 = .ok (.iadd, 1) := by decide +kernel
theorem dX8_dialFor_41 : decode cX8_dialFor 41 = .ok (.iaload, 1) := by decide +kernel
theorem dX8_dialFor_42 : decode cX8_dialFor 42 = .ok (.sipush 1000, 3) := by decide +kernel
theorem dX8_dialFor_45 : decode cX8_dialFor 45 = .ok (.imul, 1) := by decide +kernel
theorem dX8_dialFor_46 : decode cX8_dialFor 46 = .ok (.iload 5, 2) := by decide +kernel
theorem dX8_dialFor_48 : decode cX8_dialFor 48 = .ok (.aload_n 0, 1) := by decide +kernel
theorem dX8_dialFor_49 : decode cX8_dialFor 49 = .ok (.iload_n 1, 1) := by decide +kernel
theorem dX8_dialFor_50 : decode cX8_dialFor 50 = .ok (.iconst 1, 1) := by decide +kernel
theorem dX8_dialFor_51 : decode cX8_dialFor 51 = .ok (.invokevirtual 50, 3) := by decide +kernel
theorem dX8_dialFor_54 : decode cX8_dialFor 54 = .ok (.invokestatic 54, 3) := by decide +kernel
theorem dX8_dialFor_57 : decode cX8_dialFor 57 = .ok (.idiv, 1) := by decide +kernel
theorem dX8_dialFor_58 : decode cX8_dialFor 58 = .ok (.invokevirtual 106, 3) := by decide +kernel
theorem dX8_dialFor_61 : decode cX8_dialFor 61 = .ok (.istore 6, 2) := by decide +kernel
theorem dX8_dialFor_63 : decode cX8_dialFor 63 = .ok (.iload 4, 2) := by decide +kernel
theorem dX8_dialFor_65 : decode cX8_dialFor 65 = .ok (.ifCond .lt 10, 3) := by decide +kernel
theorem dX8_dialFor_68 : decode cX8_dialFor 68 = .ok (.iload 6, 2) := by decide +kernel
theorem dX8_dialFor_70 : decode cX8_dialFor 70 = .ok (.iload 4, 2) := by decide +kernel
theorem dX8_dialFor_72 : decode cX8_dialFor 72 = .ok (.if_icmp .ge 10, 3) := by decide +kernel
theorem dX8_dialFor_75 : decode cX8_dialFor 75 = .ok (.iload 5, 2) := by decide +kernel
theorem dX8_dialFor_77 : decode cX8_dialFor 77 = .ok (.istore_n 3, 1) := by decide +kernel
theorem dX8_dialFor_78 : decode cX8_dialFor 78 = .ok (.iload 6, 2) := by decide +kernel
theorem dX8_dialFor_80 : decode cX8_dialFor 80 = .ok (.istore 4, 2) := by decide +kernel
theorem dX8_dialFor_82 : decode cX8_dialFor 82 = .ok (.iinc 5 1, 3) := by decide +kernel
theorem dX8_dialFor_85 : decode cX8_dialFor 85 = .ok (.goto (-60), 3) := by decide +kernel
theorem dX8_dialFor_88 : decode cX8_dialFor 88 = .ok (.iload_n 3, 1) := by decide +kernel
theorem dX8_dialFor_89 : decode cX8_dialFor 89 = .ok (.ireturn, 1) := by decide +kernel
set_option maxRecDepth 20000 in
theorem ggX8_stale_X8_isOne : GoodIn wsX8_stale wsX8_isOne := goodIn_r _ [7, 8, 9, 6, 10] rfl (by decide +kernel)
set_option maxRecDepth 20000 in
theorem gX8_stale_X8_isOne : GoodIn wsX8_stale (va_wsS RX8 60 yX8_isOne wsX8_isOne) := goodIn_app (goodIn_of _ (by decide +kernel)) ggX8_stale_X8_isOne
set_option maxRecDepth 20000 in
theorem ggX8_stale_X8_amountOf : GoodIn wsX8_stale wsX8_amountOf := goodIn_r _ [13] rfl (by decide +kernel)
set_option maxRecDepth 20000 in
theorem gX8_stale_X8_amountOf : GoodIn wsX8_stale (va_wsS RX8 47 yX8_amountOf wsX8_amountOf) := goodIn_app (goodIn_of _ (by decide +kernel)) ggX8_stale_X8_amountOf
set_option maxRecDepth 20000 in
theorem ggX8_stale_X8_kindOf : GoodIn wsX8_stale wsX8_kindOf := goodIn_r _ [16] rfl (by decide +kernel)
set_option maxRecDepth 20000 in
theorem gX8_stale_X8_kindOf : GoodIn wsX8_stale (va_wsS RX8 40 yX8_kindOf wsX8_kindOf) := goodIn_app (goodIn_of _ (by decide +kernel)) ggX8_stale_X8_kindOf
set_option maxRecDepth 20000 in
theorem ggX8_stale_X8_burrIn : GoodIn wsX8_stale wsX8_burrIn := goodIn_r _ [19] rfl (by decide +kernel)
set_option maxRecDepth 20000 in
theorem gX8_stale_X8_burrIn : GoodIn wsX8_stale (va_wsS RX8 103 yX8_burrIn wsX8_burrIn) := goodIn_app (goodIn_of _ (by decide +kernel)) ggX8_stale_X8_burrIn
set_option maxRecDepth 20000 in
theorem ggX8_stale_X8_gapOf : GoodIn wsX8_stale wsX8_gapOf := goodIn_r _ [22] rfl (by decide +kernel)
set_option maxRecDepth 20000 in
theorem gX8_stale_X8_gapOf : GoodIn wsX8_stale (va_wsS RX8 44 yX8_gapOf wsX8_gapOf) := goodIn_app (goodIn_of _ (by decide +kernel)) ggX8_stale_X8_gapOf
set_option maxRecDepth 20000 in
theorem ggX8_stale_X8_gap : GoodIn wsX8_stale wsX8_gap := goodIn_r _ [26, 27, 28, 29, 6, 30, 2, 31, 32, 33, 34, 35, 36, 37, 38, 39, 40, 41, 42, 43, 44, 45, 46, 47, 48] rfl (by decide +kernel)
set_option maxRecDepth 20000 in
theorem gX8_stale_X8_gap : GoodIn wsX8_stale (wsV RX8 73 RX8 yX8_gap wsX8_gap) := goodIn_app (goodIn_of _ (by decide +kernel)) ggX8_stale_X8_gap
theorem dX8_stale_0 : decode cX8_stale 0 = .ok (.iload_n 1, 1) := by decide +kernel
theorem dX8_stale_1 : decode cX8_stale 1 = .ok (.invokestatic 60, 3) := by decide +kernel
theorem dX8_stale_4 : decode cX8_stale 4 = .ok (.ifCond .ne 6, 3) := by decide +kernel
theorem dX8_stale_7 : decode cX8_stale 7 = .ok (.ldc 64, 2) := by decide +kernel
theorem dX8_stale_9 : decode cX8_stale 9 = .ok (.ireturn, 1) := by decide +kernel
theorem dX8_stale_10 : decode cX8_stale 10 = .ok (.aload_n 0, 1) := by decide +kernel
theorem dX8_stale_11 : decode cX8_stale 11 = .ok (.getfield 7, 3) := by decide +kernel
theorem dX8_stale_14 : decode cX8_stale 14 = .ok (.bipush 21, 2) := by decide +kernel
theorem dX8_stale_16 : decode cX8_stale 16 = .ok (.iaload, 1) := by decide +kernel
theorem dX8_stale_17 : decode cX8_stale 17 = .ok (.ifCond .ne 6, 3) := by decide +kernel
theorem dX8_stale_20 : decode cX8_stale 20 = .ok (.ldc 79, 2) := by decide +kernel
theorem dX8_stale_22 : decode cX8_stale 22 = .ok (.ireturn, 1) := by decide +kernel
theorem dX8_stale_23 : decode cX8_stale 23 = .ok (.iconst 0, 1) := by decide +kernel
theorem dX8_stale_24 : decode cX8_stale 24 = .ok (.istore_n 2, 1) := by decide +kernel
theorem dX8_stale_25 : decode cX8_stale 25 = .ok (.iconst 0, 1) := by decide +kernel
theorem dX8_stale_26 : decode cX8_stale 26 = .ok (.istore_n 3, 1) := by decide +kernel
theorem dX8_stale_27 : decode cX8_stale 27 = .ok (.iconst 0, 1) := by decide +kernel
theorem dX8_stale_28 : decode cX8_stale 28 = .ok (.istore 4, 2) := by decide +kernel
theorem dX8_stale_30 : decode cX8_stale 30 = .ok (.iload 4, 2) := by decide +kernel
theorem dX8_stale_32 : decode cX8_stale 32 = .ok (.aload_n 0, 1) := by decide +kernel
theorem dX8_stale_33 : decode cX8_stale 33 = .ok (.getfield 7, 3) := by decide +kernel
theorem dX8_stale_36 : decode cX8_stale 36 = .ok (.bipush 34, 2) := by decide +kernel
theorem dX8_stale_38 : decode cX8_stale 38 = .ok (.iaload, 1) := by decide +kernel
theorem dX8_stale_39 : decode cX8_stale 39 = .ok (.if_icmp .ge 72, 3) := by decide +kernel
theorem dX8_stale_42 : decode cX8_stale 42 = .ok (.aload_n 0, 1) := by decide +kernel
theorem dX8_stale_43 : decode cX8_stale 43 = .ok (.getfield 7, 3) := by decide +kernel
theorem dX8_stale_46 : decode cX8_stale 46 = .ok (.bipush 35, 2) := by decide +kernel
theorem dX8_stale_48 : decode cX8_stale 48 = .ok (.iload 4, 2) := by decide +kernel
theorem dX8_stale_50 : decode cX8_stale 50 = .ok (.iadd, 1) := by decide +kernel
theorem dX8_stale_51 : decode cX8_stale 51 = .ok (.iaload, 1) := by decide +kernel
theorem dX8_stale_52 : decode cX8_stale 52 = .ok (.istore 5, 2) := by decide +kernel
theorem dX8_stale_54 : decode cX8_stale 54 = .ok (.iload_n 2, 1) := by decide +kernel
theorem dX8_stale_55 : decode cX8_stale 55 = .ok (.iload 5, 2) := by decide +kernel
theorem dX8_stale_57 : decode cX8_stale 57 = .ok (.invokestatic 47, 3) := by decide +kernel
theorem dX8_stale_60 : decode cX8_stale 60 = .ok (.iadd, 1) := by decide +kernel
theorem dX8_stale_61 : decode cX8_stale 61 = .ok (.istore_n 2, 1) := by decide +kernel
theorem dX8_stale_62 : decode cX8_stale 62 = .ok (.iload 5, 2) := by decide +kernel
theorem dX8_stale_64 : decode cX8_stale 64 = .ok (.invokestatic 40, 3) := by decide +kernel
theorem dX8_stale_67 : decode cX8_stale 67 = .ok (.aload_n 0, 1) := by decide +kernel
theorem dX8_stale_68 : decode cX8_stale 68 = .ok (.getfield 7, 3) := by decide +kernel
theorem dX8_stale_71 : decode cX8_stale 71 = .ok (.bipush 22, 2) := by decide +kernel
theorem dX8_stale_73 : decode cX8_stale 73 = .ok (.iaload, 1) := by decide +kernel
theorem dX8_stale_74 : decode cX8_stale 74 = .ok (.if_icmp .ne 25, 3) := by decide +kernel
theorem dX8_stale_77 : decode cX8_stale 77 = .ok (.iload 5, 2) := by decide +kernel
theorem dX8_stale_79 : decode cX8_stale 79 = .ok (.invokestatic 103, 3) := by decide +kernel
theorem dX8_stale_82 : decode cX8_stale 82 = .ok (.iload_n 1, 1) := by decide +kernel
theorem dX8_stale_83 : decode cX8_stale 83 = .ok (.if_icmp .ne 16, 3) := by decide +kernel
theorem dX8_stale_86 : decode cX8_stale 86 = .ok (.iload 5, 2) := by decide +kernel
theorem dX8_stale_88 : decode cX8_stale 88 = .ok (.invokestatic 44, 3) := by decide +kernel
theorem dX8_stale_91 : decode cX8_stale 91 = .ok (.aload_n 0, 1) := by decide +kernel
theorem dX8_stale_92 : decode cX8_stale 92 = .ok (.iload_n 1, 1) := by decide +kernel
theorem dX8_stale_93 : decode cX8_stale 93 = .ok (.invokevirtual 73, 3) := by decide +kernel
theorem dX8_stale_96 : decode cX8_stale 96 = .ok (.if_icmp .eq 7, 3) := by decide +kernel
theorem dX8_stale_99 : decode cX8_stale 99 = .ok (.iload_n 2, 1) := by decide +kernel
theorem dX8_stale_100 : decode cX8_stale 100 = .ok (.goto 4, 3) := by decide +kernel
theorem dX8_stale_103 : decode cX8_stale 103 = .ok (.iload_n 3, 1) := by decide +kernel
theorem dX8_stale_104 : decode cX8_stale 104 = .ok (.istore_n 3, 1) := by decide +kernel
theorem dX8_stale_105 : decode cX8_stale 105 = .ok (.iinc 4 1, 3) := by decide +kernel
theorem dX8_stale_108 : decode cX8_stale 108 = .ok (.goto (-78), 3) := by decide +kernel
theorem dX8_stale_111 : decode cX8_stale 111 = .ok (.iload_n 3, 1) := by decide +kernel
theorem dX8_stale_112 : decode cX8_stale 112 = .ok (.ireturn, 1) := by decide +kernel
set_option maxRecDepth 20000 in
theorem ggX8_coolAfter_X8_isOne : GoodIn wsX8_coolAfter wsX8_isOne := goodIn_r _ [6, 7, 8, 5, 9] rfl (by decide +kernel)
set_option maxRecDepth 20000 in
theorem gX8_coolAfter_X8_isOne : GoodIn wsX8_coolAfter (va_wsS RX8 60 yX8_isOne wsX8_isOne) := goodIn_app (goodIn_of _ (by decide +kernel)) ggX8_coolAfter_X8_isOne
set_option maxRecDepth 20000 in
theorem ggX8_coolAfter_X8_in : GoodIn wsX8_coolAfter wsX8_in := goodIn_r _ [9] rfl (by decide +kernel)
set_option maxRecDepth 20000 in
theorem gX8_coolAfter_X8_in : GoodIn wsX8_coolAfter (va_wsS RX8 28 yX8_in wsX8_in) := goodIn_app (goodIn_of _ (by decide +kernel)) ggX8_coolAfter_X8_in
set_option maxRecDepth 20000 in
theorem ggX8_coolAfter_X8_ofBurr : GoodIn wsX8_coolAfter wsX8_ofBurr := goodIn_r _ [13, 2, 17, 18, 19, 20, 21, 22, 23, 24, 25, 26, 27, 28, 29, 30, 31] rfl (by decide +kernel)
set_option maxRecDepth 20000 in
theorem gX8_coolAfter_X8_ofBurr : GoodIn wsX8_coolAfter (wsV RX8 50 RX8 yX8_ofBurr wsX8_ofBurr) := goodIn_app (goodIn_of _ (by decide +kernel)) ggX8_coolAfter_X8_ofBurr
set_option maxRecDepth 20000 in
theorem ggX8_coolAfter_X8_fall : GoodIn wsX8_coolAfter wsX8_fall := goodIn_r _ [16] rfl (by decide +kernel)
set_option maxRecDepth 20000 in
theorem gX8_coolAfter_X8_fall : GoodIn wsX8_coolAfter (va_wsS RX8 57 yX8_fall wsX8_fall) := goodIn_app (goodIn_of _ (by decide +kernel)) ggX8_coolAfter_X8_fall
theorem dX8_coolAfter_0 : decode cX8_coolAfter 0 = .ok (.iload_n 1, 1) := by decide +kernel
theorem dX8_coolAfter_1 : decode cX8_coolAfter 1 = .ok (.invokestatic 60, 3) := by decide +kernel
theorem dX8_coolAfter_4 : decode cX8_coolAfter 4 = .ok (.ifCond .eq 14, 3) := by decide +kernel
theorem dX8_coolAfter_7 : decode cX8_coolAfter 7 = .ok (.iload_n 2, 1) := by decide +kernel
theorem dX8_coolAfter_8 : decode cX8_coolAfter 8 = .ok (.iconst 0, 1) := by decide +kernel
theorem dX8_coolAfter_9 : decode cX8_coolAfter 9 = .ok (.sipush 300, 3) := by decide +kernel
theorem dX8_coolAfter_12 : decode cX8_coolAfter 12 = .ok (.invokestatic 28, 3) := by decide +kernel
theorem dX8_coolAfter_15 : decode cX8_coolAfter 15 = .ok (.ifCond .ne 6, 3) := by decide +kernel
theorem dX8_coolAfter_18 : decode cX8_coolAfter 18 = .ok (.ldc 64, 2) := by decide +kernel
theorem dX8_coolAfter_20 : decode cX8_coolAfter 20 = .ok (.ireturn, 1) := by decide +kernel
theorem dX8_coolAfter_21 : decode cX8_coolAfter 21 = .ok (.iconst 0, 1) := by decide +kernel
theorem dX8_coolAfter_22 : decode cX8_coolAfter 22 = .ok (.istore_n 3, 1) := by decide +kernel
theorem dX8_coolAfter_23 : decode cX8_coolAfter 23 = .ok (.aload_n 0, 1) := by decide +kernel
theorem dX8_coolAfter_24 : decode cX8_coolAfter 24 = .ok (.iload_n 1, 1) := by decide +kernel
theorem dX8_coolAfter_25 : decode cX8_coolAfter 25 = .ok (.iconst 1, 1) := by decide +kernel
theorem dX8_coolAfter_26 : decode cX8_coolAfter 26 = .ok (.invokevirtual 50, 3) := by decide +kernel
theorem dX8_coolAfter_29 : decode cX8_coolAfter 29 = .ok (.istore 4, 2) := by decide +kernel
theorem dX8_coolAfter_31 : decode cX8_coolAfter 31 = .ok (.iload 4, 2) := by decide +kernel
theorem dX8_coolAfter_33 : decode cX8_coolAfter 33 = .ok (.iload_n 2, 1) := by decide +kernel
theorem dX8_coolAfter_34 : decode cX8_coolAfter 34 = .ok (.if_icmp .le 37, 3) := by decide +kernel
theorem dX8_coolAfter_37 : decode cX8_coolAfter 37 = .ok (.iinc 3 1, 3) := by decide +kernel
theorem dX8_coolAfter_40 : decode cX8_coolAfter 40 = .ok (.iload 4, 2) := by decide +kernel
theorem dX8_coolAfter_42 : decode cX8_coolAfter 42 = .ok (.aload_n 0, 1) := by decide +kernel
theorem dX8_coolAfter_43 : decode cX8_coolAfter 43 = .ok (.getfield 7, 3) := by decide +kernel
theorem dX8_coolAfter_46 : decode cX8_coolAfter 46 = .ok (.iconst 0, 1) := by decide +kernel
theorem dX8_coolAfter_47 : decode cX8_coolAfter 47 = .ok (.iaload, 1) := by decide +kernel
theorem dX8_coolAfter_48 : decode cX8_coolAfter 48 = .ok (.iload_n 3, 1) := by decide +kernel
theorem dX8_coolAfter_49 : decode cX8_coolAfter 49 = .ok (.iadd, 1) := by decide +kernel
theorem dX8_coolAfter_50 : decode cX8_coolAfter 50 = .ok (.bipush 10, 2) := by decide +kernel
theorem dX8_coolAfter_52 : decode cX8_coolAfter 52 = .ok (.irem, 1) := by decide +kernel
theorem dX8_coolAfter_53 : decode cX8_coolAfter 53 = .ok (.ifCond .ne 11, 3) := by decide +kernel
theorem dX8_coolAfter_56 : decode cX8_coolAfter 56 = .ok (.iload 4, 2) := by decide +kernel
theorem dX8_coolAfter_58 : decode cX8_coolAfter 58 = .ok (.invokestatic 57, 3) := by decide +kernel
theorem dX8_coolAfter_61 : decode cX8_coolAfter 61 = .ok (.goto 4, 3) := by decide +kernel
theorem dX8_coolAfter_64 : decode cX8_coolAfter 64 = .ok (.iconst 0, 1) := by decide +kernel
theorem dX8_coolAfter_65 : decode cX8_coolAfter 65 = .ok (.isub, 1) := by decide +kernel
theorem dX8_coolAfter_66 : decode cX8_coolAfter 66 = .ok (.istore 4, 2) := by decide +kernel
theorem dX8_coolAfter_68 : decode cX8_coolAfter 68 = .ok (.goto (-37), 3) := by decide +kernel
theorem dX8_coolAfter_71 : decode cX8_coolAfter 71 = .ok (.iload_n 3, 1) := by decide +kernel
theorem dX8_coolAfter_72 : decode cX8_coolAfter 72 = .ok (.ireturn, 1) := by decide +kernel
set_option maxRecDepth 20000 in
theorem ggX8_count_X8_hopper : GoodIn wsX8_count wsX8_hopper := goodIn_r _ [9, 1, 20, 21, 22, 23, 24, 25, 26, 27, 28, 29, 30, 31, 32, 33, 34] rfl (by decide +kernel)
set_option maxRecDepth 20000 in
theorem gX8_count_X8_hopper : GoodIn wsX8_count (wsV RX8 65 RX8 yX8_hopper wsX8_hopper) := goodIn_app (goodIn_of _ (by decide +kernel)) ggX8_count_X8_hopper
set_option maxRecDepth 20000 in
theorem ggX8_count_X8_amounts : GoodIn wsX8_count wsX8_amounts := goodIn_r _ [13, 1, 14, 15, 8, 16, 20, 21, 22, 23, 24, 25, 26, 27, 28, 29, 30, 31, 32, 33, 34] rfl (by decide +kernel)
set_option maxRecDepth 20000 in
theorem gX8_count_X8_amounts : GoodIn wsX8_count (wsV RX8 76 RX8 yX8_amounts wsX8_amounts) := goodIn_app (goodIn_of _ (by decide +kernel)) ggX8_count_X8_amounts
set_option maxRecDepth 20000 in
theorem ggX8_count_X8_in : GoodIn wsX8_count wsX8_in := goodIn_r _ [19] rfl (by decide +kernel)
set_option maxRecDepth 20000 in
theorem gX8_count_X8_in : GoodIn wsX8_count (va_wsS RX8 28 yX8_in wsX8_in) := goodIn_app (goodIn_of _ (by decide +kernel)) ggX8_count_X8_in
theorem dX8_count_0 : decode cX8_count 0 = .ok (.iload_n 1, 1) := by decide +kernel
theorem dX8_count_1 : decode cX8_count 1 = .ok (.tableswitch 117 0 11 #[63, 63, 63, 63, 63, 70, 75, 84, 95, 95, 107, 112], 63) := by decide +kernel
theorem dX8_count_64 : decode cX8_count 64 = .ok (.aload_n 0, 1) := by decide +kernel
theorem dX8_count_65 : decode cX8_count 65 = .ok (.getfield 7, 3) := by decide +kernel
theorem dX8_count_68 : decode cX8_count 68 = .ok (.iload_n 1, 1) := by decide +kernel
theorem dX8_count_69 : decode cX8_count 69 = .ok (.iaload, 1) := by decide +kernel
theorem dX8_count_70 : decode cX8_count 70 = .ok (.ireturn, 1) := by decide +kernel
theorem dX8_count_71 : decode cX8_count 71 = .ok (.aload_n 0, 1) := by decide +kernel
theorem dX8_count_72 : decode cX8_count 72 = .ok (.invokevirtual 65, 3) := by decide +kernel
theorem dX8_count_75 : decode cX8_count 75 = .ok (.ireturn, 1) := by decide +kernel
theorem dX8_count_76 : decode cX8_count 76 = .ok (.aload_n 0, 1) := by decide +kernel
theorem dX8_count_77 : decode cX8_count 77 = .ok (.bipush 34, 2) := by decide +kernel
theorem dX8_count_79 : decode cX8_count 79 = .ok (.bipush 35, 2) := by decide +kernel
theorem dX8_count_81 : decode cX8_count 81 = .ok (.invokevirtual 76, 3) := by decide +kernel
theorem dX8_count_84 : decode cX8_count 84 = .ok (.ireturn, 1) := by decide +kernel
theorem dX8_count_85 : decode cX8_count 85 = .ok (.aload_n 0, 1) := by decide +kernel
theorem dX8_count_86 : decode cX8_count 86 = .ok (.sipush 145, 3) := by decide +kernel
theorem dX8_count_89 : decode cX8_count 89 = .ok (.sipush 146, 3) := by decide +kernel
theorem dX8_count_92 : decode cX8_count 92 = .ok (.invokevirtual 76, 3) := by decide +kernel
theorem dX8_count_95 : decode cX8_count 95 = .ok (.ireturn, 1) := by decide +kernel
theorem dX8_count_96 : decode cX8_count 96 = .ok (.aload_n 0, 1) := by decide +kernel
theorem dX8_count_97 : decode cX8_count 97 = .ok (.getfield 7, 3) := by decide +kernel
theorem dX8_count_100 : decode cX8_count 100 = .ok (.iconst 5, 1) := by decide +kernel
theorem dX8_count_101 : decode cX8_count 101 = .ok (.iload_n 1, 1) := by decide +kernel
theorem dX8_count_102 : decode cX8_count 102 = .ok (.iadd, 1) := by decide +kernel
theorem dX8_count_103 : decode cX8_count 103 = .ok (.bipush 8, 2) := by decide +kernel
theorem dX8_count_105 : decode cX8_count 105 = .ok (.isub, 1) := by decide +kernel
theorem dX8_count_106 : decode cX8_count 106 = .ok (.iaload, 1) := by decide +kernel
theorem dX8_count_107 : decode cX8_count 107 = .ok (.ireturn, 1) := by decide +kernel
theorem dX8_count_108 : decode cX8_count 108 = .ok (.aload_n 0, 1) := by decide +kernel
theorem dX8_count_109 : decode cX8_count 109 = .ok (.getfield 36, 3) := by decide +kernel
theorem dX8_count_112 : decode cX8_count 112 = .ok (.ireturn, 1) := by decide +kernel
theorem dX8_count_113 : decode cX8_count 113 = .ok (.aload_n 0, 1) := by decide +kernel
theorem dX8_count_114 : decode cX8_count 114 = .ok (.getfield 122, 3) := by decide +kernel
theorem dX8_count_117 : decode cX8_count 117 = .ok (.ireturn, 1) := by decide +kernel
theorem dX8_count_118 : decode cX8_count 118 = .ok (.iload_n 1, 1) := by decide +kernel
theorem dX8_count_119 : decode cX8_count 119 = .ok (.bipush 20, 2) := by decide +kernel
theorem dX8_count_121 : decode cX8_count 121 = .ok (.bipush 25, 2) := by decide +kernel
theorem dX8_count_123 : decode cX8_count 123 = .ok (.invokestatic 28, 3) := by decide +kernel
theorem dX8_count_126 : decode cX8_count 126 = .ok (.ifCond .eq 18, 3) := by decide +kernel
theorem dX8_count_129 : decode cX8_count 129 = .ok (.aload_n 0, 1) := by decide +kernel
theorem dX8_count_130 : decode cX8_count 130 = .ok (.getfield 7, 3) := by decide +kernel
theorem dX8_count_133 : decode cX8_count 133 = .ok (.bipush 7, 2) := by decide +kernel
theorem dX8_count_135 : decode cX8_count 135 = .ok (.iload_n 1, 1) := by decide +kernel
theorem dX8_count_136 : decode cX8_count 136 = .ok (.iadd, 1) := by decide +kernel
theorem dX8_count_137 : decode cX8_count 137 = .ok (.bipush 20, 2) := by decide +kernel
theorem dX8_count_139 : decode cX8_count 139 = .ok (.isub, 1) := by decide +kernel
theorem dX8_count_140 : decode cX8_count 140 = .ok (.iaload, 1) := by decide +kernel
theorem dX8_count_141 : decode cX8_count 141 = .ok (.goto 5, 3) := by decide +kernel
theorem dX8_count_144 : decode cX8_count 144 = .ok (.ldc 64, 2) := by decide +kernel
theorem dX8_count_146 : decode cX8_count 146 = .ok (.ireturn, 1) := by decide +kernel
theorem dX8_undo_0 : decode cX8_undo 0 = .ok (.aload_n 0, 1) := by decide +kernel
theorem dX8_undo_1 : decode cX8_undo 1 = .ok (.getfield 36, 3) := by decide +kernel
theorem dX8_undo_4 : decode cX8_undo 4 = .ok (.ifCond .ne 6, 3) := by decide +kernel
theorem dX8_undo_7 : decode cX8_undo 7 = .ok (.ldc 79, 2) := by decide +kernel
theorem dX8_undo_9 : decode cX8_undo 9 = .ok (.ireturn, 1) := by decide +kernel
theorem dX8_undo_10 : decode cX8_undo 10 = .ok (.aload_n 0, 1) := by decide +kernel
theorem dX8_undo_11 : decode cX8_undo 11 = .ok (.dup, 1) := by decide +kernel
theorem dX8_undo_12 : decode cX8_undo 12 = .ok (.getfield 36, 3) := by decide +kernel
theorem dX8_undo_15 : decode cX8_undo 15 = .ok (.iconst 1, 1) := by decide +kernel
theorem dX8_undo_16 : decode cX8_undo 16 = .ok (.isub, 1) := by decide +kernel
theorem dX8_undo_17 : decode cX8_undo 17 = .ok (.putfield 36, 3) := by decide +kernel
theorem dX8_undo_20 : decode cX8_undo 20 = .ok (.iconst 0, 1) := by decide +kernel
theorem dX8_undo_21 : decode cX8_undo 21 = .ok (.istore_n 1, 1) := by decide +kernel
theorem dX8_undo_22 : decode cX8_undo 22 = .ok (.iload_n 1, 1) := by decide +kernel
theorem dX8_undo_23 : decode cX8_undo 23 = .ok (.sipush 631, 3) := by decide +kernel
theorem dX8_undo_26 : decode cX8_undo 26 = .ok (.if_icmp .ge 30, 3) := by decide +kernel
theorem dX8_undo_29 : decode cX8_undo 29 = .ok (.aload_n 0, 1) := by decide +kernel
theorem dX8_undo_30 : decode cX8_undo 30 = .ok (.getfield 7, 3) := by decide +kernel
theorem dX8_undo_33 : decode cX8_undo 33 = .ok (.iload_n 1, 1) := by decide +kernel
theorem dX8_undo_34 : decode cX8_undo 34 = .ok (.aload_n 0, 1) := by decide +kernel
theorem dX8_undo_35 : decode cX8_undo 35 = .ok (.getfield 13, 3) := by decide +kernel
theorem dX8_undo_38 : decode cX8_undo 38 = .ok (.sipush 631, 3) := by decide +kernel
theorem dX8_undo_41 : decode cX8_undo 41 = .ok (.aload_n 0, 1) := by decide +kernel
theorem dX8_undo_42 : decode cX8_undo 42 = .ok (.getfield 36, 3) := by decide +kernel
theorem dX8_undo_45 : decode cX8_undo 45 = .ok (.imul, 1) := by decide +kernel
theorem dX8_undo_46 : decode cX8_undo 46 = .ok (.iload_n 1, 1) := by decide +kernel
theorem dX8_undo_47 : decode cX8_undo 47 = .ok (.iadd, 1) := by decide +kernel
theorem dX8_undo_48 : decode cX8_undo 48 = .ok (.iaload, 1) := by decide +kernel
theorem dX8_undo_49 : decode cX8_undo 49 = .ok (.iastore, 1) := by decide +kernel
theorem dX8_undo_50 : decode cX8_undo 50 = .ok (.iinc 1 1, 3) := by decide +kernel
theorem dX8_undo_53 : decode cX8_undo 53 = .ok (.goto (-31), 3) := by decide +kernel
theorem dX8_undo_56 : decode cX8_undo 56 = .ok (.aload_n 0, 1) := by decide +kernel
theorem dX8_undo_57 : decode cX8_undo 57 = .ok (.getfield 36, 3) := by decide +kernel
theorem dX8_undo_60 : decode cX8_undo 60 = .ok (.ireturn, 1) := by decide +kernel
set_option maxRecDepth 20000 in
theorem ggX8_type_X8_in : GoodIn wsX8_type wsX8_in := goodIn_r _ [8] rfl (by decide +kernel)
set_option maxRecDepth 20000 in
theorem gX8_type_X8_in : GoodIn wsX8_type (va_wsS RX8 28 yX8_in wsX8_in) := goodIn_app (goodIn_of _ (by decide +kernel)) ggX8_type_X8_in
theorem dX8_type_0 : decode cX8_type 0 = .ok (.iload_n 1, 1) := by decide +kernel
theorem dX8_type_1 : decode cX8_type 1 = .ok (.bipush 32, 2) := by decide +kernel
theorem dX8_type_3 : decode cX8_type 3 = .ok (.bipush 126, 2) := by decide +kernel
theorem dX8_type_5 : decode cX8_type 5 = .ok (.invokestatic 28, 3) := by decide +kernel
theorem dX8_type_8 : decode cX8_type 8 = .ok (.ifCond .ne 6, 3) := by decide +kernel
theorem dX8_type_11 : decode cX8_type 11 = .ok (.ldc 64, 2) := by decide +kernel
theorem dX8_type_13 : decode cX8_type 13 = .ok (.ireturn, 1) := by decide +kernel
theorem dX8_type_14 : decode cX8_type 14 = .ok (.aload_n 0, 1) := by decide +kernel
theorem dX8_type_15 : decode cX8_type 15 = .ok (.getfield 122, 3) := by decide +kernel
theorem dX8_type_18 : decode cX8_type 18 = .ok (.bipush 60, 2) := by decide +kernel
theorem dX8_type_20 : decode cX8_type 20 = .ok (.if_icmp .ne 6, 3) := by decide +kernel
theorem dX8_type_23 : decode cX8_type 23 = .ok (.ldc 69, 2) := by decide +kernel
theorem dX8_type_25 : decode cX8_type 25 = .ok (.ireturn, 1) := by decide +kernel
theorem dX8_type_26 : decode cX8_type 26 = .ok (.aload_n 0, 1) := by decide +kernel
theorem dX8_type_27 : decode cX8_type 27 = .ok (.getfield 22, 3) := by decide +kernel
theorem dX8_type_30 : decode cX8_type 30 = .ok (.aload_n 0, 1) := by decide +kernel
theorem dX8_type_31 : decode cX8_type 31 = .ok (.getfield 122, 3) := by decide +kernel
theorem dX8_type_34 : decode cX8_type 34 = .ok (.iload_n 1, 1) := by decide +kernel
theorem dX8_type_35 : decode cX8_type 35 = .ok (.iastore, 1) := by decide +kernel
theorem dX8_type_36 : decode cX8_type 36 = .ok (.aload_n 0, 1) := by decide +kernel
theorem dX8_type_37 : decode cX8_type 37 = .ok (.dup, 1) := by decide +kernel
theorem dX8_type_38 : decode cX8_type 38 = .ok (.getfield 122, 3) := by decide +kernel
theorem dX8_type_41 : decode cX8_type 41 = .ok (.iconst 1, 1) := by decide +kernel
theorem dX8_type_42 : decode cX8_type 42 = .ok (.iadd, 1) := by decide +kernel
theorem dX8_type_43 : decode cX8_type 43 = .ok (.putfield 122, 3) := by decide +kernel
theorem dX8_type_46 : decode cX8_type 46 = .ok (.aload_n 0, 1) := by decide +kernel
theorem dX8_type_47 : decode cX8_type 47 = .ok (.getfield 122, 3) := by decide +kernel
theorem dX8_type_50 : decode cX8_type 50 = .ok (.ireturn, 1) := by decide +kernel
theorem dX8_clearText_0 : decode cX8_clearText 0 = .ok (.aload_n 0, 1) := by decide +kernel
theorem dX8_clearText_1 : decode cX8_clearText 1 = .ok (.getfield 122, 3) := by decide +kernel
theorem dX8_clearText_4 : decode cX8_clearText 4 = .ok (.istore_n 1, 1) := by decide +kernel
theorem dX8_clearText_5 : decode cX8_clearText 5 = .ok (.aload_n 0, 1) := by decide +kernel
theorem dX8_clearText_6 : decode cX8_clearText 6 = .ok (.iconst 0, 1) := by decide +kernel
theorem dX8_clearText_7 : decode cX8_clearText 7 = .ok (.putfield 122, 3) := by decide +kernel
theorem dX8_clearText_10 : decode cX8_clearText 10 = .ok (.iload_n 1, 1) := by decide +kernel
theorem dX8_clearText_11 : decode cX8_clearText 11 = .ok (.ireturn, 1) := by decide +kernel
set_option maxRecDepth 20000 in
theorem ggX8_isAt_X8_in : GoodIn wsX8_isAt wsX8_in := goodIn_r _ [7] rfl (by decide +kernel)
set_option maxRecDepth 20000 in
theorem gX8_isAt_X8_in : GoodIn wsX8_isAt (va_wsS RX8 28 yX8_in wsX8_in) := goodIn_app (goodIn_of _ (by decide +kernel)) ggX8_isAt_X8_in
theorem dX8_isAt_0 : decode cX8_isAt 0 = .ok (.aload_n 0, 1) := by decide +kernel
theorem dX8_isAt_1 : decode cX8_isAt 1 = .ok (.getfield 125, 3) := by decide +kernel
theorem dX8_isAt_4 : decode cX8_isAt 4 = .ok (.aload_n 0, 1) := by decide +kernel
theorem dX8_isAt_5 : decode cX8_isAt 5 = .ok (.getfield 122, 3) := by decide +kernel
theorem dX8_isAt_8 : decode cX8_isAt 8 = .ok (.if_icmp .ge 24, 3) := by decide +kernel
theorem dX8_isAt_11 : decode cX8_isAt 11 = .ok (.aload_n 0, 1) := by decide +kernel
theorem dX8_isAt_12 : decode cX8_isAt 12 = .ok (.getfield 22, 3) := by decide +kernel
theorem dX8_isAt_15 : decode cX8_isAt 15 = .ok (.aload_n 0, 1) := by decide +kernel
theorem dX8_isAt_16 : decode cX8_isAt 16 = .ok (.getfield 125, 3) := by decide +kernel
theorem dX8_isAt_19 : decode cX8_isAt 19 = .ok (.iaload, 1) := by decide +kernel
theorem dX8_isAt_20 : decode cX8_isAt 20 = .ok (.iload_n 1, 1) := by decide +kernel
theorem dX8_isAt_21 : decode cX8_isAt 21 = .ok (.iload_n 2, 1) := by decide +kernel
theorem dX8_isAt_22 : decode cX8_isAt 22 = .ok (.invokestatic 28, 3) := by decide +kernel
theorem dX8_isAt_25 : decode cX8_isAt 25 = .ok (.ifCond .eq 7, 3) := by decide +kernel
theorem dX8_isAt_28 : decode cX8_isAt 28 = .ok (.iconst 1, 1) := by decide +kernel
theorem dX8_isAt_29 : decode cX8_isAt 29 = .ok (.goto 4, 3) := by decide +kernel
theorem dX8_isAt_32 : decode cX8_isAt 32 = .ok (.iconst 0, 1) := by decide +kernel
theorem dX8_isAt_33 : decode cX8_isAt 33 = .ok (.ireturn, 1) := by decide +kernel
set_option maxRecDepth 20000 in
theorem ggX8_sign_X8_isAt : GoodIn wsX8_sign wsX8_isAt := goodIn_r _ [6, 1, 7, 8, 9, 10, 5, 11, 12, 13, 14, 15, 16, 17, 18, 19, 20, 21, 22, 23, 24, 25, 26] rfl (by decide +kernel)
set_option maxRecDepth 20000 in
theorem gX8_sign_X8_isAt : GoodIn wsX8_sign (wsV RX8 128 RX8 yX8_isAt wsX8_isAt) := goodIn_app (goodIn_of _ (by decide +kernel)) ggX8_sign_X8_isAt
theorem dX8_sign_0 : decode cX8_sign 0 = .ok (.aload_n 0, 1) := by decide +kernel
theorem dX8_sign_1 : decode cX8_sign 1 = .ok (.iload_n 1, 1) := by decide +kernel
theorem dX8_sign_2 : decode cX8_sign 2 = .ok (.iload_n 1, 1) := by decide +kernel
theorem dX8_sign_3 : decode cX8_sign 3 = .ok (.invokevirtual 128, 3) := by decide +kernel
theorem dX8_sign_6 : decode cX8_sign 6 = .ok (.istore_n 2, 1) := by decide +kernel
theorem dX8_sign_7 : decode cX8_sign 7 = .ok (.aload_n 0, 1) := by decide +kernel
theorem dX8_sign_8 : decode cX8_sign 8 = .ok (.dup, 1) := by decide +kernel
theorem dX8_sign_9 : decode cX8_sign 9 = .ok (.getfield 125, 3) := by decide +kernel
theorem dX8_sign_12 : decode cX8_sign 12 = .ok (.iload_n 2, 1) := by decide +kernel
theorem dX8_sign_13 : decode cX8_sign 13 = .ok (.ifCond .eq 7, 3) := by decide +kernel
theorem dX8_sign_16 : decode cX8_sign 16 = .ok (.iconst 1, 1) := by decide +kernel
theorem dX8_sign_17 : decode cX8_sign 17 = .ok (.goto 4, 3) := by decide +kernel
theorem dX8_sign_20 : decode cX8_sign 20 = .ok (.iconst 0, 1) := by decide +kernel
theorem dX8_sign_21 : decode cX8_sign 21 = .ok (.iadd, 1) := by decide +kernel
theorem dX8_sign_22 : decode cX8_sign 22 = .ok (.putfield 125, 3) := by decide +kernel
theorem dX8_sign_25 : decode cX8_sign 25 = .ok (.iload_n 2, 1) := by decide +kernel
theorem dX8_sign_26 : decode cX8_sign 26 = .ok (.ireturn, 1) := by decide +kernel
set_option maxRecDepth 20000 in
theorem ggX8_number_X8_isAt : GoodIn wsX8_number wsX8_isAt := goodIn_r _ [8, 1, 9, 3, 10, 11, 7, 12, 13, 14, 15, 16, 17, 18, 19, 20, 21, 22, 23, 24, 25, 26, 27] rfl (by decide +kernel)
set_option maxRecDepth 20000 in
theorem gX8_number_X8_isAt : GoodIn wsX8_number (wsV RX8 128 RX8 yX8_isAt wsX8_isAt) := goodIn_app (goodIn_of _ (by decide +kernel)) ggX8_number_X8_isAt
theorem dX8_number_0 : decode cX8_number 0 = .ok (.aload_n 0, 1) := by decide +kernel
theorem dX8_number_1 : decode cX8_number 1 = .ok (.getfield 125, 3) := by decide +kernel
theorem dX8_number_4 : decode cX8_number 4 = .ok (.istore_n 2, 1) := by decide +kernel
theorem dX8_number_5 : decode cX8_number 5 = .ok (.aload_n 0, 1) := by decide +kernel
theorem dX8_number_6 : decode cX8_number 6 = .ok (.getfield 25, 3) := by decide +kernel
theorem dX8_number_9 : decode cX8_number 9 = .ok (.iload_n 1, 1) := by decide +kernel
theorem dX8_number_10 : decode cX8_number 10 = .ok (.iconst 0, 1) := by decide +kernel
theorem dX8_number_11 : decode cX8_number 11 = .ok (.iastore, 1) := by decide +kernel
theorem dX8_number_12 : decode cX8_number 12 = .ok (.aload_n 0, 1) := by decide +kernel
theorem dX8_number_13 : decode cX8_number 13 = .ok (.bipush 48, 2) := by decide +kernel
theorem dX8_number_15 : decode cX8_number 15 = .ok (.bipush 57, 2) := by decide +kernel
theorem dX8_number_17 : decode cX8_number 17 = .ok (.invokevirtual 128, 3) := by decide +kernel
theorem dX8_number_20 : decode cX8_number 20 = .ok (.ifCond .eq 54, 3) := by decide +kernel
theorem dX8_number_23 : decode cX8_number 23 = .ok (.aload_n 0, 1) := by decide +kernel
theorem dX8_number_24 : decode cX8_number 24 = .ok (.getfield 125, 3) := by decide +kernel
theorem dX8_number_27 : decode cX8_number 27 = .ok (.iload_n 2, 1) := by decide +kernel
theorem dX8_number_28 : decode cX8_number 28 = .ok (.isub, 1) := by decide +kernel
theorem dX8_number_29 : decode cX8_number 29 = .ok (.iconst 3, 1) := by decide +kernel
theorem dX8_number_30 : decode cX8_number 30 = .ok (.if_icmp .ge 44, 3) := by decide +kernel
theorem dX8_number_33 : decode cX8_number 33 = .ok (.aload_n 0, 1) := by decide +kernel
theorem dX8_number_34 : decode cX8_number 34 = .ok (.getfield 25, 3) := by decide +kernel
theorem dX8_number_37 : decode cX8_number 37 = .ok (.iload_n 1, 1) := by decide +kernel
theorem dX8_number_38 : decode cX8_number 38 = .ok (.bipush 10, 2) := by decide +kernel
theorem dX8_number_40 : decode cX8_number 40 = .ok (.aload_n 0, 1) := by decide +kernel
theorem dX8_number_41 : decode cX8_number 41 = .ok (.getfield 25, 3) := by decide +kernel
theorem dX8_number_44 : decode cX8_number 44 = .ok (.iload_n 1, 1) := by decide +kernel
theorem dX8_number_45 : decode cX8_number 45 = .ok (.iaload, 1) := by decide +kernel
theorem dX8_number_46 : decode cX8_number 46 = .ok (.imul, 1) := by decide +kernel
theorem dX8_number_47 : decode cX8_number 47 = .ok (.aload_n 0, 1) := by decide +kernel
theorem dX8_number_48 : decode cX8_number 48 = .ok (.getfield 22, 3) := by decide +kernel
theorem dX8_number_51 : decode cX8_number 51 = .ok (.aload_n 0, 1) := by decide +kernel
theorem dX8_number_52 : decode cX8_number 52 = .ok (.getfield 125, 3) := by decide +kernel
theorem dX8_number_55 : decode cX8_number 55 = .ok (.iaload, 1) := by decide +kernel
theorem dX8_number_56 : decode cX8_number 56 = .ok (.iadd, 1) := by decide +kernel
theorem dX8_number_57 : decode cX8_number 57 = .ok (.bipush 48, 2) := by decide +kernel
theorem dX8_number_59 : decode cX8_number 59 = .ok (.isub, 1) := by decide +kernel
theorem dX8_number_60 : decode cX8_number 60 = .ok (.iastore, 1) := by decide +kernel
theorem dX8_number_61 : decode cX8_number 61 = .ok (.aload_n 0, 1) := by decide +kernel
theorem dX8_number_62 : decode cX8_number 62 = .ok (.dup, 1) := by decide +kernel
theorem dX8_number_63 : decode cX8_number 63 = .ok (.getfield 125, 3) := by decide +kernel
theorem dX8_number_66 : decode cX8_number 66 = .ok (.iconst 1, 1) := by decide +kernel
theorem dX8_number_67 : decode cX8_number 67 = .ok (.iadd, 1) := by decide +kernel
theorem dX8_number_68 : decode cX8_number 68 = .ok (.putfield 125, 3) := by decide +kernel
theorem dX8_number_71 : decode cX8_number 71 = .ok (.goto (-59), 3) := by decide +kernel
theorem dX8_number_74 : decode cX8_number 74 = .ok (.aload_n 0, 1) := by decide +kernel
theorem dX8_number_75 : decode cX8_number 75 = .ok (.getfield 125, 3) := by decide +kernel
theorem dX8_number_78 : decode cX8_number 78 = .ok (.iload_n 2, 1) := by decide +kernel
theorem dX8_number_79 : decode cX8_number 79 = .ok (.if_icmp .le 7, 3) := by decide +kernel
theorem dX8_number_82 : decode cX8_number 82 = .ok (.iconst 1, 1) := by decide +kernel
theorem dX8_number_83 : decode cX8_number 83 = .ok (.goto 4, 3) := by decide +kernel
theorem dX8_number_86 : decode cX8_number 86 = .ok (.iconst 0, 1) := by decide +kernel
theorem dX8_number_87 : decode cX8_number 87 = .ok (.ireturn, 1) := by decide +kernel
set_option maxRecDepth 20000 in
theorem ggX8_reads_X8_isAt : GoodIn wsX8_reads wsX8_isAt := goodIn_r _ [8, 2, 9, 1, 10, 11, 7, 12, 22, 23, 24, 25, 26, 27, 28, 29, 30, 31, 32, 33, 34, 35, 36] rfl (by decide +kernel)
set_option maxRecDepth 20000 in
theorem gX8_reads_X8_isAt : GoodIn wsX8_reads (wsV RX8 128 RX8 yX8_isAt wsX8_isAt) := goodIn_app (goodIn_of _ (by decide +kernel)) ggX8_reads_X8_isAt
set_option maxRecDepth 20000 in
theorem ggX8_reads_X8_sign : GoodIn wsX8_reads wsX8_sign := goodIn_r _ [16, 2, 4, 5, 6, 7, 8, 9, 1, 10, 11, 12, 22, 23, 24, 25, 26, 27, 28, 29, 30, 31, 32, 33, 34, 35, 36] rfl (by decide +kernel)
set_option maxRecDepth 20000 in
theorem gX8_reads_X8_sign : GoodIn wsX8_reads (wsV RX8 135 RX8 yX8_sign wsX8_sign) := goodIn_app (goodIn_of _ (by decide +kernel)) ggX8_reads_X8_sign
set_option maxRecDepth 20000 in
theorem ggX8_reads_X8_number : GoodIn wsX8_reads wsX8_number := goodIn_r _ [20, 2, 21, 1, 4, 5, 6, 7, 8, 9, 10, 11, 12, 22, 23, 24, 25, 26, 27, 28, 29, 30, 31, 32, 33, 34, 35, 36] rfl (by decide +kernel)
set_option maxRecDepth 20000 in
theorem gX8_reads_X8_number : GoodIn wsX8_reads (wsV RX8 138 RX8 yX8_number wsX8_number) := goodIn_app (goodIn_of _ (by decide +kernel)) ggX8_reads_X8_number
theorem dX8_reads_0 : decode cX8_reads 0 = .ok (.aload_n 0, 1) := by decide +kernel
theorem dX8_reads_1 : decode cX8_reads 1 = .ok (.aload_n 0, 1) := by decide +kernel
theorem dX8_reads_2 : decode cX8_reads 2 = .ok (.bipush 33, 2) := by decide +kernel
theorem dX8_reads_4 : decode cX8_reads 4 = .ok (.bipush 126, 2) := by decide +kernel
theorem dX8_reads_6 : decode cX8_reads 6 = .ok (.invokevirtual 128, 3) := by decide +kernel
theorem dX8_reads_9 : decode cX8_reads 9 = .ok (.ifCond .eq 15, 3) := by decide +kernel
theorem dX8_reads_12 : decode cX8_reads 12 = .ok (.aload_n 0, 1) := by decide +kernel
theorem dX8_reads_13 : decode cX8_reads 13 = .ok (.getfield 22, 3) := by decide +kernel
theorem dX8_reads_16 : decode cX8_reads 16 = .ok (.aload_n 0, 1) := by decide +kernel
theorem dX8_reads_17 : decode cX8_reads 17 = .ok (.getfield 125, 3) := by decide +kernel
theorem dX8_reads_20 : decode cX8_reads 20 = .ok (.iaload, 1) := by decide +kernel
theorem dX8_reads_21 : decode cX8_reads 21 = .ok (.goto 4, 3) := by decide +kernel
theorem dX8_reads_24 : decode cX8_reads 24 = .ok (.iconst 0, 1) := by decide +kernel
theorem dX8_reads_25 : decode cX8_reads 25 = .ok (.putfield 132, 3) := by decide +kernel
theorem dX8_reads_28 : decode cX8_reads 28 = .ok (.aload_n 0, 1) := by decide +kernel
theorem dX8_reads_29 : decode cX8_reads 29 = .ok (.getfield 132, 3) := by decide +kernel
theorem dX8_reads_32 : decode cX8_reads 32 = .ok (.bipush 102, 2) := by decide +kernel
theorem dX8_reads_34 : decode cX8_reads 34 = .ok (.if_icmp .eq 21, 3) := by decide +kernel
theorem dX8_reads_37 : decode cX8_reads 37 = .ok (.aload_n 0, 1) := by decide +kernel
theorem dX8_reads_38 : decode cX8_reads 38 = .ok (.getfield 132, 3) := by decide +kernel
theorem dX8_reads_41 : decode cX8_reads 41 = .ok (.bipush 103, 2) := by decide +kernel
theorem dX8_reads_43 : decode cX8_reads 43 = .ok (.if_icmp .eq 12, 3) := by decide +kernel
theorem dX8_reads_46 : decode cX8_reads 46 = .ok (.aload_n 0, 1) := by decide +kernel
theorem dX8_reads_47 : decode cX8_reads 47 = .ok (.getfield 132, 3) := by decide +kernel
theorem dX8_reads_50 : decode cX8_reads 50 = .ok (.bipush 98, 2) := by decide +kernel
theorem dX8_reads_52 : decode cX8_reads 52 = .ok (.if_icmp .ne 7, 3) := by decide +kernel
theorem dX8_reads_55 : decode cX8_reads 55 = .ok (.iconst 1, 1) := by decide +kernel
theorem dX8_reads_56 : decode cX8_reads 56 = .ok (.goto 4, 3) := by decide +kernel
theorem dX8_reads_59 : decode cX8_reads 59 = .ok (.iconst 0, 1) := by decide +kernel
theorem dX8_reads_60 : decode cX8_reads 60 = .ok (.istore_n 1, 1) := by decide +kernel
theorem dX8_reads_61 : decode cX8_reads 61 = .ok (.aload_n 0, 1) := by decide +kernel
theorem dX8_reads_62 : decode cX8_reads 62 = .ok (.getfield 132, 3) := by decide +kernel
theorem dX8_reads_65 : decode cX8_reads 65 = .ok (.bipush 115, 2) := by decide +kernel
theorem dX8_reads_67 : decode cX8_reads 67 = .ok (.if_icmp .eq 12, 3) := by decide +kernel
theorem dX8_reads_70 : decode cX8_reads 70 = .ok (.aload_n 0, 1) := by decide +kernel
theorem dX8_reads_71 : decode cX8_reads 71 = .ok (.getfield 132, 3) := by decide +kernel
theorem dX8_reads_74 : decode cX8_reads 74 = .ok (.bipush 112, 2) := by decide +kernel
theorem dX8_reads_76 : decode cX8_reads 76 = .ok (.if_icmp .ne 7, 3) := by decide +kernel
theorem dX8_reads_79 : decode cX8_reads 79 = .ok (.iconst 1, 1) := by decide +kernel
theorem dX8_reads_80 : decode cX8_reads 80 = .ok (.goto 4, 3) := by decide +kernel
theorem dX8_reads_83 : decode cX8_reads 83 = .ok (.iconst 0, 1) := by decide +kernel
theorem dX8_reads_84 : decode cX8_reads 84 = .ok (.istore_n 2, 1) := by decide +kernel
theorem dX8_reads_85 : decode cX8_reads 85 = .ok (.iload_n 1, 1) := by decide +kernel
theorem dX8_reads_86 : decode cX8_reads 86 = .ok (.ifCond .ne 18, 3) := by decide +kernel
theorem dX8_reads_89 : decode cX8_reads 89 = .ok (.iload_n 2, 1) := by decide +kernel
theorem dX8_reads_90 : decode cX8_reads 90 = .ok (.ifCond .ne 14, 3) := by decide +kernel
theorem dX8_reads_93 : decode cX8_reads 93 = .ok (.aload_n 0, 1) := by decide +kernel
theorem dX8_reads_94 : decode cX8_reads 94 = .ok (.getfield 132, 3) := by decide +kernel
theorem dX8_reads_97 : decode cX8_reads 97 = .ok (.bipush 119, 2) := by decide +kernel
theorem dX8_reads_99 : decode cX8_reads 99 = .ok (.if_icmp .eq 5, 3) := by decide +kernel
theorem dX8_reads_102 : decode cX8_reads 102 = .ok (.iconst 0, 1) := by decide +kernel
theorem dX8_reads_103 : decode cX8_reads 103 = .ok (.ireturn, 1) := by decide +kernel
theorem dX8_reads_104 : decode cX8_reads 104 = .ok (.aload_n 0, 1) := by decide +kernel
theorem dX8_reads_105 : decode cX8_reads 105 = .ok (.dup, 1) := by decide +kernel
theorem dX8_reads_106 : decode cX8_reads 106 = .ok (.getfield 125, 3) := by decide +kernel
theorem dX8_reads_109 : decode cX8_reads 109 = .ok (.iconst 1, 1) := by decide +kernel
theorem dX8_reads_110 : decode cX8_reads 110 = .ok (.iadd, 1) := by decide +kernel
theorem dX8_reads_111 : decode cX8_reads 111 = .ok (.putfield 125, 3) := by decide +kernel
theorem dX8_reads_114 : decode cX8_reads 114 = .ok (.iload_n 2, 1) := by decide +kernel
theorem dX8_reads_115 : decode cX8_reads 115 = .ok (.ifCond .eq 10, 3) := by decide +kernel
theorem dX8_reads_118 : decode cX8_reads 118 = .ok (.aload_n 0, 1) := by decide +kernel
theorem dX8_reads_119 : decode cX8_reads 119 = .ok (.bipush 59, 2) := by decide +kernel
theorem dX8_reads_121 : decode cX8_reads 121 = .ok (.invokevirtual 135, 3) := by decide +kernel
theorem dX8_reads_124 : decode cX8_reads 124 = .ok (.ireturn, 1) := by decide +kernel
theorem dX8_reads_125 : decode cX8_reads 125 = .ok (.aload_n 0, 1) := by decide +kernel
theorem dX8_reads_126 : decode cX8_reads 126 = .ok (.iconst 0, 1) := by decide +kernel
theorem dX8_reads_127 : decode cX8_reads 127 = .ok (.invokevirtual 138, 3) := by decide +kernel
theorem dX8_reads_130 : decode cX8_reads 130 = .ok (.ifCond .eq 37, 3) := by decide +kernel
theorem dX8_reads_133 : decode cX8_reads 133 = .ok (.iload_n 1, 1) := by decide +kernel
theorem dX8_reads_134 : decode cX8_reads 134 = .ok (.ifCond .eq 20, 3) := by decide +kernel
theorem dX8_reads_137 : decode cX8_reads 137 = .ok (.aload_n 0, 1) := by decide +kernel
theorem dX8_reads_138 : decode cX8_reads 138 = .ok (.bipush 44, 2) := by decide +kernel
theorem dX8_reads_140 : decode cX8_reads 140 = .ok (.invokevirtual 135, 3) := by decide +kernel
theorem dX8_reads_143 : decode cX8_reads 143 = .ok (.ifCond .eq 24, 3) := by decide +kernel
theorem dX8_reads_146 : decode cX8_reads 146 = .ok (.aload_n 0, 1) := by decide +kernel
theorem dX8_reads_147 : decode cX8_reads 147 = .ok (.iconst 1, 1) := by decide +kernel
theorem dX8_reads_148 : decode cX8_reads 148 = .ok (.invokevirtual 138, 3) := by decide +kernel
theorem dX8_reads_151 : decode cX8_reads 151 = .ok (.ifCond .eq 16, 3) := by decide +kernel
theorem dX8_reads_154 : decode cX8_reads 154 = .ok (.aload_n 0, 1) := by decide +kernel
theorem dX8_reads_155 : decode cX8_reads 155 = .ok (.bipush 59, 2) := by decide +kernel
theorem dX8_reads_157 : decode cX8_reads 157 = .ok (.invokevirtual 135, 3) := by decide +kernel
theorem dX8_reads_160 : decode cX8_reads 160 = .ok (.ifCond .eq 7, 3) := by decide +kernel
theorem dX8_reads_163 : decode cX8_reads 163 = .ok (.iconst 1, 1) := by decide +kernel
theorem dX8_reads_164 : decode cX8_reads 164 = .ok (.goto 4, 3) := by decide +kernel
theorem dX8_reads_167 : decode cX8_reads 167 = .ok (.iconst 0, 1) := by decide +kernel
theorem dX8_reads_168 : decode cX8_reads 168 = .ok (.ireturn, 1) := by decide +kernel
set_option maxRecDepth 20000 in
theorem ggX8_calls_X8_fill : GoodIn wsX8_calls wsX8_fill := goodIn_r _ [7, 8, 9, 10, 11, 12, 6, 13, 14, 15, 16, 17, 18, 19, 20, 21, 22, 23, 24, 25, 26, 27, 116, 117, 118, 119, 120, 121, 122, 123, 124, 125, 126, 127, 128, 129, 130] rfl (by decide +kernel)
set_option maxRecDepth 20000 in
theorem gX8_calls_X8_fill : GoodIn wsX8_calls (wsV RX8 141 RX8 yX8_fill wsX8_fill) := goodIn_app (goodIn_of _ (by decide +kernel)) ggX8_calls_X8_fill
set_option maxRecDepth 20000 in
theorem ggX8_calls_X8_grind : GoodIn wsX8_calls wsX8_grind := goodIn_r _ [31, 32, 33, 34, 35, 6, 36, 8, 37, 9, 10, 11, 12, 13, 14, 15, 16, 17, 18, 19, 20, 38, 39, 40, 41, 42, 43, 44, 21, 22, 23, 24, 25, 26, 27, 45, 46, 47, 48, 49, 50, 51, 52, 53, 54, 55, 56, 57, 58, 59, 60, 61, 62, 63, 64, 65, 66, 67, 68, 69, 70, 71, 72, 73, 74, 116, 117, 118, 119, 120, 121, 122, 123, 124, 125, 126, 127, 128, 129, 130] rfl (by decide +kernel)
set_option maxRecDepth 20000 in
theorem gX8_calls_X8_grind : GoodIn wsX8_calls (wsV RX8 144 RX8 yX8_grind wsX8_grind) := goodIn_app (goodIn_of _ (by decide +kernel)) ggX8_calls_X8_grind
set_option maxRecDepth 20000 in
theorem ggX8_calls_X8_dial : GoodIn wsX8_calls wsX8_dial := goodIn_r _ [78, 8, 9, 11, 12, 6, 13, 14, 15, 16, 21, 22, 23, 24, 25, 26, 27, 57, 58, 59, 60, 116, 117, 118, 119, 120, 121, 122, 123, 124, 125, 126, 127, 128, 129, 130] rfl (by decide +kernel)
set_option maxRecDepth 20000 in
theorem gX8_calls_X8_dial : GoodIn wsX8_calls (wsV RX8 147 RX8 yX8_dial wsX8_dial) := goodIn_app (goodIn_of _ (by decide +kernel)) ggX8_calls_X8_dial
set_option maxRecDepth 20000 in
theorem ggX8_calls_X8_rest : GoodIn wsX8_calls wsX8_rest := goodIn_r _ [82, 8, 14, 15, 6, 16, 21, 22, 23, 24, 25, 26, 27, 9, 68, 69, 70, 71, 57, 58, 59, 60, 72, 73, 74, 116, 117, 118, 119, 120, 121, 122, 123, 124, 125, 126, 127, 128, 129, 130] rfl (by decide +kernel)
set_option maxRecDepth 20000 in
theorem gX8_calls_X8_rest : GoodIn wsX8_calls (wsV RX8 150 RX8 yX8_rest wsX8_rest) := goodIn_app (goodIn_of _ (by decide +kernel)) ggX8_calls_X8_rest
set_option maxRecDepth 20000 in
theorem ggX8_calls_X8_shot : GoodIn wsX8_calls wsX8_shot := goodIn_r _ [86, 9, 37, 32, 21, 22, 23, 6, 24, 25, 26, 27, 87, 88, 89, 90, 42, 43, 44, 91, 92, 93, 94, 95, 96, 97, 98, 99, 100, 38, 39, 40, 41, 101, 102, 103, 104, 105, 106, 107, 108, 109, 110, 111, 57, 58, 59, 60, 68, 69, 70, 71, 72, 73, 74, 116, 117, 118, 119, 120, 121, 122, 123, 124, 125, 126, 127, 128, 129, 130] rfl (by decide +kernel)
set_option maxRecDepth 20000 in
theorem gX8_calls_X8_shot : GoodIn wsX8_calls (wsV RX8 153 RX8 yX8_shot wsX8_shot) := goodIn_app (goodIn_of _ (by decide +kernel)) ggX8_calls_X8_shot
set_option maxRecDepth 20000 in
theorem ggX8_calls_X8_purge : GoodIn wsX8_calls wsX8_purge := goodIn_r _ [115, 9, 21, 22, 23, 6, 24, 25, 26, 27, 38, 39, 40, 41, 42, 43, 44, 116, 117, 118, 119, 120, 121, 122, 123, 124, 125, 126, 127, 128, 129, 130] rfl (by decide +kernel)
set_option maxRecDepth 20000 in
theorem gX8_calls_X8_purge : GoodIn wsX8_calls (wsV RX8 156 RX8 yX8_purge wsX8_purge) := goodIn_app (goodIn_of _ (by decide +kernel)) ggX8_calls_X8_purge
theorem dX8_calls_0 : decode cX8_calls 0 = .ok (.aload_n 0, 1) := by decide +kernel
theorem dX8_calls_1 : decode cX8_calls 1 = .ok (.getfield 132, 3) := by decide +kernel
theorem dX8_calls_4 : decode cX8_calls 4 = .ok (.lookupswitch 119 #[(98, 86), (102, 52), (103, 69), (115, 114), (119, 103)], 52) := by decide +kernel
theorem dX8_calls_56 : decode cX8_calls 56 = .ok (.aload_n 0, 1) := by decide +kernel
theorem dX8_calls_57 : decode cX8_calls 57 = .ok (.aload_n 0, 1) := by decide +kernel
theorem dX8_calls_58 : decode cX8_calls 58 = .ok (.getfield 25, 3) := by decide +kernel
theorem dX8_calls_61 : decode cX8_calls 61 = .ok (.iconst 0, 1) := by decide +kernel
theorem dX8_calls_62 : decode cX8_calls 62 = .ok (.iaload, 1) := by decide +kernel
theorem dX8_calls_63 : decode cX8_calls 63 = .ok (.aload_n 0, 1) := by decide +kernel
theorem dX8_calls_64 : decode cX8_calls 64 = .ok (.getfield 25, 3) := by decide +kernel
theorem dX8_calls_67 : decode cX8_calls 67 = .ok (.iconst 1, 1) := by decide +kernel
theorem dX8_calls_68 : decode cX8_calls 68 = .ok (.iaload, 1) := by decide +kernel
theorem dX8_calls_69 : decode cX8_calls 69 = .ok (.invokevirtual 141, 3) := by decide +kernel
theorem dX8_calls_72 : decode cX8_calls 72 = .ok (.ireturn, 1) := by decide +kernel
theorem dX8_calls_73 : decode cX8_calls 73 = .ok (.aload_n 0, 1) := by decide +kernel
theorem dX8_calls_74 : decode cX8_calls 74 = .ok (.aload_n 0, 1) := by decide +kernel
theorem dX8_calls_75 : decode cX8_calls 75 = .ok (.getfield 25, 3) := by decide +kernel
theorem dX8_calls_78 : decode cX8_calls 78 = .ok (.iconst 0, 1) := by decide +kernel
theorem dX8_calls_79 : decode cX8_calls 79 = .ok (.iaload, 1) := by decide +kernel
theorem dX8_calls_80 : decode cX8_calls 80 = .ok (.aload_n 0, 1) := by decide +kernel
theorem dX8_calls_81 : decode cX8_calls 81 = .ok (.getfield 25, 3) := by decide +kernel
theorem dX8_calls_84 : decode cX8_calls 84 = .ok (.iconst 1, 1) := by decide +kernel
theorem dX8_calls_85 : decode cX8_calls 85 = .ok (.iaload, 1) := by decide +kernel
theorem dX8_calls_86 : decode cX8_calls 86 = .ok (.invokevirtual 144, 3) := by decide +kernel
theorem dX8_calls_89 : decode cX8_calls 89 = .ok (.ireturn, 1) := by decide +kernel
theorem dX8_calls_90 : decode cX8_calls 90 = .ok (.aload_n 0, 1) := by decide +kernel
theorem dX8_calls_91 : decode cX8_calls 91 = .ok (.aload_n 0, 1) := by decide +kernel
theorem dX8_calls_92 : decode cX8_calls 92 = .ok (.getfield 25, 3) := by decide +kernel
theorem dX8_calls_95 : decode cX8_calls 95 = .ok (.iconst 0, 1) := by decide +kernel
theorem dX8_calls_96 : decode cX8_calls 96 = .ok (.iaload, 1) := by decide +kernel
theorem dX8_calls_97 : decode cX8_calls 97 = .ok (.aload_n 0, 1) := by decide +kernel
theorem dX8_calls_98 : decode cX8_calls 98 = .ok (.getfield 25, 3) := by decide +kernel
theorem dX8_calls_101 : decode cX8_calls 101 = .ok (.iconst 1, 1) := by decide +kernel
theorem dX8_calls_102 : decode cX8_calls 102 = .ok (.iaload, 1) := by decide +kernel
theorem dX8_calls_103 : decode cX8_calls 103 = .ok (.invokevirtual 147, 3) := by decide +kernel
theorem dX8_calls_106 : decode cX8_calls 106 = .ok (.ireturn, 1) := by decide +kernel
theorem dX8_calls_107 : decode cX8_calls 107 = .ok (.aload_n 0, 1) := by decide +kernel
theorem dX8_calls_108 : decode cX8_calls 108 = .ok (.aload_n 0, 1) := by decide +kernel
theorem dX8_calls_109 : decode cX8_calls 109 = .ok (.getfield 25, 3) := by decide +kernel
theorem dX8_calls_112 : decode cX8_calls 112 = .ok (.iconst 0, 1) := by decide +kernel
theorem dX8_calls_113 : decode cX8_calls 113 = .ok (.iaload, 1) := by decide +kernel
theorem dX8_calls_114 : decode cX8_calls 114 = .ok (.invokevirtual 150, 3) := by decide +kernel
theorem dX8_calls_117 : decode cX8_calls 117 = .ok (.ireturn, 1) := by decide +kernel
theorem dX8_calls_118 : decode cX8_calls 118 = .ok (.aload_n 0, 1) := by decide +kernel
theorem dX8_calls_119 : decode cX8_calls 119 = .ok (.invokevirtual 153, 3) := by decide +kernel
theorem dX8_calls_122 : decode cX8_calls 122 = .ok (.ireturn, 1) := by decide +kernel
theorem dX8_calls_123 : decode cX8_calls 123 = .ok (.aload_n 0, 1) := by decide +kernel
theorem dX8_calls_124 : decode cX8_calls 124 = .ok (.invokevirtual 156, 3) := by decide +kernel
theorem dX8_calls_127 : decode cX8_calls 127 = .ok (.ireturn, 1) := by decide +kernel
set_option maxRecDepth 20000 in
theorem ggX8_plays_X8_reads : GoodIn wsX8_plays wsX8_reads := goodIn_r _ [12, 13, 2, 14, 15, 16, 17, 11, 18, 5, 19, 20, 21, 22, 23, 24, 25, 26, 27, 28, 29, 30, 143, 144, 145, 146, 147, 148, 149, 150, 151, 152, 153, 154, 155, 156, 157] rfl (by decide +kernel)
set_option maxRecDepth 20000 in
theorem gX8_plays_X8_reads : GoodIn wsX8_plays (wsV RX8 165 RX8 yX8_reads wsX8_reads) := goodIn_app (goodIn_of _ (by decide +kernel)) ggX8_plays_X8_reads
set_option maxRecDepth 20000 in
theorem ggX8_plays_X8_calls : GoodIn wsX8_plays wsX8_calls := goodIn_r _ [34, 14, 30, 35, 36, 37, 11, 38, 39, 40, 41, 42, 43, 44, 19, 20, 21, 45, 46, 47, 48, 49, 50, 51, 52, 1, 53, 54, 55, 56, 57, 58, 59, 60, 61, 62, 63, 64, 65, 66, 67, 68, 69, 70, 71, 72, 73, 74, 75, 76, 77, 78, 79, 80, 81, 82, 83, 84, 85, 86, 87, 88, 89, 90, 91, 92, 93, 94, 95, 96, 97, 98, 99, 100, 101, 102, 103, 104, 105, 106, 107, 108, 109, 110, 111, 112, 113, 114, 115, 116, 117, 118, 119, 120, 121, 122, 123, 124, 125, 126, 127, 128, 129, 130, 131, 132, 133, 134, 135, 136, 137, 138, 139, 140, 141, 142, 143, 144, 145, 146, 147, 148, 149, 150, 151, 152, 153, 154, 155, 156, 157] rfl (by decide +kernel)
set_option maxRecDepth 20000 in
theorem gX8_plays_X8_calls : GoodIn wsX8_plays (wsV RX8 169 RX8 yX8_calls wsX8_calls) := goodIn_app (goodIn_of _ (by decide +kernel)) ggX8_plays_X8_calls
theorem dX8_plays_0 : decode cX8_plays 0 = .ok (.aload_n 0, 1) := by decide +kernel
theorem dX8_plays_1 : decode cX8_plays 1 = .ok (.iconst 1, 1) := by decide +kernel
theorem dX8_plays_2 : decode cX8_plays 2 = .ok (.putfield 32, 3) := by decide +kernel
theorem dX8_plays_5 : decode cX8_plays 5 = .ok (.aload_n 0, 1) := by decide +kernel
theorem dX8_plays_6 : decode cX8_plays 6 = .ok (.iconst 0, 1) := by decide +kernel
theorem dX8_plays_7 : decode cX8_plays 7 = .ok (.putfield 125, 3) := by decide +kernel
theorem dX8_plays_10 : decode cX8_plays 10 = .ok (.aload_n 0, 1) := by decide +kernel
theorem dX8_plays_11 : decode cX8_plays 11 = .ok (.iconst 0, 1) := by decide +kernel
theorem dX8_plays_12 : decode cX8_plays 12 = .ok (.putfield 159, 3) := by decide +kernel
theorem dX8_plays_15 : decode cX8_plays 15 = .ok (.aload_n 0, 1) := by decide +kernel
theorem dX8_plays_16 : decode cX8_plays 16 = .ok (.iconst 0, 1) := by decide +kernel
theorem dX8_plays_17 : decode cX8_plays 17 = .ok (.putfield 162, 3) := by decide +kernel
theorem dX8_plays_20 : decode cX8_plays 20 = .ok (.iconst 1, 1) := by decide +kernel
theorem dX8_plays_21 : decode cX8_plays 21 = .ok (.istore_n 1, 1) := by decide +kernel
theorem dX8_plays_22 : decode cX8_plays 22 = .ok (.aload_n 0, 1) := by decide +kernel
theorem dX8_plays_23 : decode cX8_plays 23 = .ok (.getfield 125, 3) := by decide +kernel
theorem dX8_plays_26 : decode cX8_plays 26 = .ok (.aload_n 0, 1) := by decide +kernel
theorem dX8_plays_27 : decode cX8_plays 27 = .ok (.getfield 122, 3) := by decide +kernel
theorem dX8_plays_30 : decode cX8_plays 30 = .ok (.if_icmp .ge 94, 3) := by decide +kernel
theorem dX8_plays_33 : decode cX8_plays 33 = .ok (.iload_n 1, 1) := by decide +kernel
theorem dX8_plays_34 : decode cX8_plays 34 = .ok (.ifCond .eq 90, 3) := by decide +kernel
theorem dX8_plays_37 : decode cX8_plays 37 = .ok (.aload_n 0, 1) := by decide +kernel
theorem dX8_plays_38 : decode cX8_plays 38 = .ok (.aload_n 0, 1) := by decide +kernel
theorem dX8_plays_39 : decode cX8_plays 39 = .ok (.getfield 125, 3) := by decide +kernel
theorem dX8_plays_42 : decode cX8_plays 42 = .ok (.putfield 159, 3) := by decide +kernel
theorem dX8_plays_45 : decode cX8_plays 45 = .ok (.aload_n 0, 1) := by decide +kernel
theorem dX8_plays_46 : decode cX8_plays 46 = .ok (.invokevirtual 165, 3) := by decide +kernel
theorem dX8_plays_49 : decode cX8_plays 49 = .ok (.istore_n 2, 1) := by decide +kernel
theorem dX8_plays_50 : decode cX8_plays 50 = .ok (.iload_n 2, 1) := by decide +kernel
theorem dX8_plays_51 : decode cX8_plays 51 = .ok (.ifCond .eq 10, 3) := by decide +kernel
theorem dX8_plays_54 : decode cX8_plays 54 = .ok (.aload_n 0, 1) := by decide +kernel
theorem dX8_plays_55 : decode cX8_plays 55 = .ok (.invokevirtual 169, 3) := by decide +kernel
theorem dX8_plays_58 : decode cX8_plays 58 = .ok (.goto 4, 3) := by decide +kernel
theorem dX8_plays_61 : decode cX8_plays 61 = .ok (.iconst 0, 1) := by decide +kernel
theorem dX8_plays_62 : decode cX8_plays 62 = .ok (.istore_n 3, 1) := by decide +kernel
theorem dX8_plays_63 : decode cX8_plays 63 = .ok (.iload_n 2, 1) := by decide +kernel
theorem dX8_plays_64 : decode cX8_plays 64 = .ok (.ifCond .eq 11, 3) := by decide +kernel
theorem dX8_plays_67 : decode cX8_plays 67 = .ok (.iload_n 3, 1) := by decide +kernel
theorem dX8_plays_68 : decode cX8_plays 68 = .ok (.ifCond .lt 7, 3) := by decide +kernel
theorem dX8_plays_71 : decode cX8_plays 71 = .ok (.iconst 1, 1) := by decide +kernel
theorem dX8_plays_72 : decode cX8_plays 72 = .ok (.goto 4, 3) := by decide +kernel
theorem dX8_plays_75 : decode cX8_plays 75 = .ok (.iconst 0, 1) := by decide +kernel
theorem dX8_plays_76 : decode cX8_plays 76 = .ok (.istore_n 1, 1) := by decide +kernel
theorem dX8_plays_77 : decode cX8_plays 77 = .ok (.aload_n 0, 1) := by decide +kernel
theorem dX8_plays_78 : decode cX8_plays 78 = .ok (.iload_n 2, 1) := by decide +kernel
theorem dX8_plays_79 : decode cX8_plays 79 = .ok (.ifCond .eq 7, 3) := by decide +kernel
theorem dX8_plays_82 : decode cX8_plays 82 = .ok (.iconst 2, 1) := by decide +kernel
theorem dX8_plays_83 : decode cX8_plays 83 = .ok (.goto 4, 3) := by decide +kernel
theorem dX8_plays_86 : decode cX8_plays 86 = .ok (.iconst 1, 1) := by decide +kernel
theorem dX8_plays_87 : decode cX8_plays 87 = .ok (.putfield 172, 3) := by decide +kernel
theorem dX8_plays_90 : decode cX8_plays 90 = .ok (.aload_n 0, 1) := by decide +kernel
theorem dX8_plays_91 : decode cX8_plays 91 = .ok (.iload_n 2, 1) := by decide +kernel
theorem dX8_plays_92 : decode cX8_plays 92 = .ok (.ifCond .eq 7, 3) := by decide +kernel
theorem dX8_plays_95 : decode cX8_plays 95 = .ok (.iload_n 3, 1) := by decide +kernel
theorem dX8_plays_96 : decode cX8_plays 96 = .ok (.goto 12, 3) := by decide +kernel
theorem dX8_plays_99 : decode cX8_plays 99 = .ok (.aload_n 0, 1) := by decide +kernel
theorem dX8_plays_100 : decode cX8_plays 100 = .ok (.getfield 125, 3) := by decide +kernel
theorem dX8_plays_103 : decode cX8_plays 103 = .ok (.aload_n 0, 1) := by decide +kernel
theorem dX8_plays_104 : decode cX8_plays 104 = .ok (.getfield 159, 3) := by decide +kernel
theorem dX8_plays_107 : decode cX8_plays 107 = .ok (.isub, 1) := by decide +kernel
theorem dX8_plays_108 : decode cX8_plays 108 = .ok (.putfield 175, 3) := by decide +kernel
theorem dX8_plays_111 : decode cX8_plays 111 = .ok (.aload_n 0, 1) := by decide +kernel
theorem dX8_plays_112 : decode cX8_plays 112 = .ok (.dup, 1) := by decide +kernel
theorem dX8_plays_113 : decode cX8_plays 113 = .ok (.getfield 162, 3) := by decide +kernel
theorem dX8_plays_116 : decode cX8_plays 116 = .ok (.iconst 1, 1) := by decide +kernel
theorem dX8_plays_117 : decode cX8_plays 117 = .ok (.iadd, 1) := by decide +kernel
theorem dX8_plays_118 : decode cX8_plays 118 = .ok (.putfield 162, 3) := by decide +kernel
theorem dX8_plays_121 : decode cX8_plays 121 = .ok (.goto (-99), 3) := by decide +kernel
theorem dX8_plays_124 : decode cX8_plays 124 = .ok (.aload_n 0, 1) := by decide +kernel
theorem dX8_plays_125 : decode cX8_plays 125 = .ok (.iconst 0, 1) := by decide +kernel
theorem dX8_plays_126 : decode cX8_plays 126 = .ok (.putfield 32, 3) := by decide +kernel
theorem dX8_plays_129 : decode cX8_plays 129 = .ok (.iload_n 1, 1) := by decide +kernel
theorem dX8_plays_130 : decode cX8_plays 130 = .ok (.ireturn, 1) := by decide +kernel
set_option maxRecDepth 20000 in
theorem ggX8_fault_X8_in : GoodIn wsX8_fault wsX8_in := goodIn_r _ [11] rfl (by decide +kernel)
set_option maxRecDepth 20000 in
theorem gX8_fault_X8_in : GoodIn wsX8_fault (va_wsS RX8 28 yX8_in wsX8_in) := goodIn_app (goodIn_of _ (by decide +kernel)) ggX8_fault_X8_in
set_option maxRecDepth 20000 in
theorem ggX8_fault_X8_copies : GoodIn wsX8_fault wsX8_copies := goodIn_r _ [14] rfl (by decide +kernel)
set_option maxRecDepth 20000 in
theorem gX8_fault_X8_copies : GoodIn wsX8_fault (va_wsS RX8 118 yX8_copies wsX8_copies) := goodIn_app (goodIn_of _ (by decide +kernel)) ggX8_fault_X8_copies
set_option maxRecDepth 20000 in
theorem ggX8_fault_X8_plays : GoodIn wsX8_fault wsX8_plays := goodIn_r _ [18, 19, 20, 5, 21, 22, 6, 7, 23, 24, 25, 10, 26, 27, 28, 29, 30, 31, 32, 8, 9, 11, 33, 34, 35, 36, 37, 38, 39, 40, 41, 42, 43, 44, 45, 46, 47, 48, 49, 1, 2, 50, 51, 52, 53, 54, 55, 56, 57, 58, 59, 60, 61, 62, 63, 64, 65, 66, 67, 4, 68, 69, 70, 71, 72, 73, 74, 75, 76, 77, 78, 79, 80, 81, 82, 83, 84, 85, 86, 87, 88, 89, 90, 91, 92, 93, 94, 95, 96, 97, 98, 99, 100, 101, 102, 103, 104, 105, 106, 107, 108, 109, 110, 111, 112, 113, 114, 115, 116, 117, 118, 119, 120, 121, 122, 123, 124, 125, 126, 127, 128, 129, 130, 131, 132, 133, 134, 135, 136, 137, 138, 139, 140, 141, 142, 143, 144, 145, 146, 147, 148, 149, 150, 151, 152, 153, 154, 155, 156, 157, 158, 159, 160, 161, 162, 163, 164, 165] rfl (by decide +kernel)
set_option maxRecDepth 20000 in
theorem gX8_fault_X8_plays : GoodIn wsX8_fault (wsV RX8 178 RX8 yX8_plays wsX8_plays) := goodIn_app (goodIn_of _ (by decide +kernel)) ggX8_fault_X8_plays
theorem dX8_fault_0 : decode cX8_fault 0 = .ok (.iload_n 1, 1) := by decide +kernel
theorem dX8_fault_1 : decode cX8_fault 1 = .ok (.iconst 0, 1) := by decide +kernel
theorem dX8_fault_2 : decode cX8_fault 2 = .ok (.iconst 2, 1) := by decide +kernel
theorem dX8_fault_3 : decode cX8_fault 3 = .ok (.invokestatic 28, 3) := by decide +kernel
theorem dX8_fault_6 : decode cX8_fault 6 = .ok (.ifCond .ne 6, 3) := by decide +kernel
theorem dX8_fault_9 : decode cX8_fault 9 = .ok (.ldc 64, 2) := by decide +kernel
theorem dX8_fault_11 : decode cX8_fault 11 = .ok (.ireturn, 1) := by decide +kernel
theorem dX8_fault_12 : decode cX8_fault 12 = .ok (.aload_n 0, 1) := by decide +kernel
theorem dX8_fault_13 : decode cX8_fault 13 = .ok (.getfield 7, 3) := by decide +kernel
theorem dX8_fault_16 : decode cX8_fault 16 = .ok (.aload_n 0, 1) := by decide +kernel
theorem dX8_fault_17 : decode cX8_fault 17 = .ok (.getfield 16, 3) := by decide +kernel
theorem dX8_fault_20 : decode cX8_fault 20 = .ok (.invokestatic 118, 3) := by decide +kernel
theorem dX8_fault_23 : decode cX8_fault 23 = .ok (.aload_n 0, 1) := by decide +kernel
theorem dX8_fault_24 : decode cX8_fault 24 = .ok (.invokevirtual 178, 3) := by decide +kernel
theorem dX8_fault_27 : decode cX8_fault 27 = .ok (.istore_n 2, 1) := by decide +kernel
theorem dX8_fault_28 : decode cX8_fault 28 = .ok (.aload_n 0, 1) := by decide +kernel
theorem dX8_fault_29 : decode cX8_fault 29 = .ok (.getfield 16, 3) := by decide +kernel
theorem dX8_fault_32 : decode cX8_fault 32 = .ok (.aload_n 0, 1) := by decide +kernel
theorem dX8_fault_33 : decode cX8_fault 33 = .ok (.getfield 7, 3) := by decide +kernel
theorem dX8_fault_36 : decode cX8_fault 36 = .ok (.invokestatic 118, 3) := by decide +kernel
theorem dX8_fault_39 : decode cX8_fault 39 = .ok (.iload_n 2, 1) := by decide +kernel
theorem dX8_fault_40 : decode cX8_fault 40 = .ok (.ifCond .eq 8, 3) := by decide +kernel
theorem dX8_fault_43 : decode cX8_fault 43 = .ok (.ldc 96, 2) := by decide +kernel
theorem dX8_fault_45 : decode cX8_fault 45 = .ok (.goto 30, 3) := by decide +kernel
theorem dX8_fault_48 : decode cX8_fault 48 = .ok (.iload_n 1, 1) := by decide +kernel
theorem dX8_fault_49 : decode cX8_fault 49 = .ok (.ifCond .ne 10, 3) := by decide +kernel
theorem dX8_fault_52 : decode cX8_fault 52 = .ok (.aload_n 0, 1) := by decide +kernel
theorem dX8_fault_53 : decode cX8_fault 53 = .ok (.getfield 159, 3) := by decide +kernel
theorem dX8_fault_56 : decode cX8_fault 56 = .ok (.goto 19, 3) := by decide +kernel
theorem dX8_fault_59 : decode cX8_fault 59 = .ok (.iload_n 1, 1) := by decide +kernel
theorem dX8_fault_60 : decode cX8_fault 60 = .ok (.iconst 1, 1) := by decide +kernel
theorem dX8_fault_61 : decode cX8_fault 61 = .ok (.if_icmp .ne 10, 3) := by decide +kernel
theorem dX8_fault_64 : decode cX8_fault 64 = .ok (.aload_n 0, 1) := by decide +kernel
theorem dX8_fault_65 : decode cX8_fault 65 = .ok (.getfield 172, 3) := by decide +kernel
theorem dX8_fault_68 : decode cX8_fault 68 = .ok (.goto 7, 3) := by decide +kernel
theorem dX8_fault_71 : decode cX8_fault 71 = .ok (.aload_n 0, 1) := by decide +kernel
theorem dX8_fault_72 : decode cX8_fault 72 = .ok (.getfield 175, 3) := by decide +kernel
theorem dX8_fault_75 : decode cX8_fault 75 = .ok (.ireturn, 1) := by decide +kernel
set_option maxRecDepth 20000 in
theorem ggX8_play_X8_copies : GoodIn wsX8_play wsX8_copies := goodIn_r _ [9] rfl (by decide +kernel)
set_option maxRecDepth 20000 in
theorem gX8_play_X8_copies : GoodIn wsX8_play (va_wsS RX8 118 yX8_copies wsX8_copies) := goodIn_app (goodIn_of _ (by decide +kernel)) ggX8_play_X8_copies
set_option maxRecDepth 20000 in
theorem ggX8_play_X8_plays : GoodIn wsX8_play wsX8_plays := goodIn_r _ [13, 14, 15, 16, 4, 17, 18, 19, 20, 21, 22, 8, 23, 24, 25, 26, 27, 28, 29, 30, 31, 32, 33, 34, 35, 36, 37, 38, 39, 40, 41, 42, 43, 44, 45, 46, 47, 48, 49, 50, 1, 51, 52, 53, 54, 55, 56, 57, 58, 59, 60, 61, 62, 63, 64, 65, 66, 67, 68, 5, 69, 70, 71, 72, 3, 73, 74, 75, 76, 77, 78, 79, 80, 81, 82, 83, 84, 85, 86, 87, 88, 89, 90, 91, 92, 93, 94, 95, 96, 97, 98, 99, 100, 101, 102, 103, 104, 105, 106, 107, 108, 109, 110, 111, 112, 113, 114, 115, 116, 117, 118, 119, 120, 121, 122, 123, 124, 125, 126, 127, 128, 129, 130, 131, 132, 133, 134, 135, 136, 137, 138, 139, 140, 141, 142, 143, 144, 145, 146, 147, 148, 149, 150, 151, 152, 153, 154, 155, 156, 157, 158, 159, 160, 161, 162, 163, 164, 165] rfl (by decide +kernel)
set_option maxRecDepth 20000 in
theorem gX8_play_X8_plays : GoodIn wsX8_play (wsV RX8 178 RX8 yX8_plays wsX8_plays) := goodIn_app (goodIn_of _ (by decide +kernel)) ggX8_play_X8_plays
set_option maxRecDepth 20000 in
theorem ggX8_play_X8_changes : GoodIn wsX8_play wsX8_changes := goodIn_r _ [62, 14, 63, 64, 1, 151, 152, 153, 154, 155, 156, 157, 158, 159, 160, 161, 162, 163, 164, 165] rfl (by decide +kernel)
set_option maxRecDepth 20000 in
theorem gX8_play_X8_changes : GoodIn wsX8_play (wsV RX8 70 RX8 yX8_changes wsX8_changes) := goodIn_app (goodIn_of _ (by decide +kernel)) ggX8_play_X8_changes
theorem dX8_play_0 : decode cX8_play 0 = .ok (.aload_n 0, 1) := by decide +kernel
theorem dX8_play_1 : decode cX8_play 1 = .ok (.getfield 7, 3) := by decide +kernel
theorem dX8_play_4 : decode cX8_play 4 = .ok (.aload_n 0, 1) := by decide +kernel
theorem dX8_play_5 : decode cX8_play 5 = .ok (.getfield 16, 3) := by decide +kernel
theorem dX8_play_8 : decode cX8_play 8 = .ok (.invokestatic 118, 3) := by decide +kernel
theorem dX8_play_11 : decode cX8_play 11 = .ok (.aload_n 0, 1) := by decide +kernel
theorem dX8_play_12 : decode cX8_play 12 = .ok (.invokevirtual 178, 3) := by decide +kernel
theorem dX8_play_15 : decode cX8_play 15 = .ok (.istore_n 1, 1) := by decide +kernel
theorem dX8_play_16 : decode cX8_play 16 = .ok (.aload_n 0, 1) := by decide +kernel
theorem dX8_play_17 : decode cX8_play 17 = .ok (.getfield 16, 3) := by decide +kernel
theorem dX8_play_20 : decode cX8_play 20 = .ok (.aload_n 0, 1) := by decide +kernel
theorem dX8_play_21 : decode cX8_play 21 = .ok (.getfield 7, 3) := by decide +kernel
theorem dX8_play_24 : decode cX8_play 24 = .ok (.invokestatic 118, 3) := by decide +kernel
theorem dX8_play_27 : decode cX8_play 27 = .ok (.iload_n 1, 1) := by decide +kernel
theorem dX8_play_28 : decode cX8_play 28 = .ok (.ifCond .ne 6, 3) := by decide +kernel
theorem dX8_play_31 : decode cX8_play 31 = .ok (.ldc 79, 2) := by decide +kernel
theorem dX8_play_33 : decode cX8_play 33 = .ok (.ireturn, 1) := by decide +kernel
theorem dX8_play_34 : decode cX8_play 34 = .ok (.aload_n 0, 1) := by decide +kernel
theorem dX8_play_35 : decode cX8_play 35 = .ok (.invokevirtual 70, 3) := by decide +kernel
theorem dX8_play_38 : decode cX8_play 38 = .ok (.aload_n 0, 1) := by decide +kernel
theorem dX8_play_39 : decode cX8_play 39 = .ok (.invokevirtual 178, 3) := by decide +kernel
theorem dX8_play_42 : decode cX8_play 42 = .ok (.ifCond .eq 10, 3) := by decide +kernel
theorem dX8_play_45 : decode cX8_play 45 = .ok (.aload_n 0, 1) := by decide +kernel
theorem dX8_play_46 : decode cX8_play 46 = .ok (.getfield 162, 3) := by decide +kernel
theorem dX8_play_49 : decode cX8_play 49 = .ok (.goto 5, 3) := by decide +kernel
theorem dX8_play_52 : decode cX8_play 52 = .ok (.ldc 96, 2) := by decide +kernel
theorem dX8_play_54 : decode cX8_play 54 = .ok (.ireturn, 1) := by decide +kernel
theorem dJ9_abs_0f7a4_0 : decode cJ9_abs_0f7a4 0 = .ok (.iload_n 0, 1) := by decide +kernel
theorem dJ9_abs_0f7a4_1 : decode cJ9_abs_0f7a4 1 = .ok (.ifCond .ge 8, 3) := by decide +kernel
theorem dJ9_abs_0f7a4_4 : decode cJ9_abs_0f7a4 4 = .ok (.iload_n 0, 1) := by decide +kernel
theorem dJ9_abs_0f7a4_5 : decode cJ9_abs_0f7a4 5 = .ok (.ineg, 1) := by decide +kernel
theorem dJ9_abs_0f7a4_6 : decode cJ9_abs_0f7a4 6 = .ok (.goto 4, 3) := by decide +kernel
theorem dJ9_abs_0f7a4_9 : decode cJ9_abs_0f7a4 9 = .ok (.iload_n 0, 1) := by decide +kernel
theorem dJ9_abs_0f7a4_10 : decode cJ9_abs_0f7a4 10 = .ok (.ireturn, 1) := by decide +kernel
theorem dJ9_max_7cf53_0 : decode cJ9_max_7cf53 0 = .ok (.iload_n 0, 1) := by decide +kernel
theorem dJ9_max_7cf53_1 : decode cJ9_max_7cf53 1 = .ok (.iload_n 1, 1) := by decide +kernel
theorem dJ9_max_7cf53_2 : decode cJ9_max_7cf53 2 = .ok (.if_icmp .lt 7, 3) := by decide +kernel
theorem dJ9_max_7cf53_5 : decode cJ9_max_7cf53 5 = .ok (.iload_n 0, 1) := by decide +kernel
theorem dJ9_max_7cf53_6 : decode cJ9_max_7cf53 6 = .ok (.goto 4, 3) := by decide +kernel
theorem dJ9_max_7cf53_9 : decode cJ9_max_7cf53 9 = .ok (.iload_n 1, 1) := by decide +kernel
theorem dJ9_max_7cf53_10 : decode cJ9_max_7cf53 10 = .ok (.ireturn, 1) := by decide +kernel
theorem dJ9_min_7cf53_0 : decode cJ9_min_7cf53 0 = .ok (.iload_n 0, 1) := by decide +kernel
theorem dJ9_min_7cf53_1 : decode cJ9_min_7cf53 1 = .ok (.iload_n 1, 1) := by decide +kernel
theorem dJ9_min_7cf53_2 : decode cJ9_min_7cf53 2 = .ok (.if_icmp .gt 7, 3) := by decide +kernel
theorem dJ9_min_7cf53_5 : decode cJ9_min_7cf53 5 = .ok (.iload_n 0, 1) := by decide +kernel
theorem dJ9_min_7cf53_6 : decode cJ9_min_7cf53 6 = .ok (.goto 4, 3) := by decide +kernel
theorem dJ9_min_7cf53_9 : decode cJ9_min_7cf53 9 = .ok (.iload_n 1, 1) := by decide +kernel
theorem dJ9_min_7cf53_10 : decode cJ9_min_7cf53 10 = .ok (.ireturn, 1) := by decide +kernel
