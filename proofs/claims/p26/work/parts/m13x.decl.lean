theorem dL_cell_0 : decode cL_cell 0 = .ok (.iload_n 1, 1) := by decide +kernel
theorem dL_cell_1 : decode cL_cell 1 = .ok (.aload_n 0, 1) := by decide +kernel
theorem dL_cell_2 : decode cL_cell 2 = .ok (.arraylength, 1) := by decide +kernel
theorem dL_cell_3 : decode cL_cell 3 = .ok (.if_icmp .ge 9, 3) := by decide +kernel
theorem dL_cell_6 : decode cL_cell 6 = .ok (.aload_n 0, 1) := by decide +kernel
theorem dL_cell_7 : decode cL_cell 7 = .ok (.iload_n 1, 1) := by decide +kernel
theorem dL_cell_8 : decode cL_cell 8 = .ok (.iaload, 1) := by decide +kernel
theorem dL_cell_9 : decode cL_cell 9 = .ok (.goto 9, 3) := by decide +kernel
theorem dL_cell_12 : decode cL_cell 12 = .ok (.ldc 7, 2) := by decide +kernel
theorem dL_cell_14 : decode cL_cell 14 = .ok (.iload_n 1, 1) := by decide +kernel
theorem dL_cell_15 : decode cL_cell 15 = .ok (.iconst 3, 1) := by decide +kernel
theorem dL_cell_16 : decode cL_cell 16 = .ok (.iadd, 1) := by decide +kernel
theorem dL_cell_17 : decode cL_cell 17 = .ok (.imul, 1) := by decide +kernel
theorem dL_cell_18 : decode cL_cell 18 = .ok (.ireturn, 1) := by decide +kernel
theorem dL_low_0 : decode cL_low 0 = .ok (.iload_n 0, 1) := by decide +kernel
theorem dL_low_1 : decode cL_low 1 = .ok (.ldc 8, 2) := by decide +kernel
theorem dL_low_3 : decode cL_low 3 = .ok (.iand, 1) := by decide +kernel
theorem dL_low_4 : decode cL_low 4 = .ok (.iload_n 1, 1) := by decide +kernel
theorem dL_low_5 : decode cL_low 5 = .ok (.irem, 1) := by decide +kernel
theorem dL_low_6 : decode cL_low 6 = .ok (.ireturn, 1) := by decide +kernel
theorem dL_gap_0 : decode cL_gap 0 = .ok (.bipush 10, 2) := by decide +kernel
theorem dL_gap_2 : decode cL_gap 2 = .ok (.iload_n 0, 1) := by decide +kernel
theorem dL_gap_3 : decode cL_gap 3 = .ok (.imul, 1) := by decide +kernel
theorem dL_gap_4 : decode cL_gap 4 = .ok (.iload_n 1, 1) := by decide +kernel
theorem dL_gap_5 : decode cL_gap 5 = .ok (.iconst 5, 1) := by decide +kernel
theorem dL_gap_6 : decode cL_gap 6 = .ok (.idiv, 1) := by decide +kernel
theorem dL_gap_7 : decode cL_gap 7 = .ok (.isub, 1) := by decide +kernel
theorem dL_gap_8 : decode cL_gap 8 = .ok (.bipush 10, 2) := by decide +kernel
theorem dL_gap_10 : decode cL_gap 10 = .ok (.if_icmp .le 14, 3) := by decide +kernel
theorem dL_gap_13 : decode cL_gap 13 = .ok (.bipush 10, 2) := by decide +kernel
theorem dL_gap_15 : decode cL_gap 15 = .ok (.iload_n 0, 1) := by decide +kernel
theorem dL_gap_16 : decode cL_gap 16 = .ok (.imul, 1) := by decide +kernel
theorem dL_gap_17 : decode cL_gap 17 = .ok (.iload_n 1, 1) := by decide +kernel
theorem dL_gap_18 : decode cL_gap 18 = .ok (.iconst 5, 1) := by decide +kernel
theorem dL_gap_19 : decode cL_gap 19 = .ok (.idiv, 1) := by decide +kernel
theorem dL_gap_20 : decode cL_gap 20 = .ok (.isub, 1) := by decide +kernel
theorem dL_gap_21 : decode cL_gap 21 = .ok (.goto 5, 3) := by decide +kernel
theorem dL_gap_24 : decode cL_gap 24 = .ok (.bipush 10, 2) := by decide +kernel
theorem dL_gap_26 : decode cL_gap 26 = .ok (.ireturn, 1) := by decide +kernel
theorem dL_flow_0 : decode cL_flow 0 = .ok (.sipush 1000, 3) := by decide +kernel
theorem dL_flow_3 : decode cL_flow 3 = .ok (.aload_n 0, 1) := by decide +kernel
theorem dL_flow_4 : decode cL_flow 4 = .ok (.bipush 10, 2) := by decide +kernel
theorem dL_flow_6 : decode cL_flow 6 = .ok (.iload_n 1, 1) := by decide +kernel
theorem dL_flow_7 : decode cL_flow 7 = .ok (.sipush 1000, 3) := by decide +kernel
theorem dL_flow_10 : decode cL_flow 10 = .ok (.idiv, 1) := by decide +kernel
theorem dL_flow_11 : decode cL_flow 11 = .ok (.iconst 2, 1) := by decide +kernel
theorem dL_flow_12 : decode cL_flow 12 = .ok (.irem, 1) := by decide +kernel
theorem dL_flow_13 : decode cL_flow 13 = .ok (.iadd, 1) := by decide +kernel
theorem dL_flow_14 : decode cL_flow 14 = .ok (.iaload, 1) := by decide +kernel
theorem dL_flow_15 : decode cL_flow 15 = .ok (.imul, 1) := by decide +kernel
theorem dL_flow_16 : decode cL_flow 16 = .ok (.iload_n 1, 1) := by decide +kernel
theorem dL_flow_17 : decode cL_flow 17 = .ok (.sipush 4000, 3) := by decide +kernel
theorem dL_flow_20 : decode cL_flow 20 = .ok (.idiv, 1) := by decide +kernel
theorem dL_flow_21 : decode cL_flow 21 = .ok (.idiv, 1) := by decide +kernel
theorem dL_flow_22 : decode cL_flow 22 = .ok (.ireturn, 1) := by decide +kernel
theorem dL_amounts_0 : decode cL_amounts 0 = .ok (.iconst 0, 1) := by decide +kernel
theorem dL_amounts_1 : decode cL_amounts 1 = .ok (.istore_n 1, 1) := by decide +kernel
theorem dL_amounts_2 : decode cL_amounts 2 = .ok (.iconst 1, 1) := by decide +kernel
theorem dL_amounts_3 : decode cL_amounts 3 = .ok (.istore_n 2, 1) := by decide +kernel
theorem dL_amounts_4 : decode cL_amounts 4 = .ok (.iload_n 2, 1) := by decide +kernel
theorem dL_amounts_5 : decode cL_amounts 5 = .ok (.aload_n 0, 1) := by decide +kernel
theorem dL_amounts_6 : decode cL_amounts 6 = .ok (.iconst 0, 1) := by decide +kernel
theorem dL_amounts_7 : decode cL_amounts 7 = .ok (.iaload, 1) := by decide +kernel
theorem dL_amounts_8 : decode cL_amounts 8 = .ok (.if_icmp .gt 19, 3) := by decide +kernel
theorem dL_amounts_11 : decode cL_amounts 11 = .ok (.iload_n 1, 1) := by decide +kernel
theorem dL_amounts_12 : decode cL_amounts 12 = .ok (.aload_n 0, 1) := by decide +kernel
theorem dL_amounts_13 : decode cL_amounts 13 = .ok (.iload_n 2, 1) := by decide +kernel
theorem dL_amounts_14 : decode cL_amounts 14 = .ok (.iaload, 1) := by decide +kernel
theorem dL_amounts_15 : decode cL_amounts 15 = .ok (.sipush 1000, 3) := by decide +kernel
theorem dL_amounts_18 : decode cL_amounts 18 = .ok (.irem, 1) := by decide +kernel
theorem dL_amounts_19 : decode cL_amounts 19 = .ok (.iadd, 1) := by decide +kernel
theorem dL_amounts_20 : decode cL_amounts 20 = .ok (.istore_n 1, 1) := by decide +kernel
theorem dL_amounts_21 : decode cL_amounts 21 = .ok (.iinc 2 1, 3) := by decide +kernel
theorem dL_amounts_24 : decode cL_amounts 24 = .ok (.goto (-20), 3) := by decide +kernel
theorem dL_amounts_27 : decode cL_amounts 27 = .ok (.iload_n 1, 1) := by decide +kernel
theorem dL_amounts_28 : decode cL_amounts 28 = .ok (.ireturn, 1) := by decide +kernel
theorem dL_hopper_0 : decode cL_hopper 0 = .ok (.iconst 0, 1) := by decide +kernel
theorem dL_hopper_1 : decode cL_hopper 1 = .ok (.istore_n 2, 1) := by decide +kernel
theorem dL_hopper_2 : decode cL_hopper 2 = .ok (.iconst 0, 1) := by decide +kernel
theorem dL_hopper_3 : decode cL_hopper 3 = .ok (.istore_n 3, 1) := by decide +kernel
theorem dL_hopper_4 : decode cL_hopper 4 = .ok (.iload_n 3, 1) := by decide +kernel
theorem dL_hopper_5 : decode cL_hopper 5 = .ok (.aload_n 0, 1) := by decide +kernel
theorem dL_hopper_6 : decode cL_hopper 6 = .ok (.bipush 13, 2) := by decide +kernel
theorem dL_hopper_8 : decode cL_hopper 8 = .ok (.iaload, 1) := by decide +kernel
theorem dL_hopper_9 : decode cL_hopper 9 = .ok (.if_icmp .ge 19, 3) := by decide +kernel
theorem dL_hopper_12 : decode cL_hopper 12 = .ok (.iload_n 2, 1) := by decide +kernel
theorem dL_hopper_13 : decode cL_hopper 13 = .ok (.aload_n 1, 1) := by decide +kernel
theorem dL_hopper_14 : decode cL_hopper 14 = .ok (.iconst 2, 1) := by decide +kernel
theorem dL_hopper_15 : decode cL_hopper 15 = .ok (.iload_n 3, 1) := by decide +kernel
theorem dL_hopper_16 : decode cL_hopper 16 = .ok (.imul, 1) := by decide +kernel
theorem dL_hopper_17 : decode cL_hopper 17 = .ok (.iconst 1, 1) := by decide +kernel
theorem dL_hopper_18 : decode cL_hopper 18 = .ok (.iadd, 1) := by decide +kernel
theorem dL_hopper_19 : decode cL_hopper 19 = .ok (.iaload, 1) := by decide +kernel
theorem dL_hopper_20 : decode cL_hopper 20 = .ok (.iadd, 1) := by decide +kernel
theorem dL_hopper_21 : decode cL_hopper 21 = .ok (.istore_n 2, 1) := by decide +kernel
theorem dL_hopper_22 : decode cL_hopper 22 = .ok (.iinc 3 1, 3) := by decide +kernel
theorem dL_hopper_25 : decode cL_hopper 25 = .ok (.goto (-21), 3) := by decide +kernel
theorem dL_hopper_28 : decode cL_hopper 28 = .ok (.iload_n 2, 1) := by decide +kernel
theorem dL_hopper_29 : decode cL_hopper 29 = .ok (.ireturn, 1) := by decide +kernel
theorem dL_pass_0 : decode cL_pass 0 = .ok (.iconst 0, 1) := by decide +kernel
theorem dL_pass_1 : decode cL_pass 1 = .ok (.istore_n 3, 1) := by decide +kernel
theorem dL_pass_2 : decode cL_pass 2 = .ok (.iconst 0, 1) := by decide +kernel
theorem dL_pass_3 : decode cL_pass 3 = .ok (.istore 4, 2) := by decide +kernel
theorem dL_pass_5 : decode cL_pass 5 = .ok (.iload 4, 2) := by decide +kernel
theorem dL_pass_7 : decode cL_pass 7 = .ok (.iload_n 2, 1) := by decide +kernel
theorem dL_pass_8 : decode cL_pass 8 = .ok (.if_icmp .ge 90, 3) := by decide +kernel
theorem dL_pass_11 : decode cL_pass 11 = .ok (.aload_n 0, 1) := by decide +kernel
theorem dL_pass_12 : decode cL_pass 12 = .ok (.iconst 0, 1) := by decide +kernel
theorem dL_pass_13 : decode cL_pass 13 = .ok (.dup2, 1) := by decide +kernel
theorem dL_pass_14 : decode cL_pass 14 = .ok (.iaload, 1) := by decide +kernel
theorem dL_pass_15 : decode cL_pass 15 = .ok (.iconst 1, 1) := by decide +kernel
theorem dL_pass_16 : decode cL_pass 16 = .ok (.iadd, 1) := by decide +kernel
theorem dL_pass_17 : decode cL_pass 17 = .ok (.iastore, 1) := by decide +kernel
theorem dL_pass_18 : decode cL_pass 18 = .ok (.iconst 1, 1) := by decide +kernel
theorem dL_pass_19 : decode cL_pass 19 = .ok (.istore 5, 2) := by decide +kernel
theorem dL_pass_21 : decode cL_pass 21 = .ok (.iload 5, 2) := by decide +kernel
theorem dL_pass_23 : decode cL_pass 23 = .ok (.bipush 8, 2) := by decide +kernel
theorem dL_pass_25 : decode cL_pass 25 = .ok (.if_icmp .ge 67, 3) := by decide +kernel
theorem dL_pass_28 : decode cL_pass 28 = .ok (.aload_n 0, 1) := by decide +kernel
theorem dL_pass_29 : decode cL_pass 29 = .ok (.iconst 0, 1) := by decide +kernel
theorem dL_pass_30 : decode cL_pass 30 = .ok (.iaload, 1) := by decide +kernel
theorem dL_pass_31 : decode cL_pass 31 = .ok (.bipush 10, 2) := by decide +kernel
theorem dL_pass_33 : decode cL_pass 33 = .ok (.irem, 1) := by decide +kernel
theorem dL_pass_34 : decode cL_pass 34 = .ok (.ifCond .ne 58, 3) := by decide +kernel
theorem dL_pass_37 : decode cL_pass 37 = .ok (.aload_n 1, 1) := by decide +kernel
theorem dL_pass_38 : decode cL_pass 38 = .ok (.iload 5, 2) := by decide +kernel
theorem dL_pass_40 : decode cL_pass 40 = .ok (.iaload, 1) := by decide +kernel
theorem dL_pass_41 : decode cL_pass 41 = .ok (.bipush 16, 2) := by decide +kernel
theorem dL_pass_43 : decode cL_pass 43 = .ok (.idiv, 1) := by decide +kernel
theorem dL_pass_44 : decode cL_pass 44 = .ok (.iconst 1, 1) := by decide +kernel
theorem dL_pass_45 : decode cL_pass 45 = .ok (.if_icmp .le 13, 3) := by decide +kernel
theorem dL_pass_48 : decode cL_pass 48 = .ok (.aload_n 1, 1) := by decide +kernel
theorem dL_pass_49 : decode cL_pass 49 = .ok (.iload 5, 2) := by decide +kernel
theorem dL_pass_51 : decode cL_pass 51 = .ok (.iaload, 1) := by decide +kernel
theorem dL_pass_52 : decode cL_pass 52 = .ok (.bipush 16, 2) := by decide +kernel
theorem dL_pass_54 : decode cL_pass 54 = .ok (.idiv, 1) := by decide +kernel
theorem dL_pass_55 : decode cL_pass 55 = .ok (.goto 15, 3) := by decide +kernel
theorem dL_pass_58 : decode cL_pass 58 = .ok (.aload_n 1, 1) := by decide +kernel
theorem dL_pass_59 : decode cL_pass 59 = .ok (.iload 5, 2) := by decide +kernel
theorem dL_pass_61 : decode cL_pass 61 = .ok (.iaload, 1) := by decide +kernel
theorem dL_pass_62 : decode cL_pass 62 = .ok (.ifCond .le 7, 3) := by decide +kernel
theorem dL_pass_65 : decode cL_pass 65 = .ok (.iconst 1, 1) := by decide +kernel
theorem dL_pass_66 : decode cL_pass 66 = .ok (.goto 4, 3) := by decide +kernel
theorem dL_pass_69 : decode cL_pass 69 = .ok (.iconst 0, 1) := by decide +kernel
theorem dL_pass_70 : decode cL_pass 70 = .ok (.istore 6, 2) := by decide +kernel
theorem dL_pass_72 : decode cL_pass 72 = .ok (.aload_n 1, 1) := by decide +kernel
theorem dL_pass_73 : decode cL_pass 73 = .ok (.iload 5, 2) := by decide +kernel
theorem dL_pass_75 : decode cL_pass 75 = .ok (.dup2, 1) := by decide +kernel
theorem dL_pass_76 : decode cL_pass 76 = .ok (.iaload, 1) := by decide +kernel
theorem dL_pass_77 : decode cL_pass 77 = .ok (.iload 6, 2) := by decide +kernel
theorem dL_pass_79 : decode cL_pass 79 = .ok (.isub, 1) := by decide +kernel
theorem dL_pass_80 : decode cL_pass 80 = .ok (.iastore, 1) := by decide +kernel
theorem dL_pass_81 : decode cL_pass 81 = .ok (.iload_n 3, 1) := by decide +kernel
theorem dL_pass_82 : decode cL_pass 82 = .ok (.iload 6, 2) := by decide +kernel
theorem dL_pass_84 : decode cL_pass 84 = .ok (.iadd, 1) := by decide +kernel
theorem dL_pass_85 : decode cL_pass 85 = .ok (.istore_n 3, 1) := by decide +kernel
theorem dL_pass_86 : decode cL_pass 86 = .ok (.iinc 5 4, 3) := by decide +kernel
theorem dL_pass_89 : decode cL_pass 89 = .ok (.goto (-68), 3) := by decide +kernel
theorem dL_pass_92 : decode cL_pass 92 = .ok (.iinc 4 1, 3) := by decide +kernel
theorem dL_pass_95 : decode cL_pass 95 = .ok (.goto (-90), 3) := by decide +kernel
theorem dL_pass_98 : decode cL_pass 98 = .ok (.iload_n 3, 1) := by decide +kernel
theorem dL_pass_99 : decode cL_pass 99 = .ok (.ireturn, 1) := by decide +kernel
theorem dL_away_0 : decode cL_away 0 = .ok (.iload_n 1, 1) := by decide +kernel
theorem dL_away_1 : decode cL_away 1 = .ok (.aload_n 0, 1) := by decide +kernel
theorem dL_away_2 : decode cL_away 2 = .ok (.bipush 7, 2) := by decide +kernel
theorem dL_away_4 : decode cL_away 4 = .ok (.iaload, 1) := by decide +kernel
theorem dL_away_5 : decode cL_away 5 = .ok (.if_icmp .le 12, 3) := by decide +kernel
theorem dL_away_8 : decode cL_away 8 = .ok (.iload_n 1, 1) := by decide +kernel
theorem dL_away_9 : decode cL_away 9 = .ok (.aload_n 0, 1) := by decide +kernel
theorem dL_away_10 : decode cL_away 10 = .ok (.bipush 7, 2) := by decide +kernel
theorem dL_away_12 : decode cL_away 12 = .ok (.iaload, 1) := by decide +kernel
theorem dL_away_13 : decode cL_away 13 = .ok (.isub, 1) := by decide +kernel
theorem dL_away_14 : decode cL_away 14 = .ok (.goto 9, 3) := by decide +kernel
theorem dL_away_17 : decode cL_away 17 = .ok (.aload_n 0, 1) := by decide +kernel
theorem dL_away_18 : decode cL_away 18 = .ok (.bipush 7, 2) := by decide +kernel
theorem dL_away_20 : decode cL_away 20 = .ok (.iaload, 1) := by decide +kernel
theorem dL_away_21 : decode cL_away 21 = .ok (.iload_n 1, 1) := by decide +kernel
theorem dL_away_22 : decode cL_away 22 = .ok (.isub, 1) := by decide +kernel
theorem dL_away_23 : decode cL_away 23 = .ok (.ireturn, 1) := by decide +kernel
set_option maxRecDepth 20000 in
theorem ggL_can_L_hopper : GoodIn wsL_can wsL_hopper := goodIn_r _ [6] rfl (by decide +kernel)
set_option maxRecDepth 20000 in
theorem gL_can_L_hopper : GoodIn wsL_can (va_wsS RL 9 yL_hopper wsL_hopper) := goodIn_app (goodIn_of _ (by decide +kernel)) ggL_can_L_hopper
set_option maxRecDepth 20000 in
theorem ggL_can_L_amounts : GoodIn wsL_can wsL_amounts := goodIn_r _ [9] rfl (by decide +kernel)
set_option maxRecDepth 20000 in
theorem gL_can_L_amounts : GoodIn wsL_can (va_wsS RL 16 yL_amounts wsL_amounts) := goodIn_app (goodIn_of _ (by decide +kernel)) ggL_can_L_amounts
theorem dL_can_0 : decode cL_can 0 = .ok (.aload_n 0, 1) := by decide +kernel
theorem dL_can_1 : decode cL_can 1 = .ok (.aload_n 1, 1) := by decide +kernel
theorem dL_can_2 : decode cL_can 2 = .ok (.invokestatic 9, 3) := by decide +kernel
theorem dL_can_5 : decode cL_can 5 = .ok (.iload 4, 2) := by decide +kernel
theorem dL_can_7 : decode cL_can 7 = .ok (.if_icmp .ge 6, 3) := by decide +kernel
theorem dL_can_10 : decode cL_can 10 = .ok (.ldc 15, 2) := by decide +kernel
theorem dL_can_12 : decode cL_can 12 = .ok (.ireturn, 1) := by decide +kernel
theorem dL_can_13 : decode cL_can 13 = .ok (.aload_n 2, 1) := by decide +kernel
theorem dL_can_14 : decode cL_can 14 = .ok (.invokestatic 16, 3) := by decide +kernel
theorem dL_can_17 : decode cL_can 17 = .ok (.iload 4, 2) := by decide +kernel
theorem dL_can_19 : decode cL_can 19 = .ok (.iadd, 1) := by decide +kernel
theorem dL_can_20 : decode cL_can 20 = .ok (.aload_n 0, 1) := by decide +kernel
theorem dL_can_21 : decode cL_can 21 = .ok (.bipush 9, 2) := by decide +kernel
theorem dL_can_23 : decode cL_can 23 = .ok (.iaload, 1) := by decide +kernel
theorem dL_can_24 : decode cL_can 24 = .ok (.if_icmp .le 18, 3) := by decide +kernel
theorem dL_can_27 : decode cL_can 27 = .ok (.aload_n 2, 1) := by decide +kernel
theorem dL_can_28 : decode cL_can 28 = .ok (.invokestatic 16, 3) := by decide +kernel
theorem dL_can_31 : decode cL_can 31 = .ok (.iload 4, 2) := by decide +kernel
theorem dL_can_33 : decode cL_can 33 = .ok (.iadd, 1) := by decide +kernel
theorem dL_can_34 : decode cL_can 34 = .ok (.aload_n 0, 1) := by decide +kernel
theorem dL_can_35 : decode cL_can 35 = .ok (.bipush 9, 2) := by decide +kernel
theorem dL_can_37 : decode cL_can 37 = .ok (.iaload, 1) := by decide +kernel
theorem dL_can_38 : decode cL_can 38 = .ok (.isub, 1) := by decide +kernel
theorem dL_can_39 : decode cL_can 39 = .ok (.goto 4, 3) := by decide +kernel
theorem dL_can_42 : decode cL_can 42 = .ok (.iconst 0, 1) := by decide +kernel
theorem dL_can_43 : decode cL_can 43 = .ok (.istore 5, 2) := by decide +kernel
theorem dL_can_45 : decode cL_can 45 = .ok (.aload_n 3, 1) := by decide +kernel
theorem dL_can_46 : decode cL_can 46 = .ok (.invokestatic 16, 3) := by decide +kernel
theorem dL_can_49 : decode cL_can 49 = .ok (.iload 5, 2) := by decide +kernel
theorem dL_can_51 : decode cL_can 51 = .ok (.iadd, 1) := by decide +kernel
theorem dL_can_52 : decode cL_can 52 = .ok (.sipush 400, 3) := by decide +kernel
theorem dL_can_55 : decode cL_can 55 = .ok (.if_icmp .le 8, 3) := by decide +kernel
theorem dL_can_58 : decode cL_can 58 = .ok (.ldc 20, 2) := by decide +kernel
theorem dL_can_60 : decode cL_can 60 = .ok (.goto 5, 3) := by decide +kernel
theorem dL_can_63 : decode cL_can 63 = .ok (.iload 5, 2) := by decide +kernel
theorem dL_can_65 : decode cL_can 65 = .ok (.ireturn, 1) := by decide +kernel
set_option maxRecDepth 20000 in
theorem ggL_grind_L_gap : GoodIn wsL_grind wsL_gap := goodIn_r _ [4] rfl (by decide +kernel)
set_option maxRecDepth 20000 in
theorem gL_grind_L_gap : GoodIn wsL_grind (va_wsS RL 21 yL_gap wsL_gap) := goodIn_app (goodIn_of _ (by decide +kernel)) ggL_grind_L_gap
set_option maxRecDepth 20000 in
theorem ggL_grind_L_amounts : GoodIn wsL_grind wsL_amounts := goodIn_r _ [7] rfl (by decide +kernel)
set_option maxRecDepth 20000 in
theorem gL_grind_L_amounts : GoodIn wsL_grind (va_wsS RL 16 yL_amounts wsL_amounts) := goodIn_app (goodIn_of _ (by decide +kernel)) ggL_grind_L_amounts
theorem dL_grind_0 : decode cL_grind 0 = .ok (.aload_n 1, 1) := by decide +kernel
theorem dL_grind_1 : decode cL_grind 1 = .ok (.iconst 4, 1) := by decide +kernel
theorem dL_grind_2 : decode cL_grind 2 = .ok (.iload 5, 2) := by decide +kernel
theorem dL_grind_4 : decode cL_grind 4 = .ok (.imul, 1) := by decide +kernel
theorem dL_grind_5 : decode cL_grind 5 = .ok (.iaload, 1) := by decide +kernel
theorem dL_grind_6 : decode cL_grind 6 = .ok (.aload_n 1, 1) := by decide +kernel
theorem dL_grind_7 : decode cL_grind 7 = .ok (.iconst 4, 1) := by decide +kernel
theorem dL_grind_8 : decode cL_grind 8 = .ok (.iload 5, 2) := by decide +kernel
theorem dL_grind_10 : decode cL_grind 10 = .ok (.imul, 1) := by decide +kernel
theorem dL_grind_11 : decode cL_grind 11 = .ok (.iconst 1, 1) := by decide +kernel
theorem dL_grind_12 : decode cL_grind 12 = .ok (.iadd, 1) := by decide +kernel
theorem dL_grind_13 : decode cL_grind 13 = .ok (.iaload, 1) := by decide +kernel
theorem dL_grind_14 : decode cL_grind 14 = .ok (.invokestatic 21, 3) := by decide +kernel
theorem dL_grind_17 : decode cL_grind 17 = .ok (.istore 7, 2) := by decide +kernel
theorem dL_grind_19 : decode cL_grind 19 = .ok (.iload 6, 2) := by decide +kernel
theorem dL_grind_21 : decode cL_grind 21 = .ok (.istore 8, 2) := by decide +kernel
theorem dL_grind_23 : decode cL_grind 23 = .ok (.iload 8, 2) := by decide +kernel
theorem dL_grind_25 : decode cL_grind 25 = .ok (.ifCond .le 136, 3) := by decide +kernel
theorem dL_grind_28 : decode cL_grind 28 = .ok (.iload 8, 2) := by decide +kernel
theorem dL_grind_30 : decode cL_grind 30 = .ok (.aload_n 2, 1) := by decide +kernel
theorem dL_grind_31 : decode cL_grind 31 = .ok (.iconst 1, 1) := by decide +kernel
theorem dL_grind_32 : decode cL_grind 32 = .ok (.iaload, 1) := by decide +kernel
theorem dL_grind_33 : decode cL_grind 33 = .ok (.if_icmp .ge 8, 3) := by decide +kernel
theorem dL_grind_36 : decode cL_grind 36 = .ok (.iload 8, 2) := by decide +kernel
theorem dL_grind_38 : decode cL_grind 38 = .ok (.goto 6, 3) := by decide +kernel
theorem dL_grind_41 : decode cL_grind 41 = .ok (.aload_n 2, 1) := by decide +kernel
theorem dL_grind_42 : decode cL_grind 42 = .ok (.iconst 1, 1) := by decide +kernel
theorem dL_grind_43 : decode cL_grind 43 = .ok (.iaload, 1) := by decide +kernel
theorem dL_grind_44 : decode cL_grind 44 = .ok (.istore 9, 2) := by decide +kernel
theorem dL_grind_46 : decode cL_grind 46 = .ok (.aload_n 3, 1) := by decide +kernel
theorem dL_grind_47 : decode cL_grind 47 = .ok (.iconst 0, 1) := by decide +kernel
theorem dL_grind_48 : decode cL_grind 48 = .ok (.dup2, 1) := by decide +kernel
theorem dL_grind_49 : decode cL_grind 49 = .ok (.iaload, 1) := by decide +kernel
theorem dL_grind_50 : decode cL_grind 50 = .ok (.iconst 1, 1) := by decide +kernel
theorem dL_grind_51 : decode cL_grind 51 = .ok (.iadd, 1) := by decide +kernel
theorem dL_grind_52 : decode cL_grind 52 = .ok (.iastore, 1) := by decide +kernel
theorem dL_grind_53 : decode cL_grind 53 = .ok (.aload_n 3, 1) := by decide +kernel
theorem dL_grind_54 : decode cL_grind 54 = .ok (.aload_n 3, 1) := by decide +kernel
theorem dL_grind_55 : decode cL_grind 55 = .ok (.iconst 0, 1) := by decide +kernel
theorem dL_grind_56 : decode cL_grind 56 = .ok (.iaload, 1) := by decide +kernel
theorem dL_grind_57 : decode cL_grind 57 = .ok (.iload 9, 2) := by decide +kernel
theorem dL_grind_59 : decode cL_grind 59 = .ok (.sipush 1000, 3) := by decide +kernel
theorem dL_grind_62 : decode cL_grind 62 = .ok (.aload_n 2, 1) := by decide +kernel
theorem dL_grind_63 : decode cL_grind 63 = .ok (.iconst 0, 1) := by decide +kernel
theorem dL_grind_64 : decode cL_grind 64 = .ok (.iaload, 1) := by decide +kernel
theorem dL_grind_65 : decode cL_grind 65 = .ok (.imul, 1) := by decide +kernel
theorem dL_grind_66 : decode cL_grind 66 = .ok (.iadd, 1) := by decide +kernel
theorem dL_grind_67 : decode cL_grind 67 = .ok (.sipush 2000, 3) := by decide +kernel
theorem dL_grind_70 : decode cL_grind 70 = .ok (.iload 5, 2) := by decide +kernel
theorem dL_grind_72 : decode cL_grind 72 = .ok (.imul, 1) := by decide +kernel
theorem dL_grind_73 : decode cL_grind 73 = .ok (.iadd, 1) := by decide +kernel
theorem dL_grind_74 : decode cL_grind 74 = .ok (.sipush 4000, 3) := by decide +kernel
theorem dL_grind_77 : decode cL_grind 77 = .ok (.iload 7, 2) := by decide +kernel
theorem dL_grind_79 : decode cL_grind 79 = .ok (.imul, 1) := by decide +kernel
theorem dL_grind_80 : decode cL_grind 80 = .ok (.iadd, 1) := by decide +kernel
theorem dL_grind_81 : decode cL_grind 81 = .ok (.iastore, 1) := by decide +kernel
theorem dL_grind_82 : decode cL_grind 82 = .ok (.iload 8, 2) := by decide +kernel
theorem dL_grind_84 : decode cL_grind 84 = .ok (.iload 9, 2) := by decide +kernel
theorem dL_grind_86 : decode cL_grind 86 = .ok (.isub, 1) := by decide +kernel
theorem dL_grind_87 : decode cL_grind 87 = .ok (.istore 8, 2) := by decide +kernel
theorem dL_grind_89 : decode cL_grind 89 = .ok (.aload_n 2, 1) := by decide +kernel
theorem dL_grind_90 : decode cL_grind 90 = .ok (.iconst 1, 1) := by decide +kernel
theorem dL_grind_91 : decode cL_grind 91 = .ok (.dup2, 1) := by decide +kernel
theorem dL_grind_92 : decode cL_grind 92 = .ok (.iaload, 1) := by decide +kernel
theorem dL_grind_93 : decode cL_grind 93 = .ok (.iload 9, 2) := by decide +kernel
theorem dL_grind_95 : decode cL_grind 95 = .ok (.isub, 1) := by decide +kernel
theorem dL_grind_96 : decode cL_grind 96 = .ok (.iastore, 1) := by decide +kernel
theorem dL_grind_97 : decode cL_grind 97 = .ok (.aload_n 2, 1) := by decide +kernel
theorem dL_grind_98 : decode cL_grind 98 = .ok (.iconst 1, 1) := by decide +kernel
theorem dL_grind_99 : decode cL_grind 99 = .ok (.iaload, 1) := by decide +kernel
theorem dL_grind_100 : decode cL_grind 100 = .ok (.ifCond .ne 7, 3) := by decide +kernel
theorem dL_grind_103 : decode cL_grind 103 = .ok (.iconst 1, 1) := by decide +kernel
theorem dL_grind_104 : decode cL_grind 104 = .ok (.goto 4, 3) := by decide +kernel
theorem dL_grind_107 : decode cL_grind 107 = .ok (.iconst 0, 1) := by decide +kernel
theorem dL_grind_108 : decode cL_grind 108 = .ok (.istore 10, 2) := by decide +kernel
theorem dL_grind_110 : decode cL_grind 110 = .ok (.iconst 0, 1) := by decide +kernel
theorem dL_grind_111 : decode cL_grind 111 = .ok (.istore 11, 2) := by decide +kernel
theorem dL_grind_113 : decode cL_grind 113 = .ok (.iload 11, 2) := by decide +kernel
theorem dL_grind_115 : decode cL_grind 115 = .ok (.bipush 10, 2) := by decide +kernel
theorem dL_grind_117 : decode cL_grind 117 = .ok (.if_icmp .ge 24, 3) := by decide +kernel
theorem dL_grind_120 : decode cL_grind 120 = .ok (.iload 10, 2) := by decide +kernel
theorem dL_grind_122 : decode cL_grind 122 = .ok (.ifCond .eq 19, 3) := by decide +kernel
theorem dL_grind_125 : decode cL_grind 125 = .ok (.aload_n 2, 1) := by decide +kernel
theorem dL_grind_126 : decode cL_grind 126 = .ok (.iload 11, 2) := by decide +kernel
theorem dL_grind_128 : decode cL_grind 128 = .ok (.aload_n 2, 1) := by decide +kernel
theorem dL_grind_129 : decode cL_grind 129 = .ok (.iload 11, 2) := by decide +kernel
theorem dL_grind_131 : decode cL_grind 131 = .ok (.iconst 2, 1) := by decide +kernel
theorem dL_grind_132 : decode cL_grind 132 = .ok (.iadd, 1) := by decide +kernel
theorem dL_grind_133 : decode cL_grind 133 = .ok (.iaload, 1) := by decide +kernel
theorem dL_grind_134 : decode cL_grind 134 = .ok (.iastore, 1) := by decide +kernel
theorem dL_grind_135 : decode cL_grind 135 = .ok (.iinc 11 1, 3) := by decide +kernel
theorem dL_grind_138 : decode cL_grind 138 = .ok (.goto (-25), 3) := by decide +kernel
theorem dL_grind_141 : decode cL_grind 141 = .ok (.aload_n 0, 1) := by decide +kernel
theorem dL_grind_142 : decode cL_grind 142 = .ok (.bipush 13, 2) := by decide +kernel
theorem dL_grind_144 : decode cL_grind 144 = .ok (.dup2, 1) := by decide +kernel
theorem dL_grind_145 : decode cL_grind 145 = .ok (.iaload, 1) := by decide +kernel
theorem dL_grind_146 : decode cL_grind 146 = .ok (.iload 10, 2) := by decide +kernel
theorem dL_grind_148 : decode cL_grind 148 = .ok (.ifCond .eq 7, 3) := by decide +kernel
theorem dL_grind_151 : decode cL_grind 151 = .ok (.iconst 1, 1) := by decide +kernel
theorem dL_grind_152 : decode cL_grind 152 = .ok (.goto 4, 3) := by decide +kernel
theorem dL_grind_155 : decode cL_grind 155 = .ok (.iconst 0, 1) := by decide +kernel
theorem dL_grind_156 : decode cL_grind 156 = .ok (.isub, 1) := by decide +kernel
theorem dL_grind_157 : decode cL_grind 157 = .ok (.iastore, 1) := by decide +kernel
theorem dL_grind_158 : decode cL_grind 158 = .ok (.goto (-135), 3) := by decide +kernel
theorem dL_grind_161 : decode cL_grind 161 = .ok (.aload_n 1, 1) := by decide +kernel
theorem dL_grind_162 : decode cL_grind 162 = .ok (.iconst 4, 1) := by decide +kernel
theorem dL_grind_163 : decode cL_grind 163 = .ok (.iload 5, 2) := by decide +kernel
theorem dL_grind_165 : decode cL_grind 165 = .ok (.imul, 1) := by decide +kernel
theorem dL_grind_166 : decode cL_grind 166 = .ok (.iconst 1, 1) := by decide +kernel
theorem dL_grind_167 : decode cL_grind 167 = .ok (.iadd, 1) := by decide +kernel
theorem dL_grind_168 : decode cL_grind 168 = .ok (.dup2, 1) := by decide +kernel
theorem dL_grind_169 : decode cL_grind 169 = .ok (.iaload, 1) := by decide +kernel
theorem dL_grind_170 : decode cL_grind 170 = .ok (.iload 6, 2) := by decide +kernel
theorem dL_grind_172 : decode cL_grind 172 = .ok (.iconst 4, 1) := by decide +kernel
theorem dL_grind_173 : decode cL_grind 173 = .ok (.idiv, 1) := by decide +kernel
theorem dL_grind_174 : decode cL_grind 174 = .ok (.iadd, 1) := by decide +kernel
theorem dL_grind_175 : decode cL_grind 175 = .ok (.iastore, 1) := by decide +kernel
theorem dL_grind_176 : decode cL_grind 176 = .ok (.aload_n 1, 1) := by decide +kernel
theorem dL_grind_177 : decode cL_grind 177 = .ok (.iconst 4, 1) := by decide +kernel
theorem dL_grind_178 : decode cL_grind 178 = .ok (.iload 5, 2) := by decide +kernel
theorem dL_grind_180 : decode cL_grind 180 = .ok (.imul, 1) := by decide +kernel
theorem dL_grind_181 : decode cL_grind 181 = .ok (.iconst 1, 1) := by decide +kernel
theorem dL_grind_182 : decode cL_grind 182 = .ok (.iadd, 1) := by decide +kernel
theorem dL_grind_183 : decode cL_grind 183 = .ok (.aload_n 1, 1) := by decide +kernel
theorem dL_grind_184 : decode cL_grind 184 = .ok (.iconst 4, 1) := by decide +kernel
theorem dL_grind_185 : decode cL_grind 185 = .ok (.iload 5, 2) := by decide +kernel
theorem dL_grind_187 : decode cL_grind 187 = .ok (.imul, 1) := by decide +kernel
theorem dL_grind_188 : decode cL_grind 188 = .ok (.iconst 1, 1) := by decide +kernel
theorem dL_grind_189 : decode cL_grind 189 = .ok (.iadd, 1) := by decide +kernel
theorem dL_grind_190 : decode cL_grind 190 = .ok (.iaload, 1) := by decide +kernel
theorem dL_grind_191 : decode cL_grind 191 = .ok (.sipush 300, 3) := by decide +kernel
theorem dL_grind_194 : decode cL_grind 194 = .ok (.if_icmp .ge 14, 3) := by decide +kernel
theorem dL_grind_197 : decode cL_grind 197 = .ok (.aload_n 1, 1) := by decide +kernel
theorem dL_grind_198 : decode cL_grind 198 = .ok (.iconst 4, 1) := by decide +kernel
theorem dL_grind_199 : decode cL_grind 199 = .ok (.iload 5, 2) := by decide +kernel
theorem dL_grind_201 : decode cL_grind 201 = .ok (.imul, 1) := by decide +kernel
theorem dL_grind_202 : decode cL_grind 202 = .ok (.iconst 1, 1) := by decide +kernel
theorem dL_grind_203 : decode cL_grind 203 = .ok (.iadd, 1) := by decide +kernel
theorem dL_grind_204 : decode cL_grind 204 = .ok (.iaload, 1) := by decide +kernel
theorem dL_grind_205 : decode cL_grind 205 = .ok (.goto 6, 3) := by decide +kernel
theorem dL_grind_208 : decode cL_grind 208 = .ok (.sipush 300, 3) := by decide +kernel
theorem dL_grind_211 : decode cL_grind 211 = .ok (.iastore, 1) := by decide +kernel
theorem dL_grind_212 : decode cL_grind 212 = .ok (.aload_n 1, 1) := by decide +kernel
theorem dL_grind_213 : decode cL_grind 213 = .ok (.iconst 4, 1) := by decide +kernel
theorem dL_grind_214 : decode cL_grind 214 = .ok (.iload 5, 2) := by decide +kernel
theorem dL_grind_216 : decode cL_grind 216 = .ok (.imul, 1) := by decide +kernel
theorem dL_grind_217 : decode cL_grind 217 = .ok (.iconst 2, 1) := by decide +kernel
theorem dL_grind_218 : decode cL_grind 218 = .ok (.iadd, 1) := by decide +kernel
theorem dL_grind_219 : decode cL_grind 219 = .ok (.dup2, 1) := by decide +kernel
theorem dL_grind_220 : decode cL_grind 220 = .ok (.iaload, 1) := by decide +kernel
theorem dL_grind_221 : decode cL_grind 221 = .ok (.iload 6, 2) := by decide +kernel
theorem dL_grind_223 : decode cL_grind 223 = .ok (.iadd, 1) := by decide +kernel
theorem dL_grind_224 : decode cL_grind 224 = .ok (.iastore, 1) := by decide +kernel
theorem dL_grind_225 : decode cL_grind 225 = .ok (.aload_n 0, 1) := by decide +kernel
theorem dL_grind_226 : decode cL_grind 226 = .ok (.iconst 2, 1) := by decide +kernel
theorem dL_grind_227 : decode cL_grind 227 = .ok (.dup2, 1) := by decide +kernel
theorem dL_grind_228 : decode cL_grind 228 = .ok (.iaload, 1) := by decide +kernel
theorem dL_grind_229 : decode cL_grind 229 = .ok (.iload 6, 2) := by decide +kernel
theorem dL_grind_231 : decode cL_grind 231 = .ok (.iadd, 1) := by decide +kernel
theorem dL_grind_232 : decode cL_grind 232 = .ok (.iastore, 1) := by decide +kernel
theorem dL_grind_233 : decode cL_grind 233 = .ok (.aload_n 3, 1) := by decide +kernel
theorem dL_grind_234 : decode cL_grind 234 = .ok (.invokestatic 16, 3) := by decide +kernel
theorem dL_grind_237 : decode cL_grind 237 = .ok (.aload_n 0, 1) := by decide +kernel
theorem dL_grind_238 : decode cL_grind 238 = .ok (.bipush 9, 2) := by decide +kernel
theorem dL_grind_240 : decode cL_grind 240 = .ok (.iaload, 1) := by decide +kernel
theorem dL_grind_241 : decode cL_grind 241 = .ok (.isub, 1) := by decide +kernel
theorem dL_grind_242 : decode cL_grind 242 = .ok (.istore 9, 2) := by decide +kernel
theorem dL_grind_244 : decode cL_grind 244 = .ok (.iload 9, 2) := by decide +kernel
theorem dL_grind_246 : decode cL_grind 246 = .ok (.ifCond .le 126, 3) := by decide +kernel
theorem dL_grind_249 : decode cL_grind 249 = .ok (.aload_n 3, 1) := by decide +kernel
theorem dL_grind_250 : decode cL_grind 250 = .ok (.iconst 1, 1) := by decide +kernel
theorem dL_grind_251 : decode cL_grind 251 = .ok (.iaload, 1) := by decide +kernel
theorem dL_grind_252 : decode cL_grind 252 = .ok (.sipush 1000, 3) := by decide +kernel
theorem dL_grind_255 : decode cL_grind 255 = .ok (.irem, 1) := by decide +kernel
theorem dL_grind_256 : decode cL_grind 256 = .ok (.istore 10, 2) := by decide +kernel
theorem dL_grind_258 : decode cL_grind 258 = .ok (.iload 10, 2) := by decide +kernel
theorem dL_grind_260 : decode cL_grind 260 = .ok (.iload 9, 2) := by decide +kernel
theorem dL_grind_262 : decode cL_grind 262 = .ok (.if_icmp .ge 8, 3) := by decide +kernel
theorem dL_grind_265 : decode cL_grind 265 = .ok (.iload 10, 2) := by decide +kernel
theorem dL_grind_267 : decode cL_grind 267 = .ok (.goto 5, 3) := by decide +kernel
theorem dL_grind_270 : decode cL_grind 270 = .ok (.iload 9, 2) := by decide +kernel
theorem dL_grind_272 : decode cL_grind 272 = .ok (.istore 11, 2) := by decide +kernel
theorem dL_grind_274 : decode cL_grind 274 = .ok (.aload 4, 2) := by decide +kernel
theorem dL_grind_276 : decode cL_grind 276 = .ok (.iconst 0, 1) := by decide +kernel
theorem dL_grind_277 : decode cL_grind 277 = .ok (.dup2, 1) := by decide +kernel
theorem dL_grind_278 : decode cL_grind 278 = .ok (.iaload, 1) := by decide +kernel
theorem dL_grind_279 : decode cL_grind 279 = .ok (.iconst 1, 1) := by decide +kernel
theorem dL_grind_280 : decode cL_grind 280 = .ok (.iadd, 1) := by decide +kernel
theorem dL_grind_281 : decode cL_grind 281 = .ok (.iastore, 1) := by decide +kernel
theorem dL_grind_282 : decode cL_grind 282 = .ok (.aload 4, 2) := by decide +kernel
theorem dL_grind_284 : decode cL_grind 284 = .ok (.aload 4, 2) := by decide +kernel
theorem dL_grind_286 : decode cL_grind 286 = .ok (.iconst 0, 1) := by decide +kernel
theorem dL_grind_287 : decode cL_grind 287 = .ok (.iaload, 1) := by decide +kernel
theorem dL_grind_288 : decode cL_grind 288 = .ok (.aload_n 3, 1) := by decide +kernel
theorem dL_grind_289 : decode cL_grind 289 = .ok (.iconst 1, 1) := by decide +kernel
theorem dL_grind_290 : decode cL_grind 290 = .ok (.iaload, 1) := by decide +kernel
theorem dL_grind_291 : decode cL_grind 291 = .ok (.iload 10, 2) := by decide +kernel
theorem dL_grind_293 : decode cL_grind 293 = .ok (.isub, 1) := by decide +kernel
theorem dL_grind_294 : decode cL_grind 294 = .ok (.iload 11, 2) := by decide +kernel
theorem dL_grind_296 : decode cL_grind 296 = .ok (.iadd, 1) := by decide +kernel
theorem dL_grind_297 : decode cL_grind 297 = .ok (.iastore, 1) := by decide +kernel
theorem dL_grind_298 : decode cL_grind 298 = .ok (.aload_n 3, 1) := by decide +kernel
theorem dL_grind_299 : decode cL_grind 299 = .ok (.iconst 1, 1) := by decide +kernel
theorem dL_grind_300 : decode cL_grind 300 = .ok (.dup2, 1) := by decide +kernel
theorem dL_grind_301 : decode cL_grind 301 = .ok (.iaload, 1) := by decide +kernel
theorem dL_grind_302 : decode cL_grind 302 = .ok (.iload 11, 2) := by decide +kernel
theorem dL_grind_304 : decode cL_grind 304 = .ok (.isub, 1) := by decide +kernel
theorem dL_grind_305 : decode cL_grind 305 = .ok (.iastore, 1) := by decide +kernel
theorem dL_grind_306 : decode cL_grind 306 = .ok (.iconst 1, 1) := by decide +kernel
theorem dL_grind_307 : decode cL_grind 307 = .ok (.istore 12, 2) := by decide +kernel
theorem dL_grind_309 : decode cL_grind 309 = .ok (.iload 12, 2) := by decide +kernel
theorem dL_grind_311 : decode cL_grind 311 = .ok (.aload_n 3, 1) := by decide +kernel
theorem dL_grind_312 : decode cL_grind 312 = .ok (.iconst 0, 1) := by decide +kernel
theorem dL_grind_313 : decode cL_grind 313 = .ok (.iaload, 1) := by decide +kernel
theorem dL_grind_314 : decode cL_grind 314 = .ok (.if_icmp .ge 26, 3) := by decide +kernel
theorem dL_grind_317 : decode cL_grind 317 = .ok (.iload 11, 2) := by decide +kernel
theorem dL_grind_319 : decode cL_grind 319 = .ok (.iload 10, 2) := by decide +kernel
theorem dL_grind_321 : decode cL_grind 321 = .ok (.if_icmp .ne 19, 3) := by decide +kernel
theorem dL_grind_324 : decode cL_grind 324 = .ok (.aload_n 3, 1) := by decide +kernel
theorem dL_grind_325 : decode cL_grind 325 = .ok (.iload 12, 2) := by decide +kernel
theorem dL_grind_327 : decode cL_grind 327 = .ok (.aload_n 3, 1) := by decide +kernel
theorem dL_grind_328 : decode cL_grind 328 = .ok (.iload 12, 2) := by decide +kernel
theorem dL_grind_330 : decode cL_grind 330 = .ok (.iconst 1, 1) := by decide +kernel
theorem dL_grind_331 : decode cL_grind 331 = .ok (.iadd, 1) := by decide +kernel
theorem dL_grind_332 : decode cL_grind 332 = .ok (.iaload, 1) := by decide +kernel
theorem dL_grind_333 : decode cL_grind 333 = .ok (.iastore, 1) := by decide +kernel
theorem dL_grind_334 : decode cL_grind 334 = .ok (.iinc 12 1, 3) := by decide +kernel
theorem dL_grind_337 : decode cL_grind 337 = .ok (.goto (-28), 3) := by decide +kernel
theorem dL_grind_340 : decode cL_grind 340 = .ok (.aload_n 3, 1) := by decide +kernel
theorem dL_grind_341 : decode cL_grind 341 = .ok (.iconst 0, 1) := by decide +kernel
theorem dL_grind_342 : decode cL_grind 342 = .ok (.dup2, 1) := by decide +kernel
theorem dL_grind_343 : decode cL_grind 343 = .ok (.iaload, 1) := by decide +kernel
theorem dL_grind_344 : decode cL_grind 344 = .ok (.iload 11, 2) := by decide +kernel
theorem dL_grind_346 : decode cL_grind 346 = .ok (.iload 10, 2) := by decide +kernel
theorem dL_grind_348 : decode cL_grind 348 = .ok (.if_icmp .ne 7, 3) := by decide +kernel
theorem dL_grind_351 : decode cL_grind 351 = .ok (.iconst 1, 1) := by decide +kernel
theorem dL_grind_352 : decode cL_grind 352 = .ok (.goto 4, 3) := by decide +kernel
theorem dL_grind_355 : decode cL_grind 355 = .ok (.iconst 0, 1) := by decide +kernel
theorem dL_grind_356 : decode cL_grind 356 = .ok (.isub, 1) := by decide +kernel
theorem dL_grind_357 : decode cL_grind 357 = .ok (.iastore, 1) := by decide +kernel
theorem dL_grind_358 : decode cL_grind 358 = .ok (.aload_n 3, 1) := by decide +kernel
theorem dL_grind_359 : decode cL_grind 359 = .ok (.invokestatic 16, 3) := by decide +kernel
theorem dL_grind_362 : decode cL_grind 362 = .ok (.aload_n 0, 1) := by decide +kernel
theorem dL_grind_363 : decode cL_grind 363 = .ok (.bipush 9, 2) := by decide +kernel
theorem dL_grind_365 : decode cL_grind 365 = .ok (.iaload, 1) := by decide +kernel
theorem dL_grind_366 : decode cL_grind 366 = .ok (.isub, 1) := by decide +kernel
theorem dL_grind_367 : decode cL_grind 367 = .ok (.istore 9, 2) := by decide +kernel
theorem dL_grind_369 : decode cL_grind 369 = .ok (.goto (-125), 3) := by decide +kernel
theorem dL_grind_372 : decode cL_grind 372 = .ok (.return_, 1) := by decide +kernel
set_option maxRecDepth 20000 in
theorem ggL_brew_L_flow : GoodIn wsL_brew wsL_flow := goodIn_r _ [4] rfl (by decide +kernel)
set_option maxRecDepth 20000 in
theorem gL_brew_L_flow : GoodIn wsL_brew (va_wsS RL 25 yL_flow wsL_flow) := goodIn_app (goodIn_of _ (by decide +kernel)) ggL_brew_L_flow
set_option maxRecDepth 20000 in
theorem ggL_brew_L_amounts : GoodIn wsL_brew wsL_amounts := goodIn_r _ [7] rfl (by decide +kernel)
set_option maxRecDepth 20000 in
theorem gL_brew_L_amounts : GoodIn wsL_brew (va_wsS RL 16 yL_amounts wsL_amounts) := goodIn_app (goodIn_of _ (by decide +kernel)) ggL_brew_L_amounts
theorem dL_brew_0 : decode cL_brew 0 = .ok (.iconst 0, 1) := by decide +kernel
theorem dL_brew_1 : decode cL_brew 1 = .ok (.istore_n 2, 1) := by decide +kernel
theorem dL_brew_2 : decode cL_brew 2 = .ok (.iconst 1, 1) := by decide +kernel
theorem dL_brew_3 : decode cL_brew 3 = .ok (.istore_n 3, 1) := by decide +kernel
theorem dL_brew_4 : decode cL_brew 4 = .ok (.iload_n 3, 1) := by decide +kernel
theorem dL_brew_5 : decode cL_brew 5 = .ok (.aload_n 1, 1) := by decide +kernel
theorem dL_brew_6 : decode cL_brew 6 = .ok (.iconst 0, 1) := by decide +kernel
theorem dL_brew_7 : decode cL_brew 7 = .ok (.iaload, 1) := by decide +kernel
theorem dL_brew_8 : decode cL_brew 8 = .ok (.if_icmp .gt 27, 3) := by decide +kernel
theorem dL_brew_11 : decode cL_brew 11 = .ok (.iload_n 2, 1) := by decide +kernel
theorem dL_brew_12 : decode cL_brew 12 = .ok (.aload_n 1, 1) := by decide +kernel
theorem dL_brew_13 : decode cL_brew 13 = .ok (.iload_n 3, 1) := by decide +kernel
theorem dL_brew_14 : decode cL_brew 14 = .ok (.iaload, 1) := by decide +kernel
theorem dL_brew_15 : decode cL_brew 15 = .ok (.sipush 1000, 3) := by decide +kernel
theorem dL_brew_18 : decode cL_brew 18 = .ok (.irem, 1) := by decide +kernel
theorem dL_brew_19 : decode cL_brew 19 = .ok (.aload_n 0, 1) := by decide +kernel
theorem dL_brew_20 : decode cL_brew 20 = .ok (.aload_n 1, 1) := by decide +kernel
theorem dL_brew_21 : decode cL_brew 21 = .ok (.iload_n 3, 1) := by decide +kernel
theorem dL_brew_22 : decode cL_brew 22 = .ok (.iaload, 1) := by decide +kernel
theorem dL_brew_23 : decode cL_brew 23 = .ok (.invokestatic 25, 3) := by decide +kernel
theorem dL_brew_26 : decode cL_brew 26 = .ok (.imul, 1) := by decide +kernel
theorem dL_brew_27 : decode cL_brew 27 = .ok (.iadd, 1) := by decide +kernel
theorem dL_brew_28 : decode cL_brew 28 = .ok (.istore_n 2, 1) := by decide +kernel
theorem dL_brew_29 : decode cL_brew 29 = .ok (.iinc 3 1, 3) := by decide +kernel
theorem dL_brew_32 : decode cL_brew 32 = .ok (.goto (-28), 3) := by decide +kernel
theorem dL_brew_35 : decode cL_brew 35 = .ok (.iload_n 2, 1) := by decide +kernel
theorem dL_brew_36 : decode cL_brew 36 = .ok (.aload_n 1, 1) := by decide +kernel
theorem dL_brew_37 : decode cL_brew 37 = .ok (.invokestatic 16, 3) := by decide +kernel
theorem dL_brew_40 : decode cL_brew 40 = .ok (.idiv, 1) := by decide +kernel
theorem dL_brew_41 : decode cL_brew 41 = .ok (.ireturn, 1) := by decide +kernel
theorem dL_correct_0 : decode cL_correct 0 = .ok (.aload_n 1, 1) := by decide +kernel
theorem dL_correct_1 : decode cL_correct 1 = .ok (.iconst 4, 1) := by decide +kernel
theorem dL_correct_2 : decode cL_correct 2 = .ok (.iload_n 2, 1) := by decide +kernel
theorem dL_correct_3 : decode cL_correct 3 = .ok (.imul, 1) := by decide +kernel
theorem dL_correct_4 : decode cL_correct 4 = .ok (.iaload, 1) := by decide +kernel
theorem dL_correct_5 : decode cL_correct 5 = .ok (.iload_n 3, 1) := by decide +kernel
theorem dL_correct_6 : decode cL_correct 6 = .ok (.imul, 1) := by decide +kernel
theorem dL_correct_7 : decode cL_correct 7 = .ok (.aload_n 0, 1) := by decide +kernel
theorem dL_correct_8 : decode cL_correct 8 = .ok (.bipush 7, 2) := by decide +kernel
theorem dL_correct_10 : decode cL_correct 10 = .ok (.iaload, 1) := by decide +kernel
theorem dL_correct_11 : decode cL_correct 11 = .ok (.iconst 2, 1) := by decide +kernel
theorem dL_correct_12 : decode cL_correct 12 = .ok (.idiv, 1) := by decide +kernel
theorem dL_correct_13 : decode cL_correct 13 = .ok (.iadd, 1) := by decide +kernel
theorem dL_correct_14 : decode cL_correct 14 = .ok (.aload_n 0, 1) := by decide +kernel
theorem dL_correct_15 : decode cL_correct 15 = .ok (.bipush 7, 2) := by decide +kernel
theorem dL_correct_17 : decode cL_correct 17 = .ok (.iaload, 1) := by decide +kernel
theorem dL_correct_18 : decode cL_correct 18 = .ok (.idiv, 1) := by decide +kernel
theorem dL_correct_19 : decode cL_correct 19 = .ok (.istore 4, 2) := by decide +kernel
theorem dL_correct_21 : decode cL_correct 21 = .ok (.aload_n 1, 1) := by decide +kernel
theorem dL_correct_22 : decode cL_correct 22 = .ok (.iconst 4, 1) := by decide +kernel
theorem dL_correct_23 : decode cL_correct 23 = .ok (.iload_n 2, 1) := by decide +kernel
theorem dL_correct_24 : decode cL_correct 24 = .ok (.imul, 1) := by decide +kernel
theorem dL_correct_25 : decode cL_correct 25 = .ok (.iload 4, 2) := by decide +kernel
theorem dL_correct_27 : decode cL_correct 27 = .ok (.bipush 60, 2) := by decide +kernel
theorem dL_correct_29 : decode cL_correct 29 = .ok (.if_icmp .le 8, 3) := by decide +kernel
theorem dL_correct_32 : decode cL_correct 32 = .ok (.bipush 60, 2) := by decide +kernel
theorem dL_correct_34 : decode cL_correct 34 = .ok (.goto 14, 3) := by decide +kernel
theorem dL_correct_37 : decode cL_correct 37 = .ok (.iload 4, 2) := by decide +kernel
theorem dL_correct_39 : decode cL_correct 39 = .ok (.ifCond .le 8, 3) := by decide +kernel
theorem dL_correct_42 : decode cL_correct 42 = .ok (.iload 4, 2) := by decide +kernel
theorem dL_correct_44 : decode cL_correct 44 = .ok (.goto 4, 3) := by decide +kernel
theorem dL_correct_47 : decode cL_correct 47 = .ok (.iconst 1, 1) := by decide +kernel
theorem dL_correct_48 : decode cL_correct 48 = .ok (.iastore, 1) := by decide +kernel
theorem dL_correct_49 : decode cL_correct 49 = .ok (.aload_n 1, 1) := by decide +kernel
theorem dL_correct_50 : decode cL_correct 50 = .ok (.iconst 4, 1) := by decide +kernel
theorem dL_correct_51 : decode cL_correct 51 = .ok (.iload_n 2, 1) := by decide +kernel
theorem dL_correct_52 : decode cL_correct 52 = .ok (.imul, 1) := by decide +kernel
theorem dL_correct_53 : decode cL_correct 53 = .ok (.iconst 3, 1) := by decide +kernel
theorem dL_correct_54 : decode cL_correct 54 = .ok (.iadd, 1) := by decide +kernel
theorem dL_correct_55 : decode cL_correct 55 = .ok (.dup2, 1) := by decide +kernel
theorem dL_correct_56 : decode cL_correct 56 = .ok (.iaload, 1) := by decide +kernel
theorem dL_correct_57 : decode cL_correct 57 = .ok (.iconst 1, 1) := by decide +kernel
theorem dL_correct_58 : decode cL_correct 58 = .ok (.iadd, 1) := by decide +kernel
theorem dL_correct_59 : decode cL_correct 59 = .ok (.iastore, 1) := by decide +kernel
theorem dL_correct_60 : decode cL_correct 60 = .ok (.return_, 1) := by decide +kernel
set_option maxRecDepth 20000 in
theorem ggL_shoots_X7_shot : GoodIn wsL_shoots wsX7_shot := goodIn_r _ [6, 7, 8, 9, 5, 10, 11, 12, 13, 14, 15, 16, 17, 18, 19, 20, 21, 22, 23, 24, 25, 26, 27, 28, 29, 30, 31, 32, 33, 34, 35, 36, 37, 38, 39, 40, 41, 42, 43, 44, 45, 46, 47, 48, 49, 50, 51, 52, 53, 54, 55, 56, 57, 58, 59, 60, 61, 62, 63, 64, 65, 66, 67, 68, 69, 70, 71, 72, 73, 74, 75, 76, 77, 78, 79, 80, 81, 82, 83, 84, 85, 86, 87, 88, 89, 90, 91, 92, 93, 94, 95, 96, 97, 98, 99, 100, 101, 102, 103, 104, 105, 106, 107, 108, 109, 110, 111, 112, 113, 114, 115, 116, 117, 118, 119, 120, 121, 122, 123, 124, 125, 126, 127, 128, 129, 130, 131, 132, 133, 134, 135, 136, 137, 138, 139, 140, 141, 142, 143, 144, 145, 146, 147, 148, 149, 150, 151, 152, 153, 154, 155, 156, 157, 158, 159, 160, 161, 162, 182, 183, 184, 185, 186, 187, 188, 189, 190, 191, 192, 193, 194, 195, 196, 197, 198, 199, 200, 201, 202, 203, 204, 205, 206, 207, 208, 209, 210, 211, 212, 213, 214, 215] rfl (by decide +kernel)
set_option maxRecDepth 20000 in
theorem gL_shoots_X7_shot : GoodIn wsL_shoots (wsV RL 29 RX7 yX7_shot wsX7_shot) := goodIn_app (goodIn_of _ (by decide +kernel)) ggL_shoots_X7_shot
set_option maxRecDepth 20000 in
theorem ggL_shoots_L_brew : GoodIn wsL_shoots wsL_brew := goodIn_r _ [166, 167, 168, 165, 169, 170, 171, 172] rfl (by decide +kernel)
set_option maxRecDepth 20000 in
theorem gL_shoots_L_brew : GoodIn wsL_shoots (va_wsS RL 35 yL_brew wsL_brew) := goodIn_app (goodIn_of _ (by decide +kernel)) ggL_shoots_L_brew
set_option maxRecDepth 20000 in
theorem ggL_shoots_L_amounts : GoodIn wsL_shoots wsL_amounts := goodIn_r _ [172] rfl (by decide +kernel)
set_option maxRecDepth 20000 in
theorem gL_shoots_L_amounts : GoodIn wsL_shoots (va_wsS RL 16 yL_amounts wsL_amounts) := goodIn_app (goodIn_of _ (by decide +kernel)) ggL_shoots_L_amounts
set_option maxRecDepth 20000 in
theorem ggL_shoots_L_away : GoodIn wsL_shoots wsL_away := goodIn_r _ [175] rfl (by decide +kernel)
set_option maxRecDepth 20000 in
theorem gL_shoots_L_away : GoodIn wsL_shoots (va_wsS RL 38 yL_away wsL_away) := goodIn_app (goodIn_of _ (by decide +kernel)) ggL_shoots_L_away
set_option maxRecDepth 20000 in
theorem ggL_shoots_L_correct : GoodIn wsL_shoots wsL_correct := goodIn_r _ [178] rfl (by decide +kernel)
set_option maxRecDepth 20000 in
theorem gL_shoots_L_correct : GoodIn wsL_shoots (va_wsS RL 41 yL_correct wsL_correct) := goodIn_app (goodIn_of _ (by decide +kernel)) ggL_shoots_L_correct
set_option maxRecDepth 20000 in
theorem ggL_shoots_L_pass : GoodIn wsL_shoots wsL_pass := goodIn_r _ [181] rfl (by decide +kernel)
set_option maxRecDepth 20000 in
theorem gL_shoots_L_pass : GoodIn wsL_shoots (va_wsS RL 45 yL_pass wsL_pass) := goodIn_app (goodIn_of _ (by decide +kernel)) ggL_shoots_L_pass
theorem dL_shoots_0 : decode cL_shoots 0 = .ok (.aload_n 3, 1) := by decide +kernel
theorem dL_shoots_1 : decode cL_shoots 1 = .ok (.iconst 0, 1) := by decide +kernel
theorem dL_shoots_2 : decode cL_shoots 2 = .ok (.iaload, 1) := by decide +kernel
theorem dL_shoots_3 : decode cL_shoots 3 = .ok (.ifCond .ne 18, 3) := by decide +kernel
theorem dL_shoots_6 : decode cL_shoots 6 = .ok (.aload_n 0, 1) := by decide +kernel
theorem dL_shoots_7 : decode cL_shoots 7 = .ok (.invokevirtual 29, 3) := by decide +kernel
theorem dL_shoots_10 : decode cL_shoots 10 = .ok (.ldc 15, 2) := by decide +kernel
theorem dL_shoots_12 : decode cL_shoots 12 = .ok (.if_icmp .ne 7, 3) := by decide +kernel
theorem dL_shoots_15 : decode cL_shoots 15 = .ok (.iconst 1, 1) := by decide +kernel
theorem dL_shoots_16 : decode cL_shoots 16 = .ok (.goto 4, 3) := by decide +kernel
theorem dL_shoots_19 : decode cL_shoots 19 = .ok (.iconst 0, 1) := by decide +kernel
theorem dL_shoots_20 : decode cL_shoots 20 = .ok (.ireturn, 1) := by decide +kernel
theorem dL_shoots_21 : decode cL_shoots 21 = .ok (.aload_n 1, 1) := by decide +kernel
theorem dL_shoots_22 : decode cL_shoots 22 = .ok (.aload_n 3, 1) := by decide +kernel
theorem dL_shoots_23 : decode cL_shoots 23 = .ok (.invokestatic 35, 3) := by decide +kernel
theorem dL_shoots_26 : decode cL_shoots 26 = .ok (.istore 6, 2) := by decide +kernel
theorem dL_shoots_28 : decode cL_shoots 28 = .ok (.aload_n 3, 1) := by decide +kernel
theorem dL_shoots_29 : decode cL_shoots 29 = .ok (.invokestatic 16, 3) := by decide +kernel
theorem dL_shoots_32 : decode cL_shoots 32 = .ok (.istore 7, 2) := by decide +kernel
theorem dL_shoots_34 : decode cL_shoots 34 = .ok (.iconst 0, 1) := by decide +kernel
theorem dL_shoots_35 : decode cL_shoots 35 = .ok (.istore 8, 2) := by decide +kernel
theorem dL_shoots_37 : decode cL_shoots 37 = .ok (.iconst 0, 1) := by decide +kernel
theorem dL_shoots_38 : decode cL_shoots 38 = .ok (.istore 9, 2) := by decide +kernel
theorem dL_shoots_40 : decode cL_shoots 40 = .ok (.iconst 1, 1) := by decide +kernel
theorem dL_shoots_41 : decode cL_shoots 41 = .ok (.istore 10, 2) := by decide +kernel
theorem dL_shoots_43 : decode cL_shoots 43 = .ok (.iload 10, 2) := by decide +kernel
theorem dL_shoots_45 : decode cL_shoots 45 = .ok (.aload_n 3, 1) := by decide +kernel
theorem dL_shoots_46 : decode cL_shoots 46 = .ok (.iconst 0, 1) := by decide +kernel
theorem dL_shoots_47 : decode cL_shoots 47 = .ok (.iaload, 1) := by decide +kernel
theorem dL_shoots_48 : decode cL_shoots 48 = .ok (.if_icmp .gt 69, 3) := by decide +kernel
theorem dL_shoots_51 : decode cL_shoots 51 = .ok (.iload 8, 2) := by decide +kernel
theorem dL_shoots_53 : decode cL_shoots 53 = .ok (.aload_n 3, 1) := by decide +kernel
theorem dL_shoots_54 : decode cL_shoots 54 = .ok (.iload 10, 2) := by decide +kernel
theorem dL_shoots_56 : decode cL_shoots 56 = .ok (.iaload, 1) := by decide +kernel
theorem dL_shoots_57 : decode cL_shoots 57 = .ok (.sipush 2000, 3) := by decide +kernel
theorem dL_shoots_60 : decode cL_shoots 60 = .ok (.idiv, 1) := by decide +kernel
theorem dL_shoots_61 : decode cL_shoots 61 = .ok (.iconst 2, 1) := by decide +kernel
theorem dL_shoots_62 : decode cL_shoots 62 = .ok (.irem, 1) := by decide +kernel
theorem dL_shoots_63 : decode cL_shoots 63 = .ok (.ifCond .ne 14, 3) := by decide +kernel
theorem dL_shoots_66 : decode cL_shoots 66 = .ok (.aload_n 3, 1) := by decide +kernel
theorem dL_shoots_67 : decode cL_shoots 67 = .ok (.iload 10, 2) := by decide +kernel
theorem dL_shoots_69 : decode cL_shoots 69 = .ok (.iaload, 1) := by decide +kernel
theorem dL_shoots_70 : decode cL_shoots 70 = .ok (.sipush 1000, 3) := by decide +kernel
theorem dL_shoots_73 : decode cL_shoots 73 = .ok (.irem, 1) := by decide +kernel
theorem dL_shoots_74 : decode cL_shoots 74 = .ok (.goto 4, 3) := by decide +kernel
theorem dL_shoots_77 : decode cL_shoots 77 = .ok (.iconst 0, 1) := by decide +kernel
theorem dL_shoots_78 : decode cL_shoots 78 = .ok (.iadd, 1) := by decide +kernel
theorem dL_shoots_79 : decode cL_shoots 79 = .ok (.istore 8, 2) := by decide +kernel
theorem dL_shoots_81 : decode cL_shoots 81 = .ok (.iload 9, 2) := by decide +kernel
theorem dL_shoots_83 : decode cL_shoots 83 = .ok (.aload_n 3, 1) := by decide +kernel
theorem dL_shoots_84 : decode cL_shoots 84 = .ok (.iload 10, 2) := by decide +kernel
theorem dL_shoots_86 : decode cL_shoots 86 = .ok (.iaload, 1) := by decide +kernel
theorem dL_shoots_87 : decode cL_shoots 87 = .ok (.sipush 1000, 3) := by decide +kernel
theorem dL_shoots_90 : decode cL_shoots 90 = .ok (.idiv, 1) := by decide +kernel
theorem dL_shoots_91 : decode cL_shoots 91 = .ok (.iconst 2, 1) := by decide +kernel
theorem dL_shoots_92 : decode cL_shoots 92 = .ok (.irem, 1) := by decide +kernel
theorem dL_shoots_93 : decode cL_shoots 93 = .ok (.ifCond .ne 14, 3) := by decide +kernel
theorem dL_shoots_96 : decode cL_shoots 96 = .ok (.aload_n 3, 1) := by decide +kernel
theorem dL_shoots_97 : decode cL_shoots 97 = .ok (.iload 10, 2) := by decide +kernel
theorem dL_shoots_99 : decode cL_shoots 99 = .ok (.iaload, 1) := by decide +kernel
theorem dL_shoots_100 : decode cL_shoots 100 = .ok (.sipush 1000, 3) := by decide +kernel
theorem dL_shoots_103 : decode cL_shoots 103 = .ok (.irem, 1) := by decide +kernel
theorem dL_shoots_104 : decode cL_shoots 104 = .ok (.goto 4, 3) := by decide +kernel
theorem dL_shoots_107 : decode cL_shoots 107 = .ok (.iconst 0, 1) := by decide +kernel
theorem dL_shoots_108 : decode cL_shoots 108 = .ok (.iadd, 1) := by decide +kernel
theorem dL_shoots_109 : decode cL_shoots 109 = .ok (.istore 9, 2) := by decide +kernel
theorem dL_shoots_111 : decode cL_shoots 111 = .ok (.iinc 10 1, 3) := by decide +kernel
theorem dL_shoots_114 : decode cL_shoots 114 = .ok (.goto (-71), 3) := by decide +kernel
theorem dL_shoots_117 : decode cL_shoots 117 = .ok (.bipush 47, 2) := by decide +kernel
theorem dL_shoots_119 : decode cL_shoots 119 = .ok (.istore 10, 2) := by decide +kernel
theorem dL_shoots_121 : decode cL_shoots 121 = .ok (.iload 10, 2) := by decide +kernel
theorem dL_shoots_123 : decode cL_shoots 123 = .ok (.iconst 3, 1) := by decide +kernel
theorem dL_shoots_124 : decode cL_shoots 124 = .ok (.if_icmp .le 21, 3) := by decide +kernel
theorem dL_shoots_127 : decode cL_shoots 127 = .ok (.aload 5, 2) := by decide +kernel
theorem dL_shoots_129 : decode cL_shoots 129 = .ok (.iload 10, 2) := by decide +kernel
theorem dL_shoots_131 : decode cL_shoots 131 = .ok (.aload 5, 2) := by decide +kernel
theorem dL_shoots_133 : decode cL_shoots 133 = .ok (.iload 10, 2) := by decide +kernel
theorem dL_shoots_135 : decode cL_shoots 135 = .ok (.iconst 4, 1) := by decide +kernel
theorem dL_shoots_136 : decode cL_shoots 136 = .ok (.isub, 1) := by decide +kernel
theorem dL_shoots_137 : decode cL_shoots 137 = .ok (.iaload, 1) := by decide +kernel
theorem dL_shoots_138 : decode cL_shoots 138 = .ok (.iastore, 1) := by decide +kernel
theorem dL_shoots_139 : decode cL_shoots 139 = .ok (.iinc 10 (-1), 3) := by decide +kernel
theorem dL_shoots_142 : decode cL_shoots 142 = .ok (.goto (-21), 3) := by decide +kernel
theorem dL_shoots_145 : decode cL_shoots 145 = .ok (.bipush 35, 2) := by decide +kernel
theorem dL_shoots_147 : decode cL_shoots 147 = .ok (.istore 10, 2) := by decide +kernel
theorem dL_shoots_149 : decode cL_shoots 149 = .ok (.iload 10, 2) := by decide +kernel
theorem dL_shoots_151 : decode cL_shoots 151 = .ok (.iconst 2, 1) := by decide +kernel
theorem dL_shoots_152 : decode cL_shoots 152 = .ok (.if_icmp .le 21, 3) := by decide +kernel
theorem dL_shoots_155 : decode cL_shoots 155 = .ok (.aload 4, 2) := by decide +kernel
theorem dL_shoots_157 : decode cL_shoots 157 = .ok (.iload 10, 2) := by decide +kernel
theorem dL_shoots_159 : decode cL_shoots 159 = .ok (.aload 4, 2) := by decide +kernel
theorem dL_shoots_161 : decode cL_shoots 161 = .ok (.iload 10, 2) := by decide +kernel
theorem dL_shoots_163 : decode cL_shoots 163 = .ok (.iconst 3, 1) := by decide +kernel
theorem dL_shoots_164 : decode cL_shoots 164 = .ok (.isub, 1) := by decide +kernel
theorem dL_shoots_165 : decode cL_shoots 165 = .ok (.iaload, 1) := by decide +kernel
theorem dL_shoots_166 : decode cL_shoots 166 = .ok (.iastore, 1) := by decide +kernel
theorem dL_shoots_167 : decode cL_shoots 167 = .ok (.iinc 10 (-1), 3) := by decide +kernel
theorem dL_shoots_170 : decode cL_shoots 170 = .ok (.goto (-21), 3) := by decide +kernel
theorem dL_shoots_173 : decode cL_shoots 173 = .ok (.aload 4, 2) := by decide +kernel
theorem dL_shoots_175 : decode cL_shoots 175 = .ok (.iconst 0, 1) := by decide +kernel
theorem dL_shoots_176 : decode cL_shoots 176 = .ok (.aload_n 1, 1) := by decide +kernel
theorem dL_shoots_177 : decode cL_shoots 177 = .ok (.iconst 5, 1) := by decide +kernel
theorem dL_shoots_178 : decode cL_shoots 178 = .ok (.iaload, 1) := by decide +kernel
theorem dL_shoots_179 : decode cL_shoots 179 = .ok (.iastore, 1) := by decide +kernel
theorem dL_shoots_180 : decode cL_shoots 180 = .ok (.aload 4, 2) := by decide +kernel
theorem dL_shoots_182 : decode cL_shoots 182 = .ok (.iconst 1, 1) := by decide +kernel
theorem dL_shoots_183 : decode cL_shoots 183 = .ok (.iload 6, 2) := by decide +kernel
theorem dL_shoots_185 : decode cL_shoots 185 = .ok (.iastore, 1) := by decide +kernel
theorem dL_shoots_186 : decode cL_shoots 186 = .ok (.aload 4, 2) := by decide +kernel
theorem dL_shoots_188 : decode cL_shoots 188 = .ok (.iconst 2, 1) := by decide +kernel
theorem dL_shoots_189 : decode cL_shoots 189 = .ok (.iload 7, 2) := by decide +kernel
theorem dL_shoots_191 : decode cL_shoots 191 = .ok (.iastore, 1) := by decide +kernel
theorem dL_shoots_192 : decode cL_shoots 192 = .ok (.aload 5, 2) := by decide +kernel
theorem dL_shoots_194 : decode cL_shoots 194 = .ok (.iconst 0, 1) := by decide +kernel
theorem dL_shoots_195 : decode cL_shoots 195 = .ok (.iload 8, 2) := by decide +kernel
theorem dL_shoots_197 : decode cL_shoots 197 = .ok (.iload 7, 2) := by decide +kernel
theorem dL_shoots_199 : decode cL_shoots 199 = .ok (.iload 8, 2) := by decide +kernel
theorem dL_shoots_201 : decode cL_shoots 201 = .ok (.isub, 1) := by decide +kernel
theorem dL_shoots_202 : decode cL_shoots 202 = .ok (.if_icmp .lt 7, 3) := by decide +kernel
theorem dL_shoots_205 : decode cL_shoots 205 = .ok (.iconst 0, 1) := by decide +kernel
theorem dL_shoots_206 : decode cL_shoots 206 = .ok (.goto 4, 3) := by decide +kernel
theorem dL_shoots_209 : decode cL_shoots 209 = .ok (.iconst 1, 1) := by decide +kernel
theorem dL_shoots_210 : decode cL_shoots 210 = .ok (.iastore, 1) := by decide +kernel
theorem dL_shoots_211 : decode cL_shoots 211 = .ok (.aload 5, 2) := by decide +kernel
theorem dL_shoots_213 : decode cL_shoots 213 = .ok (.iconst 1, 1) := by decide +kernel
theorem dL_shoots_214 : decode cL_shoots 214 = .ok (.iload 9, 2) := by decide +kernel
theorem dL_shoots_216 : decode cL_shoots 216 = .ok (.iload 7, 2) := by decide +kernel
theorem dL_shoots_218 : decode cL_shoots 218 = .ok (.iload 9, 2) := by decide +kernel
theorem dL_shoots_220 : decode cL_shoots 220 = .ok (.isub, 1) := by decide +kernel
theorem dL_shoots_221 : decode cL_shoots 221 = .ok (.if_icmp .lt 7, 3) := by decide +kernel
theorem dL_shoots_224 : decode cL_shoots 224 = .ok (.iconst 0, 1) := by decide +kernel
theorem dL_shoots_225 : decode cL_shoots 225 = .ok (.goto 4, 3) := by decide +kernel
theorem dL_shoots_228 : decode cL_shoots 228 = .ok (.iconst 1, 1) := by decide +kernel
theorem dL_shoots_229 : decode cL_shoots 229 = .ok (.iastore, 1) := by decide +kernel
theorem dL_shoots_230 : decode cL_shoots 230 = .ok (.aload 5, 2) := by decide +kernel
theorem dL_shoots_232 : decode cL_shoots 232 = .ok (.iconst 2, 1) := by decide +kernel
theorem dL_shoots_233 : decode cL_shoots 233 = .ok (.aload_n 1, 1) := by decide +kernel
theorem dL_shoots_234 : decode cL_shoots 234 = .ok (.iconst 0, 1) := by decide +kernel
theorem dL_shoots_235 : decode cL_shoots 235 = .ok (.iaload, 1) := by decide +kernel
theorem dL_shoots_236 : decode cL_shoots 236 = .ok (.iastore, 1) := by decide +kernel
theorem dL_shoots_237 : decode cL_shoots 237 = .ok (.aload 5, 2) := by decide +kernel
theorem dL_shoots_239 : decode cL_shoots 239 = .ok (.iconst 3, 1) := by decide +kernel
theorem dL_shoots_240 : decode cL_shoots 240 = .ok (.aload_n 3, 1) := by decide +kernel
theorem dL_shoots_241 : decode cL_shoots 241 = .ok (.iconst 0, 1) := by decide +kernel
theorem dL_shoots_242 : decode cL_shoots 242 = .ok (.iaload, 1) := by decide +kernel
theorem dL_shoots_243 : decode cL_shoots 243 = .ok (.iastore, 1) := by decide +kernel
theorem dL_shoots_244 : decode cL_shoots 244 = .ok (.aload_n 1, 1) := by decide +kernel
theorem dL_shoots_245 : decode cL_shoots 245 = .ok (.bipush 14, 2) := by decide +kernel
theorem dL_shoots_247 : decode cL_shoots 247 = .ok (.dup2, 1) := by decide +kernel
theorem dL_shoots_248 : decode cL_shoots 248 = .ok (.iaload, 1) := by decide +kernel
theorem dL_shoots_249 : decode cL_shoots 249 = .ok (.aload_n 1, 1) := by decide +kernel
theorem dL_shoots_250 : decode cL_shoots 250 = .ok (.bipush 14, 2) := by decide +kernel
theorem dL_shoots_252 : decode cL_shoots 252 = .ok (.iaload, 1) := by decide +kernel
theorem dL_shoots_253 : decode cL_shoots 253 = .ok (.bipush 12, 2) := by decide +kernel
theorem dL_shoots_255 : decode cL_shoots 255 = .ok (.if_icmp .ge 7, 3) := by decide +kernel
theorem dL_shoots_258 : decode cL_shoots 258 = .ok (.iconst 1, 1) := by decide +kernel
theorem dL_shoots_259 : decode cL_shoots 259 = .ok (.goto 4, 3) := by decide +kernel
theorem dL_shoots_262 : decode cL_shoots 262 = .ok (.iconst 0, 1) := by decide +kernel
theorem dL_shoots_263 : decode cL_shoots 263 = .ok (.iadd, 1) := by decide +kernel
theorem dL_shoots_264 : decode cL_shoots 264 = .ok (.iastore, 1) := by decide +kernel
theorem dL_shoots_265 : decode cL_shoots 265 = .ok (.aload_n 1, 1) := by decide +kernel
theorem dL_shoots_266 : decode cL_shoots 266 = .ok (.iconst 5, 1) := by decide +kernel
theorem dL_shoots_267 : decode cL_shoots 267 = .ok (.dup2, 1) := by decide +kernel
theorem dL_shoots_268 : decode cL_shoots 268 = .ok (.iaload, 1) := by decide +kernel
theorem dL_shoots_269 : decode cL_shoots 269 = .ok (.iconst 1, 1) := by decide +kernel
theorem dL_shoots_270 : decode cL_shoots 270 = .ok (.iadd, 1) := by decide +kernel
theorem dL_shoots_271 : decode cL_shoots 271 = .ok (.iastore, 1) := by decide +kernel
theorem dL_shoots_272 : decode cL_shoots 272 = .ok (.aload_n 1, 1) := by decide +kernel
theorem dL_shoots_273 : decode cL_shoots 273 = .ok (.iconst 3, 1) := by decide +kernel
theorem dL_shoots_274 : decode cL_shoots 274 = .ok (.dup2, 1) := by decide +kernel
theorem dL_shoots_275 : decode cL_shoots 275 = .ok (.iaload, 1) := by decide +kernel
theorem dL_shoots_276 : decode cL_shoots 276 = .ok (.iload 7, 2) := by decide +kernel
theorem dL_shoots_278 : decode cL_shoots 278 = .ok (.iadd, 1) := by decide +kernel
theorem dL_shoots_279 : decode cL_shoots 279 = .ok (.iastore, 1) := by decide +kernel
theorem dL_shoots_280 : decode cL_shoots 280 = .ok (.aload_n 3, 1) := by decide +kernel
theorem dL_shoots_281 : decode cL_shoots 281 = .ok (.iconst 0, 1) := by decide +kernel
theorem dL_shoots_282 : decode cL_shoots 282 = .ok (.iconst 0, 1) := by decide +kernel
theorem dL_shoots_283 : decode cL_shoots 283 = .ok (.iastore, 1) := by decide +kernel
theorem dL_shoots_284 : decode cL_shoots 284 = .ok (.aload_n 1, 1) := by decide +kernel
theorem dL_shoots_285 : decode cL_shoots 285 = .ok (.iload 6, 2) := by decide +kernel
theorem dL_shoots_287 : decode cL_shoots 287 = .ok (.invokestatic 38, 3) := by decide +kernel
theorem dL_shoots_290 : decode cL_shoots 290 = .ok (.aload_n 1, 1) := by decide +kernel
theorem dL_shoots_291 : decode cL_shoots 291 = .ok (.bipush 8, 2) := by decide +kernel
theorem dL_shoots_293 : decode cL_shoots 293 = .ok (.iaload, 1) := by decide +kernel
theorem dL_shoots_294 : decode cL_shoots 294 = .ok (.if_icmp .gt 7, 3) := by decide +kernel
theorem dL_shoots_297 : decode cL_shoots 297 = .ok (.iconst 1, 1) := by decide +kernel
theorem dL_shoots_298 : decode cL_shoots 298 = .ok (.goto 4, 3) := by decide +kernel
theorem dL_shoots_301 : decode cL_shoots 301 = .ok (.iconst 0, 1) := by decide +kernel
theorem dL_shoots_302 : decode cL_shoots 302 = .ok (.istore 10, 2) := by decide +kernel
theorem dL_shoots_304 : decode cL_shoots 304 = .ok (.aload_n 1, 1) := by decide +kernel
theorem dL_shoots_305 : decode cL_shoots 305 = .ok (.bipush 6, 2) := by decide +kernel
theorem dL_shoots_307 : decode cL_shoots 307 = .ok (.dup2, 1) := by decide +kernel
theorem dL_shoots_308 : decode cL_shoots 308 = .ok (.iaload, 1) := by decide +kernel
theorem dL_shoots_309 : decode cL_shoots 309 = .ok (.iload 10, 2) := by decide +kernel
theorem dL_shoots_311 : decode cL_shoots 311 = .ok (.ifCond .eq 7, 3) := by decide +kernel
theorem dL_shoots_314 : decode cL_shoots 314 = .ok (.iconst 1, 1) := by decide +kernel
theorem dL_shoots_315 : decode cL_shoots 315 = .ok (.goto 4, 3) := by decide +kernel
theorem dL_shoots_318 : decode cL_shoots 318 = .ok (.iconst 0, 1) := by decide +kernel
theorem dL_shoots_319 : decode cL_shoots 319 = .ok (.iadd, 1) := by decide +kernel
theorem dL_shoots_320 : decode cL_shoots 320 = .ok (.iastore, 1) := by decide +kernel
theorem dL_shoots_321 : decode cL_shoots 321 = .ok (.iload 10, 2) := by decide +kernel
theorem dL_shoots_323 : decode cL_shoots 323 = .ok (.ifCond .ne 22, 3) := by decide +kernel
theorem dL_shoots_326 : decode cL_shoots 326 = .ok (.aload_n 1, 1) := by decide +kernel
theorem dL_shoots_327 : decode cL_shoots 327 = .ok (.bipush 12, 2) := by decide +kernel
theorem dL_shoots_329 : decode cL_shoots 329 = .ok (.iaload, 1) := by decide +kernel
theorem dL_shoots_330 : decode cL_shoots 330 = .ok (.iconst 1, 1) := by decide +kernel
theorem dL_shoots_331 : decode cL_shoots 331 = .ok (.if_icmp .ne 14, 3) := by decide +kernel
theorem dL_shoots_334 : decode cL_shoots 334 = .ok (.aload_n 1, 1) := by decide +kernel
theorem dL_shoots_335 : decode cL_shoots 335 = .ok (.aload_n 2, 1) := by decide +kernel
theorem dL_shoots_336 : decode cL_shoots 336 = .ok (.aload 5, 2) := by decide +kernel
theorem dL_shoots_338 : decode cL_shoots 338 = .ok (.iconst 0, 1) := by decide +kernel
theorem dL_shoots_339 : decode cL_shoots 339 = .ok (.iaload, 1) := by decide +kernel
theorem dL_shoots_340 : decode cL_shoots 340 = .ok (.iload 6, 2) := by decide +kernel
theorem dL_shoots_342 : decode cL_shoots 342 = .ok (.invokestatic 41, 3) := by decide +kernel
theorem dL_shoots_345 : decode cL_shoots 345 = .ok (.aload_n 1, 1) := by decide +kernel
theorem dL_shoots_346 : decode cL_shoots 346 = .ok (.aload_n 2, 1) := by decide +kernel
theorem dL_shoots_347 : decode cL_shoots 347 = .ok (.iload 6, 2) := by decide +kernel
theorem dL_shoots_349 : decode cL_shoots 349 = .ok (.bipush 10, 2) := by decide +kernel
theorem dL_shoots_351 : decode cL_shoots 351 = .ok (.idiv, 1) := by decide +kernel
theorem dL_shoots_352 : decode cL_shoots 352 = .ok (.invokestatic 45, 3) := by decide +kernel
theorem dL_shoots_355 : decode cL_shoots 355 = .ok (.pop, 1) := by decide +kernel
theorem dL_shoots_356 : decode cL_shoots 356 = .ok (.aload_n 0, 1) := by decide +kernel
theorem dL_shoots_357 : decode cL_shoots 357 = .ok (.invokevirtual 29, 3) := by decide +kernel
theorem dL_shoots_360 : decode cL_shoots 360 = .ok (.iload 6, 2) := by decide +kernel
theorem dL_shoots_362 : decode cL_shoots 362 = .ok (.if_icmp .ne 7, 3) := by decide +kernel
theorem dL_shoots_365 : decode cL_shoots 365 = .ok (.iconst 1, 1) := by decide +kernel
theorem dL_shoots_366 : decode cL_shoots 366 = .ok (.goto 4, 3) := by decide +kernel
theorem dL_shoots_369 : decode cL_shoots 369 = .ok (.iconst 0, 1) := by decide +kernel
theorem dL_shoots_370 : decode cL_shoots 370 = .ok (.ireturn, 1) := by decide +kernel
set_option maxRecDepth 20000 in
theorem ggL_purges_L_amounts : GoodIn wsL_purges wsL_amounts := goodIn_r _ [4] rfl (by decide +kernel)
set_option maxRecDepth 20000 in
theorem gL_purges_L_amounts : GoodIn wsL_purges (va_wsS RL 16 yL_amounts wsL_amounts) := goodIn_app (goodIn_of _ (by decide +kernel)) ggL_purges_L_amounts
set_option maxRecDepth 20000 in
theorem ggL_purges_X7_purge : GoodIn wsL_purges wsX7_purge := goodIn_r _ [9, 10, 11, 12, 8, 13, 14, 15, 16, 17, 18, 19, 20, 21, 22, 23, 24, 25, 26, 27, 28, 29, 30, 31, 32, 33, 34, 35, 36, 37, 38, 39, 40, 41, 42, 43, 44, 45, 46, 47, 48, 49, 50, 51, 52, 53, 54, 55, 56, 57, 58, 59, 60, 61, 62, 63, 64, 65, 66, 67, 68, 69, 70, 71, 72, 73, 74, 75, 76, 77, 78, 79, 80, 81, 82, 83, 84, 85, 86, 87, 88, 89, 90, 91, 92, 93, 94, 95, 96, 97, 98, 99, 100, 101, 102, 103, 104, 105, 106, 107, 108, 109, 110, 111, 112, 113, 114, 115, 116, 117, 118, 119, 120, 121, 122, 123, 124, 125, 126, 127, 128, 129, 130, 131, 132, 133, 134] rfl (by decide +kernel)
set_option maxRecDepth 20000 in
theorem gL_purges_X7_purge : GoodIn wsL_purges (wsV RL 49 RX7 yX7_purge wsX7_purge) := goodIn_app (goodIn_of _ (by decide +kernel)) ggL_purges_X7_purge
theorem dL_purges_0 : decode cL_purges 0 = .ok (.aload_n 2, 1) := by decide +kernel
theorem dL_purges_1 : decode cL_purges 1 = .ok (.invokestatic 16, 3) := by decide +kernel
theorem dL_purges_4 : decode cL_purges 4 = .ok (.istore_n 3, 1) := by decide +kernel
theorem dL_purges_5 : decode cL_purges 5 = .ok (.aload_n 1, 1) := by decide +kernel
theorem dL_purges_6 : decode cL_purges 6 = .ok (.iconst 4, 1) := by decide +kernel
theorem dL_purges_7 : decode cL_purges 7 = .ok (.dup2, 1) := by decide +kernel
theorem dL_purges_8 : decode cL_purges 8 = .ok (.iaload, 1) := by decide +kernel
theorem dL_purges_9 : decode cL_purges 9 = .ok (.iload_n 3, 1) := by decide +kernel
theorem dL_purges_10 : decode cL_purges 10 = .ok (.iadd, 1) := by decide +kernel
theorem dL_purges_11 : decode cL_purges 11 = .ok (.iastore, 1) := by decide +kernel
theorem dL_purges_12 : decode cL_purges 12 = .ok (.aload_n 2, 1) := by decide +kernel
theorem dL_purges_13 : decode cL_purges 13 = .ok (.iconst 0, 1) := by decide +kernel
theorem dL_purges_14 : decode cL_purges 14 = .ok (.iconst 0, 1) := by decide +kernel
theorem dL_purges_15 : decode cL_purges 15 = .ok (.iastore, 1) := by decide +kernel
theorem dL_purges_16 : decode cL_purges 16 = .ok (.aload_n 0, 1) := by decide +kernel
theorem dL_purges_17 : decode cL_purges 17 = .ok (.invokevirtual 49, 3) := by decide +kernel
theorem dL_purges_20 : decode cL_purges 20 = .ok (.iload_n 3, 1) := by decide +kernel
theorem dL_purges_21 : decode cL_purges 21 = .ok (.if_icmp .ne 7, 3) := by decide +kernel
theorem dL_purges_24 : decode cL_purges 24 = .ok (.iconst 1, 1) := by decide +kernel
theorem dL_purges_25 : decode cL_purges 25 = .ok (.goto 4, 3) := by decide +kernel
theorem dL_purges_28 : decode cL_purges 28 = .ok (.iconst 0, 1) := by decide +kernel
theorem dL_purges_29 : decode cL_purges 29 = .ok (.ireturn, 1) := by decide +kernel
set_option maxRecDepth 20000 in
theorem ggL_acts_L_low : GoodIn wsL_acts wsL_low := goodIn_r _ [7, 8] rfl (by decide +kernel)
set_option maxRecDepth 20000 in
theorem gL_acts_L_low : GoodIn wsL_acts (va_wsS RL 53 yL_low wsL_low) := goodIn_app (goodIn_of _ (by decide +kernel)) ggL_acts_L_low
set_option maxRecDepth 20000 in
theorem ggL_acts_L_shoots : GoodIn wsL_acts wsL_shoots := goodIn_r _ [11, 3, 12, 13, 14, 15, 16, 17, 18, 19, 20, 21, 22, 23, 24, 25, 26, 27, 28, 29, 30, 31, 32, 33, 34, 35, 36, 37, 38, 39, 40, 41, 42, 43, 44, 45, 46, 47, 48, 49, 50, 51, 52, 53, 54, 55, 56, 57, 58, 59, 60, 61, 62, 63, 64, 65, 66, 67, 68, 69, 70, 71, 72, 73, 74, 75, 76, 77, 78, 79, 80, 81, 82, 83, 84, 85, 86, 87, 88, 89, 90, 91, 92, 93, 94, 95, 96, 97, 98, 99, 100, 101, 102, 103, 104, 105, 106, 107, 108, 109, 110, 111, 112, 113, 114, 115, 116, 117, 118, 119, 120, 121, 122, 123, 124, 125, 126, 127, 128, 129, 130, 131, 132, 133, 134, 135, 136, 137, 138, 139, 140, 141, 142, 143, 144, 145, 146, 147, 148, 149, 150, 151, 152, 153, 154, 155, 156, 157, 158, 159, 160, 161, 162, 163, 164, 165, 166, 167, 168, 169, 170, 171, 172, 173, 174, 6, 175, 176, 177, 178, 179, 180, 181, 182, 183, 184, 185, 186, 187, 188, 189, 190, 324, 325, 326, 327, 328, 329, 330, 331, 332, 333, 334, 335, 336, 337, 338, 339, 340, 341, 342, 343, 344, 345, 346, 347, 348, 349, 350, 351, 352, 353, 354, 355, 356, 357] rfl (by decide +kernel)
set_option maxRecDepth 20000 in
theorem gL_acts_L_shoots : GoodIn wsL_acts (va_wsS RL 56 yL_shoots wsL_shoots) := goodIn_app (goodIn_of _ (by decide +kernel)) ggL_acts_L_shoots
set_option maxRecDepth 20000 in
theorem ggL_acts_L_purges : GoodIn wsL_acts wsL_purges := goodIn_r _ [193, 179, 180, 6, 181, 194, 195, 196, 15, 197, 17, 18, 19, 20, 21, 22, 23, 24, 25, 26, 27, 28, 29, 30, 31, 32, 33, 34, 35, 36, 37, 38, 39, 40, 41, 42, 43, 44, 45, 46, 47, 48, 49, 50, 51, 52, 53, 54, 55, 56, 57, 58, 59, 60, 61, 62, 63, 64, 65, 66, 67, 68, 69, 70, 71, 72, 73, 74, 75, 76, 77, 78, 79, 80, 81, 82, 83, 198, 199, 200, 201, 124, 125, 126, 127, 157, 158, 159, 160, 161, 162, 163, 164, 165, 166, 167, 168, 169, 170, 171, 172, 324, 325, 326, 327, 328, 329, 330, 331, 332, 333, 334, 335, 336, 337, 338, 339, 340, 341, 342, 343, 344, 345, 346, 347, 348, 349, 350, 351, 352, 353, 354, 355, 356, 357] rfl (by decide +kernel)
set_option maxRecDepth 20000 in
theorem gL_acts_L_purges : GoodIn wsL_acts (va_wsS RL 60 yL_purges wsL_purges) := goodIn_app (goodIn_of _ (by decide +kernel)) ggL_acts_L_purges
set_option maxRecDepth 20000 in
theorem ggL_acts_L_hopper : GoodIn wsL_acts wsL_hopper := goodIn_r _ [204] rfl (by decide +kernel)
set_option maxRecDepth 20000 in
theorem gL_acts_L_hopper : GoodIn wsL_acts (va_wsS RL 9 yL_hopper wsL_hopper) := goodIn_app (goodIn_of _ (by decide +kernel)) ggL_acts_L_hopper
set_option maxRecDepth 20000 in
theorem ggL_acts_X7_fill : GoodIn wsL_acts wsX7_fill := goodIn_r _ [208, 17, 18, 19, 15, 20, 21, 22, 23, 24, 25, 26, 27, 28, 29, 30, 31, 32, 33, 34, 35, 36, 37, 38, 39, 40, 41, 42, 43, 44, 45, 46, 47, 48, 49, 50, 51, 52, 53, 54, 55, 56, 57, 58, 59, 60, 61, 62, 63, 64, 65, 66, 67, 68, 69, 70, 71, 72, 73, 74, 75, 76, 77, 78, 79, 80, 81, 82, 83, 209, 210, 211, 212, 213, 214, 215, 216, 217, 218, 219, 220, 221, 222, 223, 224, 225, 98, 99, 100, 226, 227, 228, 229, 230, 231, 232, 233, 234, 235, 236, 237, 238, 239, 240, 241, 157, 158, 159, 160, 161, 162, 163, 164, 165, 166, 167, 168, 169, 170, 171, 172, 324, 325, 326, 327, 328, 329, 330, 331, 332, 333, 334, 335, 336, 337, 338, 339, 340, 341, 342, 343, 344, 345, 346, 347, 348, 349, 350, 351, 352, 353, 354, 355, 356, 357] rfl (by decide +kernel)
set_option maxRecDepth 20000 in
theorem gL_acts_X7_fill : GoodIn wsL_acts (wsV RL 64 RX7 yX7_fill wsX7_fill) := goodIn_app (goodIn_of _ (by decide +kernel)) ggL_acts_X7_fill
set_option maxRecDepth 20000 in
theorem ggL_acts_L_can : GoodIn wsL_acts wsL_can := goodIn_r _ [244, 3, 2, 202, 203, 6, 204, 179, 180, 181] rfl (by decide +kernel)
set_option maxRecDepth 20000 in
theorem gL_acts_L_can : GoodIn wsL_acts (va_wsS RL 67 yL_can wsL_can) := goodIn_app (goodIn_of _ (by decide +kernel)) ggL_acts_L_can
set_option maxRecDepth 20000 in
theorem ggL_acts_X7_grind : GoodIn wsL_acts wsX7_grind := goodIn_r _ [248, 17, 18, 19, 15, 20, 21, 22, 23, 24, 25, 26, 27, 28, 29, 30, 31, 32, 33, 34, 35, 36, 37, 38, 39, 40, 41, 42, 43, 44, 45, 46, 47, 48, 49, 50, 51, 52, 53, 54, 55, 56, 57, 58, 59, 60, 61, 62, 63, 64, 65, 66, 67, 68, 69, 70, 71, 72, 73, 74, 75, 76, 77, 78, 79, 80, 81, 82, 83, 249, 250, 251, 252, 213, 92, 253, 144, 145, 214, 215, 216, 238, 239, 240, 241, 128, 129, 130, 131, 254, 255, 256, 257, 258, 259, 260, 261, 143, 262, 263, 264, 265, 266, 267, 268, 269, 270, 271, 272, 235, 236, 237, 273, 274, 275, 276, 277, 278, 279, 280, 146, 281, 147, 148, 149, 150, 151, 152, 153, 154, 155, 156, 157, 158, 159, 160, 161, 162, 163, 164, 165, 166, 167, 168, 169, 170, 171, 172, 324, 325, 326, 327, 328, 329, 330, 331, 332, 333, 334, 335, 336, 337, 338, 339, 340, 341, 342, 343, 344, 345, 346, 347, 348, 349, 350, 351, 352, 353, 354, 355, 356, 357] rfl (by decide +kernel)
set_option maxRecDepth 20000 in
theorem gL_acts_X7_grind : GoodIn wsL_acts (wsV RL 71 RX7 yX7_grind wsX7_grind) := goodIn_app (goodIn_of _ (by decide +kernel)) ggL_acts_X7_grind
set_option maxRecDepth 20000 in
theorem ggL_acts_L_grind : GoodIn wsL_acts wsL_grind := goodIn_r _ [284, 285, 286, 6, 287, 179, 180, 181] rfl (by decide +kernel)
set_option maxRecDepth 20000 in
theorem gL_acts_L_grind : GoodIn wsL_acts (va_wsS RL 74 yL_grind wsL_grind) := goodIn_app (goodIn_of _ (by decide +kernel)) ggL_acts_L_grind
set_option maxRecDepth 20000 in
theorem ggL_acts_L_pass : GoodIn wsL_acts wsL_pass := goodIn_r _ [190] rfl (by decide +kernel)
set_option maxRecDepth 20000 in
theorem gL_acts_L_pass : GoodIn wsL_acts (va_wsS RL 45 yL_pass wsL_pass) := goodIn_app (goodIn_of _ (by decide +kernel)) ggL_acts_L_pass
set_option maxRecDepth 20000 in
theorem ggL_acts_X7_dial : GoodIn wsL_acts wsX7_dial := goodIn_r _ [291, 17, 18, 19, 15, 20, 21, 22, 23, 24, 25, 26, 27, 28, 29, 30, 31, 32, 33, 34, 35, 36, 37, 38, 39, 40, 41, 42, 43, 44, 45, 46, 47, 48, 49, 50, 51, 52, 53, 54, 55, 56, 57, 58, 59, 60, 61, 62, 63, 64, 65, 66, 67, 68, 69, 70, 71, 72, 73, 74, 75, 76, 77, 78, 79, 80, 81, 82, 83, 292, 293, 294, 295, 213, 215, 216, 128, 129, 130, 131, 157, 158, 159, 160, 161, 162, 163, 164, 165, 166, 167, 168, 169, 170, 171, 172, 324, 325, 326, 327, 328, 329, 330, 331, 332, 333, 334, 335, 336, 337, 338, 339, 340, 341, 342, 343, 344, 345, 346, 347, 348, 349, 350, 351, 352, 353, 354, 355, 356, 357] rfl (by decide +kernel)
set_option maxRecDepth 20000 in
theorem gL_acts_X7_dial : GoodIn wsL_acts (wsV RL 77 RX7 yX7_dial wsX7_dial) := goodIn_app (goodIn_of _ (by decide +kernel)) ggL_acts_X7_dial
set_option maxRecDepth 20000 in
theorem ggL_acts_X7_rest : GoodIn wsL_acts wsX7_rest := goodIn_r _ [299, 17, 18, 19, 15, 20, 21, 22, 23, 24, 25, 26, 27, 28, 29, 30, 31, 32, 33, 34, 35, 36, 37, 38, 39, 40, 41, 42, 43, 44, 45, 46, 47, 48, 49, 50, 51, 52, 53, 54, 55, 56, 57, 58, 59, 60, 61, 62, 63, 64, 65, 66, 67, 68, 69, 70, 71, 72, 73, 74, 75, 76, 77, 78, 79, 80, 81, 82, 83, 300, 301, 302, 303, 213, 147, 148, 149, 150, 151, 152, 153, 154, 155, 156, 157, 158, 159, 160, 161, 162, 163, 164, 165, 166, 167, 168, 169, 170, 171, 172, 324, 325, 326, 327, 328, 329, 330, 331, 332, 333, 334, 335, 336, 337, 338, 339, 340, 341, 342, 343, 344, 345, 346, 347, 348, 349, 350, 351, 352, 353, 354, 355, 356, 357] rfl (by decide +kernel)
set_option maxRecDepth 20000 in
theorem gL_acts_X7_rest : GoodIn wsL_acts (wsV RL 80 RX7 yX7_rest wsX7_rest) := goodIn_app (goodIn_of _ (by decide +kernel)) ggL_acts_X7_rest
set_option maxRecDepth 20000 in
theorem ggL_acts_X7_correct : GoodIn wsL_acts wsX7_correct := goodIn_r _ [307, 17, 18, 19, 15, 20, 21, 22, 23, 24, 25, 26, 27, 28, 29, 30, 31, 32, 33, 34, 35, 36, 37, 38, 39, 40, 41, 42, 43, 44, 45, 46, 47, 48, 49, 50, 51, 52, 53, 54, 55, 56, 57, 58, 59, 60, 61, 62, 63, 64, 65, 66, 67, 68, 69, 70, 71, 72, 73, 74, 75, 76, 77, 78, 79, 80, 81, 82, 83, 308, 309, 310, 311, 213, 92, 215, 216, 128, 129, 130, 131, 312, 313, 314, 315, 139, 140, 141, 142, 143, 144, 145, 146, 157, 158, 159, 160, 161, 162, 163, 164, 165, 166, 167, 168, 169, 170, 171, 172, 324, 325, 326, 327, 328, 329, 330, 331, 332, 333, 334, 335, 336, 337, 338, 339, 340, 341, 342, 343, 344, 345, 346, 347, 348, 349, 350, 351, 352, 353, 354, 355, 356, 357] rfl (by decide +kernel)
set_option maxRecDepth 20000 in
theorem gL_acts_X7_correct : GoodIn wsL_acts (wsV RL 84 RX7 yX7_correct wsX7_correct) := goodIn_app (goodIn_of _ (by decide +kernel)) ggL_acts_X7_correct
set_option maxRecDepth 20000 in
theorem ggL_acts_L_correct : GoodIn wsL_acts wsL_correct := goodIn_r _ [187] rfl (by decide +kernel)
set_option maxRecDepth 20000 in
theorem gL_acts_L_correct : GoodIn wsL_acts (va_wsS RL 41 yL_correct wsL_correct) := goodIn_app (goodIn_of _ (by decide +kernel)) ggL_acts_L_correct
set_option maxRecDepth 20000 in
theorem ggL_acts_X7_set : GoodIn wsL_acts wsX7_set := goodIn_r _ [319, 17, 18, 19, 15, 20, 21, 22, 23, 24, 25, 26, 27, 28, 29, 30, 31, 32, 33, 34, 35, 36, 37, 38, 39, 40, 41, 42, 43, 44, 45, 46, 47, 48, 49, 50, 51, 52, 53, 54, 55, 56, 57, 58, 59, 60, 61, 62, 63, 64, 65, 66, 67, 68, 69, 70, 71, 72, 73, 74, 75, 76, 77, 78, 79, 80, 81, 82, 83, 320, 321, 322, 323, 213, 157, 158, 159, 160, 161, 162, 163, 164, 165, 166, 167, 168, 169, 170, 171, 172, 324, 325, 326, 327, 328, 329, 330, 331, 332, 333, 334, 335, 336, 337, 338, 339, 340, 341, 342, 343, 344, 345, 346, 347, 348, 349, 350, 351, 352, 353, 354, 355, 356, 357] rfl (by decide +kernel)
set_option maxRecDepth 20000 in
theorem gL_acts_X7_set : GoodIn wsL_acts (wsV RL 86 RX7 yX7_set wsX7_set) := goodIn_app (goodIn_of _ (by decide +kernel)) ggL_acts_X7_set
theorem dL_acts_0 : decode cL_acts 0 = .ok (.iload 8, 2) := by decide +kernel
theorem dL_acts_2 : decode cL_acts 2 = .ok (.iconst 5, 1) := by decide +kernel
theorem dL_acts_3 : decode cL_acts 3 = .ok (.ishr, 1) := by decide +kernel
theorem dL_acts_4 : decode cL_acts 4 = .ok (.ldc 52, 2) := by decide +kernel
theorem dL_acts_6 : decode cL_acts 6 = .ok (.invokestatic 53, 3) := by decide +kernel
theorem dL_acts_9 : decode cL_acts 9 = .ok (.istore 9, 2) := by decide +kernel
theorem dL_acts_11 : decode cL_acts 11 = .ok (.iload 8, 2) := by decide +kernel
theorem dL_acts_13 : decode cL_acts 13 = .ok (.bipush 24, 2) := by decide +kernel
theorem dL_acts_15 : decode cL_acts 15 = .ok (.invokestatic 53, 3) := by decide +kernel
theorem dL_acts_18 : decode cL_acts 18 = .ok (.istore 10, 2) := by decide +kernel
theorem dL_acts_20 : decode cL_acts 20 = .ok (.aload 5, 2) := by decide +kernel
theorem dL_acts_22 : decode cL_acts 22 = .ok (.iconst 0, 1) := by decide +kernel
theorem dL_acts_23 : decode cL_acts 23 = .ok (.iaload, 1) := by decide +kernel
theorem dL_acts_24 : decode cL_acts 24 = .ok (.aload 4, 2) := by decide +kernel
theorem dL_acts_26 : decode cL_acts 26 = .ok (.iconst 0, 1) := by decide +kernel
theorem dL_acts_27 : decode cL_acts 27 = .ok (.iaload, 1) := by decide +kernel
theorem dL_acts_28 : decode cL_acts 28 = .ok (.iadd, 1) := by decide +kernel
theorem dL_acts_29 : decode cL_acts 29 = .ok (.bipush 46, 2) := by decide +kernel
theorem dL_acts_31 : decode cL_acts 31 = .ok (.if_icmp .le 37, 3) := by decide +kernel
theorem dL_acts_34 : decode cL_acts 34 = .ok (.aload 5, 2) := by decide +kernel
theorem dL_acts_36 : decode cL_acts 36 = .ok (.iconst 0, 1) := by decide +kernel
theorem dL_acts_37 : decode cL_acts 37 = .ok (.iaload, 1) := by decide +kernel
theorem dL_acts_38 : decode cL_acts 38 = .ok (.aload 4, 2) := by decide +kernel
theorem dL_acts_40 : decode cL_acts 40 = .ok (.iconst 0, 1) := by decide +kernel
theorem dL_acts_41 : decode cL_acts 41 = .ok (.iaload, 1) := by decide +kernel
theorem dL_acts_42 : decode cL_acts 42 = .ok (.if_icmp .le 18, 3) := by decide +kernel
theorem dL_acts_45 : decode cL_acts 45 = .ok (.aload_n 0, 1) := by decide +kernel
theorem dL_acts_46 : decode cL_acts 46 = .ok (.aload_n 1, 1) := by decide +kernel
theorem dL_acts_47 : decode cL_acts 47 = .ok (.aload_n 2, 1) := by decide +kernel
theorem dL_acts_48 : decode cL_acts 48 = .ok (.aload 5, 2) := by decide +kernel
theorem dL_acts_50 : decode cL_acts 50 = .ok (.aload 6, 2) := by decide +kernel
theorem dL_acts_52 : decode cL_acts 52 = .ok (.aload 7, 2) := by decide +kernel
theorem dL_acts_54 : decode cL_acts 54 = .ok (.invokestatic 56, 3) := by decide +kernel
theorem dL_acts_57 : decode cL_acts 57 = .ok (.goto 10, 3) := by decide +kernel
theorem dL_acts_60 : decode cL_acts 60 = .ok (.aload_n 0, 1) := by decide +kernel
theorem dL_acts_61 : decode cL_acts 61 = .ok (.aload_n 1, 1) := by decide +kernel
theorem dL_acts_62 : decode cL_acts 62 = .ok (.aload 4, 2) := by decide +kernel
theorem dL_acts_64 : decode cL_acts 64 = .ok (.invokestatic 60, 3) := by decide +kernel
theorem dL_acts_67 : decode cL_acts 67 = .ok (.ireturn, 1) := by decide +kernel
theorem dL_acts_68 : decode cL_acts 68 = .ok (.iload 10, 2) := by decide +kernel
theorem dL_acts_70 : decode cL_acts 70 = .ok (.bipush 6, 2) := by decide +kernel
theorem dL_acts_72 : decode cL_acts 72 = .ok (.if_icmp .ge 193, 3) := by decide +kernel
theorem dL_acts_75 : decode cL_acts 75 = .ok (.iload 9, 2) := by decide +kernel
theorem dL_acts_77 : decode cL_acts 77 = .ok (.iconst 2, 1) := by decide +kernel
theorem dL_acts_78 : decode cL_acts 78 = .ok (.irem, 1) := by decide +kernel
theorem dL_acts_79 : decode cL_acts 79 = .ok (.istore 11, 2) := by decide +kernel
theorem dL_acts_81 : decode cL_acts 81 = .ok (.iconst 1, 1) := by decide +kernel
theorem dL_acts_82 : decode cL_acts 82 = .ok (.iload 9, 2) := by decide +kernel
theorem dL_acts_84 : decode cL_acts 84 = .ok (.iconst 2, 1) := by decide +kernel
theorem dL_acts_85 : decode cL_acts 85 = .ok (.idiv, 1) := by decide +kernel
theorem dL_acts_86 : decode cL_acts 86 = .ok (.iload 9, 2) := by decide +kernel
theorem dL_acts_88 : decode cL_acts 88 = .ok (.iconst 5, 1) := by decide +kernel
theorem dL_acts_89 : decode cL_acts 89 = .ok (.irem, 1) := by decide +kernel
theorem dL_acts_90 : decode cL_acts 90 = .ok (.ifCond .ne 9, 3) := by decide +kernel
theorem dL_acts_93 : decode cL_acts 93 = .ok (.sipush 999, 3) := by decide +kernel
theorem dL_acts_96 : decode cL_acts 96 = .ok (.goto 6, 3) := by decide +kernel
theorem dL_acts_99 : decode cL_acts 99 = .ok (.sipush 180, 3) := by decide +kernel
theorem dL_acts_102 : decode cL_acts 102 = .ok (.irem, 1) := by decide +kernel
theorem dL_acts_103 : decode cL_acts 103 = .ok (.iadd, 1) := by decide +kernel
theorem dL_acts_104 : decode cL_acts 104 = .ok (.istore 12, 2) := by decide +kernel
theorem dL_acts_106 : decode cL_acts 106 = .ok (.aload_n 1, 1) := by decide +kernel
theorem dL_acts_107 : decode cL_acts 107 = .ok (.bipush 13, 2) := by decide +kernel
theorem dL_acts_109 : decode cL_acts 109 = .ok (.iaload, 1) := by decide +kernel
theorem dL_acts_110 : decode cL_acts 110 = .ok (.ifCond .le 22, 3) := by decide +kernel
theorem dL_acts_113 : decode cL_acts 113 = .ok (.aload_n 3, 1) := by decide +kernel
theorem dL_acts_114 : decode cL_acts 114 = .ok (.iconst 2, 1) := by decide +kernel
theorem dL_acts_115 : decode cL_acts 115 = .ok (.aload_n 1, 1) := by decide +kernel
theorem dL_acts_116 : decode cL_acts 116 = .ok (.bipush 13, 2) := by decide +kernel
theorem dL_acts_118 : decode cL_acts 118 = .ok (.iaload, 1) := by decide +kernel
theorem dL_acts_119 : decode cL_acts 119 = .ok (.imul, 1) := by decide +kernel
theorem dL_acts_120 : decode cL_acts 120 = .ok (.iconst 2, 1) := by decide +kernel
theorem dL_acts_121 : decode cL_acts 121 = .ok (.isub, 1) := by decide +kernel
theorem dL_acts_122 : decode cL_acts 122 = .ok (.iaload, 1) := by decide +kernel
theorem dL_acts_123 : decode cL_acts 123 = .ok (.iload 11, 2) := by decide +kernel
theorem dL_acts_125 : decode cL_acts 125 = .ok (.if_icmp .ne 7, 3) := by decide +kernel
theorem dL_acts_128 : decode cL_acts 128 = .ok (.iconst 1, 1) := by decide +kernel
theorem dL_acts_129 : decode cL_acts 129 = .ok (.goto 4, 3) := by decide +kernel
theorem dL_acts_132 : decode cL_acts 132 = .ok (.iconst 0, 1) := by decide +kernel
theorem dL_acts_133 : decode cL_acts 133 = .ok (.istore 13, 2) := by decide +kernel
theorem dL_acts_135 : decode cL_acts 135 = .ok (.iload 13, 2) := by decide +kernel
theorem dL_acts_137 : decode cL_acts 137 = .ok (.ifCond .ne 12, 3) := by decide +kernel
theorem dL_acts_140 : decode cL_acts 140 = .ok (.aload_n 1, 1) := by decide +kernel
theorem dL_acts_141 : decode cL_acts 141 = .ok (.bipush 13, 2) := by decide +kernel
theorem dL_acts_143 : decode cL_acts 143 = .ok (.iaload, 1) := by decide +kernel
theorem dL_acts_144 : decode cL_acts 144 = .ok (.bipush 6, 2) := by decide +kernel
theorem dL_acts_146 : decode cL_acts 146 = .ok (.if_icmp .eq 17, 3) := by decide +kernel
theorem dL_acts_149 : decode cL_acts 149 = .ok (.aload_n 1, 1) := by decide +kernel
theorem dL_acts_150 : decode cL_acts 150 = .ok (.aload_n 3, 1) := by decide +kernel
theorem dL_acts_151 : decode cL_acts 151 = .ok (.invokestatic 9, 3) := by decide +kernel
theorem dL_acts_154 : decode cL_acts 154 = .ok (.iload 12, 2) := by decide +kernel
theorem dL_acts_156 : decode cL_acts 156 = .ok (.iadd, 1) := by decide +kernel
theorem dL_acts_157 : decode cL_acts 157 = .ok (.sipush 4000, 3) := by decide +kernel
theorem dL_acts_160 : decode cL_acts 160 = .ok (.if_icmp .le 22, 3) := by decide +kernel
theorem dL_acts_163 : decode cL_acts 163 = .ok (.aload_n 0, 1) := by decide +kernel
theorem dL_acts_164 : decode cL_acts 164 = .ok (.iload 11, 2) := by decide +kernel
theorem dL_acts_166 : decode cL_acts 166 = .ok (.iload 12, 2) := by decide +kernel
theorem dL_acts_168 : decode cL_acts 168 = .ok (.invokevirtual 64, 3) := by decide +kernel
theorem dL_acts_171 : decode cL_acts 171 = .ok (.ldc 20, 2) := by decide +kernel
theorem dL_acts_173 : decode cL_acts 173 = .ok (.if_icmp .ne 7, 3) := by decide +kernel
theorem dL_acts_176 : decode cL_acts 176 = .ok (.iconst 1, 1) := by decide +kernel
theorem dL_acts_177 : decode cL_acts 177 = .ok (.goto 4, 3) := by decide +kernel
theorem dL_acts_180 : decode cL_acts 180 = .ok (.iconst 0, 1) := by decide +kernel
theorem dL_acts_181 : decode cL_acts 181 = .ok (.ireturn, 1) := by decide +kernel
theorem dL_acts_182 : decode cL_acts 182 = .ok (.iload 13, 2) := by decide +kernel
theorem dL_acts_184 : decode cL_acts 184 = .ok (.ifCond .eq 21, 3) := by decide +kernel
theorem dL_acts_187 : decode cL_acts 187 = .ok (.aload_n 3, 1) := by decide +kernel
theorem dL_acts_188 : decode cL_acts 188 = .ok (.iconst 2, 1) := by decide +kernel
theorem dL_acts_189 : decode cL_acts 189 = .ok (.aload_n 1, 1) := by decide +kernel
theorem dL_acts_190 : decode cL_acts 190 = .ok (.bipush 13, 2) := by decide +kernel
theorem dL_acts_192 : decode cL_acts 192 = .ok (.iaload, 1) := by decide +kernel
theorem dL_acts_193 : decode cL_acts 193 = .ok (.imul, 1) := by decide +kernel
theorem dL_acts_194 : decode cL_acts 194 = .ok (.iconst 1, 1) := by decide +kernel
theorem dL_acts_195 : decode cL_acts 195 = .ok (.isub, 1) := by decide +kernel
theorem dL_acts_196 : decode cL_acts 196 = .ok (.dup2, 1) := by decide +kernel
theorem dL_acts_197 : decode cL_acts 197 = .ok (.iaload, 1) := by decide +kernel
theorem dL_acts_198 : decode cL_acts 198 = .ok (.iload 12, 2) := by decide +kernel
theorem dL_acts_200 : decode cL_acts 200 = .ok (.iadd, 1) := by decide +kernel
theorem dL_acts_201 : decode cL_acts 201 = .ok (.iastore, 1) := by decide +kernel
theorem dL_acts_202 : decode cL_acts 202 = .ok (.goto 33, 3) := by decide +kernel
theorem dL_acts_205 : decode cL_acts 205 = .ok (.aload_n 3, 1) := by decide +kernel
theorem dL_acts_206 : decode cL_acts 206 = .ok (.iconst 2, 1) := by decide +kernel
theorem dL_acts_207 : decode cL_acts 207 = .ok (.aload_n 1, 1) := by decide +kernel
theorem dL_acts_208 : decode cL_acts 208 = .ok (.bipush 13, 2) := by decide +kernel
theorem dL_acts_210 : decode cL_acts 210 = .ok (.iaload, 1) := by decide +kernel
theorem dL_acts_211 : decode cL_acts 211 = .ok (.imul, 1) := by decide +kernel
theorem dL_acts_212 : decode cL_acts 212 = .ok (.iload 11, 2) := by decide +kernel
theorem dL_acts_214 : decode cL_acts 214 = .ok (.iastore, 1) := by decide +kernel
theorem dL_acts_215 : decode cL_acts 215 = .ok (.aload_n 3, 1) := by decide +kernel
theorem dL_acts_216 : decode cL_acts 216 = .ok (.iconst 2, 1) := by decide +kernel
theorem dL_acts_217 : decode cL_acts 217 = .ok (.aload_n 1, 1) := by decide +kernel
theorem dL_acts_218 : decode cL_acts 218 = .ok (.bipush 13, 2) := by decide +kernel
theorem dL_acts_220 : decode cL_acts 220 = .ok (.iaload, 1) := by decide +kernel
theorem dL_acts_221 : decode cL_acts 221 = .ok (.imul, 1) := by decide +kernel
theorem dL_acts_222 : decode cL_acts 222 = .ok (.iconst 1, 1) := by decide +kernel
theorem dL_acts_223 : decode cL_acts 223 = .ok (.iadd, 1) := by decide +kernel
theorem dL_acts_224 : decode cL_acts 224 = .ok (.iload 12, 2) := by decide +kernel
theorem dL_acts_226 : decode cL_acts 226 = .ok (.iastore, 1) := by decide +kernel
theorem dL_acts_227 : decode cL_acts 227 = .ok (.aload_n 1, 1) := by decide +kernel
theorem dL_acts_228 : decode cL_acts 228 = .ok (.bipush 13, 2) := by decide +kernel
theorem dL_acts_230 : decode cL_acts 230 = .ok (.dup2, 1) := by decide +kernel
theorem dL_acts_231 : decode cL_acts 231 = .ok (.iaload, 1) := by decide +kernel
theorem dL_acts_232 : decode cL_acts 232 = .ok (.iconst 1, 1) := by decide +kernel
theorem dL_acts_233 : decode cL_acts 233 = .ok (.iadd, 1) := by decide +kernel
theorem dL_acts_234 : decode cL_acts 234 = .ok (.iastore, 1) := by decide +kernel
theorem dL_acts_235 : decode cL_acts 235 = .ok (.aload_n 1, 1) := by decide +kernel
theorem dL_acts_236 : decode cL_acts 236 = .ok (.iconst 1, 1) := by decide +kernel
theorem dL_acts_237 : decode cL_acts 237 = .ok (.dup2, 1) := by decide +kernel
theorem dL_acts_238 : decode cL_acts 238 = .ok (.iaload, 1) := by decide +kernel
theorem dL_acts_239 : decode cL_acts 239 = .ok (.iload 12, 2) := by decide +kernel
theorem dL_acts_241 : decode cL_acts 241 = .ok (.iadd, 1) := by decide +kernel
theorem dL_acts_242 : decode cL_acts 242 = .ok (.iastore, 1) := by decide +kernel
theorem dL_acts_243 : decode cL_acts 243 = .ok (.aload_n 0, 1) := by decide +kernel
theorem dL_acts_244 : decode cL_acts 244 = .ok (.iload 11, 2) := by decide +kernel
theorem dL_acts_246 : decode cL_acts 246 = .ok (.iload 12, 2) := by decide +kernel
theorem dL_acts_248 : decode cL_acts 248 = .ok (.invokevirtual 64, 3) := by decide +kernel
theorem dL_acts_251 : decode cL_acts 251 = .ok (.aload_n 1, 1) := by decide +kernel
theorem dL_acts_252 : decode cL_acts 252 = .ok (.aload_n 3, 1) := by decide +kernel
theorem dL_acts_253 : decode cL_acts 253 = .ok (.invokestatic 9, 3) := by decide +kernel
theorem dL_acts_256 : decode cL_acts 256 = .ok (.if_icmp .ne 7, 3) := by decide +kernel
theorem dL_acts_259 : decode cL_acts 259 = .ok (.iconst 1, 1) := by decide +kernel
theorem dL_acts_260 : decode cL_acts 260 = .ok (.goto 4, 3) := by decide +kernel
theorem dL_acts_263 : decode cL_acts 263 = .ok (.iconst 0, 1) := by decide +kernel
theorem dL_acts_264 : decode cL_acts 264 = .ok (.ireturn, 1) := by decide +kernel
theorem dL_acts_265 : decode cL_acts 265 = .ok (.iload 10, 2) := by decide +kernel
theorem dL_acts_267 : decode cL_acts 267 = .ok (.bipush 14, 2) := by decide +kernel
theorem dL_acts_269 : decode cL_acts 269 = .ok (.if_icmp .ge 118, 3) := by decide +kernel
theorem dL_acts_272 : decode cL_acts 272 = .ok (.iload 9, 2) := by decide +kernel
theorem dL_acts_274 : decode cL_acts 274 = .ok (.iconst 2, 1) := by decide +kernel
theorem dL_acts_275 : decode cL_acts 275 = .ok (.irem, 1) := by decide +kernel
theorem dL_acts_276 : decode cL_acts 276 = .ok (.istore 11, 2) := by decide +kernel
theorem dL_acts_278 : decode cL_acts 278 = .ok (.iconst 1, 1) := by decide +kernel
theorem dL_acts_279 : decode cL_acts 279 = .ok (.iload 9, 2) := by decide +kernel
theorem dL_acts_281 : decode cL_acts 281 = .ok (.iconst 2, 1) := by decide +kernel
theorem dL_acts_282 : decode cL_acts 282 = .ok (.idiv, 1) := by decide +kernel
theorem dL_acts_283 : decode cL_acts 283 = .ok (.iload 9, 2) := by decide +kernel
theorem dL_acts_285 : decode cL_acts 285 = .ok (.iconst 4, 1) := by decide +kernel
theorem dL_acts_286 : decode cL_acts 286 = .ok (.irem, 1) := by decide +kernel
theorem dL_acts_287 : decode cL_acts 287 = .ok (.ifCond .ne 9, 3) := by decide +kernel
theorem dL_acts_290 : decode cL_acts 290 = .ok (.sipush 400, 3) := by decide +kernel
theorem dL_acts_293 : decode cL_acts 293 = .ok (.goto 6, 3) := by decide +kernel
theorem dL_acts_296 : decode cL_acts 296 = .ok (.sipush 130, 3) := by decide +kernel
theorem dL_acts_299 : decode cL_acts 299 = .ok (.irem, 1) := by decide +kernel
theorem dL_acts_300 : decode cL_acts 300 = .ok (.iadd, 1) := by decide +kernel
theorem dL_acts_301 : decode cL_acts 301 = .ok (.istore 12, 2) := by decide +kernel
theorem dL_acts_303 : decode cL_acts 303 = .ok (.aload_n 1, 1) := by decide +kernel
theorem dL_acts_304 : decode cL_acts 304 = .ok (.aload_n 3, 1) := by decide +kernel
theorem dL_acts_305 : decode cL_acts 305 = .ok (.aload 4, 2) := by decide +kernel
theorem dL_acts_307 : decode cL_acts 307 = .ok (.aload 5, 2) := by decide +kernel
theorem dL_acts_309 : decode cL_acts 309 = .ok (.iload 12, 2) := by decide +kernel
theorem dL_acts_311 : decode cL_acts 311 = .ok (.invokestatic 67, 3) := by decide +kernel
theorem dL_acts_314 : decode cL_acts 314 = .ok (.istore 13, 2) := by decide +kernel
theorem dL_acts_316 : decode cL_acts 316 = .ok (.iload 13, 2) := by decide +kernel
theorem dL_acts_318 : decode cL_acts 318 = .ok (.ifCond .ge 22, 3) := by decide +kernel
theorem dL_acts_321 : decode cL_acts 321 = .ok (.aload_n 0, 1) := by decide +kernel
theorem dL_acts_322 : decode cL_acts 322 = .ok (.iload 11, 2) := by decide +kernel
theorem dL_acts_324 : decode cL_acts 324 = .ok (.iload 12, 2) := by decide +kernel
theorem dL_acts_326 : decode cL_acts 326 = .ok (.invokevirtual 71, 3) := by decide +kernel
theorem dL_acts_329 : decode cL_acts 329 = .ok (.iload 13, 2) := by decide +kernel
theorem dL_acts_331 : decode cL_acts 331 = .ok (.if_icmp .ne 7, 3) := by decide +kernel
theorem dL_acts_334 : decode cL_acts 334 = .ok (.iconst 1, 1) := by decide +kernel
theorem dL_acts_335 : decode cL_acts 335 = .ok (.goto 4, 3) := by decide +kernel
theorem dL_acts_338 : decode cL_acts 338 = .ok (.iconst 0, 1) := by decide +kernel
theorem dL_acts_339 : decode cL_acts 339 = .ok (.ireturn, 1) := by decide +kernel
theorem dL_acts_340 : decode cL_acts 340 = .ok (.aload_n 1, 1) := by decide +kernel
theorem dL_acts_341 : decode cL_acts 341 = .ok (.aload_n 2, 1) := by decide +kernel
theorem dL_acts_342 : decode cL_acts 342 = .ok (.aload_n 3, 1) := by decide +kernel
theorem dL_acts_343 : decode cL_acts 343 = .ok (.aload 4, 2) := by decide +kernel
theorem dL_acts_345 : decode cL_acts 345 = .ok (.aload 5, 2) := by decide +kernel
theorem dL_acts_347 : decode cL_acts 347 = .ok (.iload 11, 2) := by decide +kernel
theorem dL_acts_349 : decode cL_acts 349 = .ok (.iload 12, 2) := by decide +kernel
theorem dL_acts_351 : decode cL_acts 351 = .ok (.invokestatic 74, 3) := by decide +kernel
theorem dL_acts_354 : decode cL_acts 354 = .ok (.aload_n 1, 1) := by decide +kernel
theorem dL_acts_355 : decode cL_acts 355 = .ok (.aload_n 2, 1) := by decide +kernel
theorem dL_acts_356 : decode cL_acts 356 = .ok (.iload 12, 2) := by decide +kernel
theorem dL_acts_358 : decode cL_acts 358 = .ok (.bipush 9, 2) := by decide +kernel
theorem dL_acts_360 : decode cL_acts 360 = .ok (.iadd, 1) := by decide +kernel
theorem dL_acts_361 : decode cL_acts 361 = .ok (.bipush 10, 2) := by decide +kernel
theorem dL_acts_363 : decode cL_acts 363 = .ok (.idiv, 1) := by decide +kernel
theorem dL_acts_364 : decode cL_acts 364 = .ok (.invokestatic 45, 3) := by decide +kernel
theorem dL_acts_367 : decode cL_acts 367 = .ok (.pop, 1) := by decide +kernel
theorem dL_acts_368 : decode cL_acts 368 = .ok (.aload_n 0, 1) := by decide +kernel
theorem dL_acts_369 : decode cL_acts 369 = .ok (.iload 11, 2) := by decide +kernel
theorem dL_acts_371 : decode cL_acts 371 = .ok (.iload 12, 2) := by decide +kernel
theorem dL_acts_373 : decode cL_acts 373 = .ok (.invokevirtual 71, 3) := by decide +kernel
theorem dL_acts_376 : decode cL_acts 376 = .ok (.iload 13, 2) := by decide +kernel
theorem dL_acts_378 : decode cL_acts 378 = .ok (.if_icmp .ne 7, 3) := by decide +kernel
theorem dL_acts_381 : decode cL_acts 381 = .ok (.iconst 1, 1) := by decide +kernel
theorem dL_acts_382 : decode cL_acts 382 = .ok (.goto 4, 3) := by decide +kernel
theorem dL_acts_385 : decode cL_acts 385 = .ok (.iconst 0, 1) := by decide +kernel
theorem dL_acts_386 : decode cL_acts 386 = .ok (.ireturn, 1) := by decide +kernel
theorem dL_acts_387 : decode cL_acts 387 = .ok (.iload 10, 2) := by decide +kernel
theorem dL_acts_389 : decode cL_acts 389 = .ok (.bipush 17, 2) := by decide +kernel
theorem dL_acts_391 : decode cL_acts 391 = .ok (.if_icmp .ge 16, 3) := by decide +kernel
theorem dL_acts_394 : decode cL_acts 394 = .ok (.aload_n 0, 1) := by decide +kernel
theorem dL_acts_395 : decode cL_acts 395 = .ok (.aload_n 1, 1) := by decide +kernel
theorem dL_acts_396 : decode cL_acts 396 = .ok (.aload_n 2, 1) := by decide +kernel
theorem dL_acts_397 : decode cL_acts 397 = .ok (.aload 5, 2) := by decide +kernel
theorem dL_acts_399 : decode cL_acts 399 = .ok (.aload 6, 2) := by decide +kernel
theorem dL_acts_401 : decode cL_acts 401 = .ok (.aload 7, 2) := by decide +kernel
theorem dL_acts_403 : decode cL_acts 403 = .ok (.invokestatic 56, 3) := by decide +kernel
theorem dL_acts_406 : decode cL_acts 406 = .ok (.ireturn, 1) := by decide +kernel
theorem dL_acts_407 : decode cL_acts 407 = .ok (.iload 10, 2) := by decide +kernel
theorem dL_acts_409 : decode cL_acts 409 = .ok (.bipush 17, 2) := by decide +kernel
theorem dL_acts_411 : decode cL_acts 411 = .ok (.if_icmp .ne 11, 3) := by decide +kernel
theorem dL_acts_414 : decode cL_acts 414 = .ok (.aload_n 0, 1) := by decide +kernel
theorem dL_acts_415 : decode cL_acts 415 = .ok (.aload_n 1, 1) := by decide +kernel
theorem dL_acts_416 : decode cL_acts 416 = .ok (.aload 4, 2) := by decide +kernel
theorem dL_acts_418 : decode cL_acts 418 = .ok (.invokestatic 60, 3) := by decide +kernel
theorem dL_acts_421 : decode cL_acts 421 = .ok (.ireturn, 1) := by decide +kernel
theorem dL_acts_422 : decode cL_acts 422 = .ok (.iload 10, 2) := by decide +kernel
theorem dL_acts_424 : decode cL_acts 424 = .ok (.bipush 18, 2) := by decide +kernel
theorem dL_acts_426 : decode cL_acts 426 = .ok (.if_icmp .ne 55, 3) := by decide +kernel
theorem dL_acts_429 : decode cL_acts 429 = .ok (.iload 9, 2) := by decide +kernel
theorem dL_acts_431 : decode cL_acts 431 = .ok (.iconst 2, 1) := by decide +kernel
theorem dL_acts_432 : decode cL_acts 432 = .ok (.irem, 1) := by decide +kernel
theorem dL_acts_433 : decode cL_acts 433 = .ok (.istore 11, 2) := by decide +kernel
theorem dL_acts_435 : decode cL_acts 435 = .ok (.aload_n 2, 1) := by decide +kernel
theorem dL_acts_436 : decode cL_acts 436 = .ok (.iconst 4, 1) := by decide +kernel
theorem dL_acts_437 : decode cL_acts 437 = .ok (.iload 11, 2) := by decide +kernel
theorem dL_acts_439 : decode cL_acts 439 = .ok (.imul, 1) := by decide +kernel
theorem dL_acts_440 : decode cL_acts 440 = .ok (.iaload, 1) := by decide +kernel
theorem dL_acts_441 : decode cL_acts 441 = .ok (.istore 12, 2) := by decide +kernel
theorem dL_acts_443 : decode cL_acts 443 = .ok (.aload_n 2, 1) := by decide +kernel
theorem dL_acts_444 : decode cL_acts 444 = .ok (.iconst 4, 1) := by decide +kernel
theorem dL_acts_445 : decode cL_acts 445 = .ok (.iload 11, 2) := by decide +kernel
theorem dL_acts_447 : decode cL_acts 447 = .ok (.imul, 1) := by decide +kernel
theorem dL_acts_448 : decode cL_acts 448 = .ok (.iconst 1, 1) := by decide +kernel
theorem dL_acts_449 : decode cL_acts 449 = .ok (.iload 9, 2) := by decide +kernel
theorem dL_acts_451 : decode cL_acts 451 = .ok (.iconst 2, 1) := by decide +kernel
theorem dL_acts_452 : decode cL_acts 452 = .ok (.idiv, 1) := by decide +kernel
theorem dL_acts_453 : decode cL_acts 453 = .ok (.bipush 60, 2) := by decide +kernel
theorem dL_acts_455 : decode cL_acts 455 = .ok (.irem, 1) := by decide +kernel
theorem dL_acts_456 : decode cL_acts 456 = .ok (.iadd, 1) := by decide +kernel
theorem dL_acts_457 : decode cL_acts 457 = .ok (.iastore, 1) := by decide +kernel
theorem dL_acts_458 : decode cL_acts 458 = .ok (.aload_n 0, 1) := by decide +kernel
theorem dL_acts_459 : decode cL_acts 459 = .ok (.iload 11, 2) := by decide +kernel
theorem dL_acts_461 : decode cL_acts 461 = .ok (.aload_n 2, 1) := by decide +kernel
theorem dL_acts_462 : decode cL_acts 462 = .ok (.iconst 4, 1) := by decide +kernel
theorem dL_acts_463 : decode cL_acts 463 = .ok (.iload 11, 2) := by decide +kernel
theorem dL_acts_465 : decode cL_acts 465 = .ok (.imul, 1) := by decide +kernel
theorem dL_acts_466 : decode cL_acts 466 = .ok (.iaload, 1) := by decide +kernel
theorem dL_acts_467 : decode cL_acts 467 = .ok (.invokevirtual 77, 3) := by decide +kernel
theorem dL_acts_470 : decode cL_acts 470 = .ok (.iload 12, 2) := by decide +kernel
theorem dL_acts_472 : decode cL_acts 472 = .ok (.if_icmp .ne 7, 3) := by decide +kernel
theorem dL_acts_475 : decode cL_acts 475 = .ok (.iconst 1, 1) := by decide +kernel
theorem dL_acts_476 : decode cL_acts 476 = .ok (.goto 4, 3) := by decide +kernel
theorem dL_acts_479 : decode cL_acts 479 = .ok (.iconst 0, 1) := by decide +kernel
theorem dL_acts_480 : decode cL_acts 480 = .ok (.ireturn, 1) := by decide +kernel
theorem dL_acts_481 : decode cL_acts 481 = .ok (.iload 10, 2) := by decide +kernel
theorem dL_acts_483 : decode cL_acts 483 = .ok (.bipush 21, 2) := by decide +kernel
theorem dL_acts_485 : decode cL_acts 485 = .ok (.if_icmp .ge 47, 3) := by decide +kernel
theorem dL_acts_488 : decode cL_acts 488 = .ok (.iconst 1, 1) := by decide +kernel
theorem dL_acts_489 : decode cL_acts 489 = .ok (.iload 9, 2) := by decide +kernel
theorem dL_acts_491 : decode cL_acts 491 = .ok (.iload 9, 2) := by decide +kernel
theorem dL_acts_493 : decode cL_acts 493 = .ok (.iconst 4, 1) := by decide +kernel
theorem dL_acts_494 : decode cL_acts 494 = .ok (.irem, 1) := by decide +kernel
theorem dL_acts_495 : decode cL_acts 495 = .ok (.ifCond .ne 9, 3) := by decide +kernel
theorem dL_acts_498 : decode cL_acts 498 = .ok (.sipush 999, 3) := by decide +kernel
theorem dL_acts_501 : decode cL_acts 501 = .ok (.goto 5, 3) := by decide +kernel
theorem dL_acts_504 : decode cL_acts 504 = .ok (.bipush 40, 2) := by decide +kernel
theorem dL_acts_506 : decode cL_acts 506 = .ok (.irem, 1) := by decide +kernel
theorem dL_acts_507 : decode cL_acts 507 = .ok (.iadd, 1) := by decide +kernel
theorem dL_acts_508 : decode cL_acts 508 = .ok (.istore 11, 2) := by decide +kernel
theorem dL_acts_510 : decode cL_acts 510 = .ok (.aload_n 0, 1) := by decide +kernel
theorem dL_acts_511 : decode cL_acts 511 = .ok (.iload 11, 2) := by decide +kernel
theorem dL_acts_513 : decode cL_acts 513 = .ok (.invokevirtual 80, 3) := by decide +kernel
theorem dL_acts_516 : decode cL_acts 516 = .ok (.aload_n 1, 1) := by decide +kernel
theorem dL_acts_517 : decode cL_acts 517 = .ok (.aload_n 2, 1) := by decide +kernel
theorem dL_acts_518 : decode cL_acts 518 = .ok (.iload 11, 2) := by decide +kernel
theorem dL_acts_520 : decode cL_acts 520 = .ok (.invokestatic 45, 3) := by decide +kernel
theorem dL_acts_523 : decode cL_acts 523 = .ok (.if_icmp .ne 7, 3) := by decide +kernel
theorem dL_acts_526 : decode cL_acts 526 = .ok (.iconst 1, 1) := by decide +kernel
theorem dL_acts_527 : decode cL_acts 527 = .ok (.goto 4, 3) := by decide +kernel
theorem dL_acts_530 : decode cL_acts 530 = .ok (.iconst 0, 1) := by decide +kernel
theorem dL_acts_531 : decode cL_acts 531 = .ok (.ireturn, 1) := by decide +kernel
theorem dL_acts_532 : decode cL_acts 532 = .ok (.iload 10, 2) := by decide +kernel
theorem dL_acts_534 : decode cL_acts 534 = .ok (.bipush 21, 2) := by decide +kernel
theorem dL_acts_536 : decode cL_acts 536 = .ok (.if_icmp .ne 67, 3) := by decide +kernel
theorem dL_acts_539 : decode cL_acts 539 = .ok (.aload_n 1, 1) := by decide +kernel
theorem dL_acts_540 : decode cL_acts 540 = .ok (.bipush 14, 2) := by decide +kernel
theorem dL_acts_542 : decode cL_acts 542 = .ok (.iaload, 1) := by decide +kernel
theorem dL_acts_543 : decode cL_acts 543 = .ok (.ifCond .ne 22, 3) := by decide +kernel
theorem dL_acts_546 : decode cL_acts 546 = .ok (.aload_n 0, 1) := by decide +kernel
theorem dL_acts_547 : decode cL_acts 547 = .ok (.iload 9, 2) := by decide +kernel
theorem dL_acts_549 : decode cL_acts 549 = .ok (.iconst 2, 1) := by decide +kernel
theorem dL_acts_550 : decode cL_acts 550 = .ok (.irem, 1) := by decide +kernel
theorem dL_acts_551 : decode cL_acts 551 = .ok (.invokevirtual 84, 3) := by decide +kernel
theorem dL_acts_554 : decode cL_acts 554 = .ok (.ldc 15, 2) := by decide +kernel
theorem dL_acts_556 : decode cL_acts 556 = .ok (.if_icmp .ne 7, 3) := by decide +kernel
theorem dL_acts_559 : decode cL_acts 559 = .ok (.iconst 1, 1) := by decide +kernel
theorem dL_acts_560 : decode cL_acts 560 = .ok (.goto 4, 3) := by decide +kernel
theorem dL_acts_563 : decode cL_acts 563 = .ok (.iconst 0, 1) := by decide +kernel
theorem dL_acts_564 : decode cL_acts 564 = .ok (.ireturn, 1) := by decide +kernel
theorem dL_acts_565 : decode cL_acts 565 = .ok (.aload_n 1, 1) := by decide +kernel
theorem dL_acts_566 : decode cL_acts 566 = .ok (.aload_n 2, 1) := by decide +kernel
theorem dL_acts_567 : decode cL_acts 567 = .ok (.iload 9, 2) := by decide +kernel
theorem dL_acts_569 : decode cL_acts 569 = .ok (.iconst 2, 1) := by decide +kernel
theorem dL_acts_570 : decode cL_acts 570 = .ok (.irem, 1) := by decide +kernel
theorem dL_acts_571 : decode cL_acts 571 = .ok (.aload 6, 2) := by decide +kernel
theorem dL_acts_573 : decode cL_acts 573 = .ok (.iconst 1, 1) := by decide +kernel
theorem dL_acts_574 : decode cL_acts 574 = .ok (.iaload, 1) := by decide +kernel
theorem dL_acts_575 : decode cL_acts 575 = .ok (.invokestatic 41, 3) := by decide +kernel
theorem dL_acts_578 : decode cL_acts 578 = .ok (.aload_n 0, 1) := by decide +kernel
theorem dL_acts_579 : decode cL_acts 579 = .ok (.iload 9, 2) := by decide +kernel
theorem dL_acts_581 : decode cL_acts 581 = .ok (.iconst 2, 1) := by decide +kernel
theorem dL_acts_582 : decode cL_acts 582 = .ok (.irem, 1) := by decide +kernel
theorem dL_acts_583 : decode cL_acts 583 = .ok (.invokevirtual 84, 3) := by decide +kernel
theorem dL_acts_586 : decode cL_acts 586 = .ok (.aload_n 2, 1) := by decide +kernel
theorem dL_acts_587 : decode cL_acts 587 = .ok (.iconst 4, 1) := by decide +kernel
theorem dL_acts_588 : decode cL_acts 588 = .ok (.iload 9, 2) := by decide +kernel
theorem dL_acts_590 : decode cL_acts 590 = .ok (.iconst 2, 1) := by decide +kernel
theorem dL_acts_591 : decode cL_acts 591 = .ok (.irem, 1) := by decide +kernel
theorem dL_acts_592 : decode cL_acts 592 = .ok (.imul, 1) := by decide +kernel
theorem dL_acts_593 : decode cL_acts 593 = .ok (.iaload, 1) := by decide +kernel
theorem dL_acts_594 : decode cL_acts 594 = .ok (.if_icmp .ne 7, 3) := by decide +kernel
theorem dL_acts_597 : decode cL_acts 597 = .ok (.iconst 1, 1) := by decide +kernel
theorem dL_acts_598 : decode cL_acts 598 = .ok (.goto 4, 3) := by decide +kernel
theorem dL_acts_601 : decode cL_acts 601 = .ok (.iconst 0, 1) := by decide +kernel
theorem dL_acts_602 : decode cL_acts 602 = .ok (.ireturn, 1) := by decide +kernel
theorem dL_acts_603 : decode cL_acts 603 = .ok (.iload 9, 2) := by decide +kernel
theorem dL_acts_605 : decode cL_acts 605 = .ok (.bipush 6, 2) := by decide +kernel
theorem dL_acts_607 : decode cL_acts 607 = .ok (.irem, 1) := by decide +kernel
theorem dL_acts_608 : decode cL_acts 608 = .ok (.istore 11, 2) := by decide +kernel
theorem dL_acts_610 : decode cL_acts 610 = .ok (.aload_n 1, 1) := by decide +kernel
theorem dL_acts_611 : decode cL_acts 611 = .ok (.bipush 7, 2) := by decide +kernel
theorem dL_acts_613 : decode cL_acts 613 = .ok (.iload 11, 2) := by decide +kernel
theorem dL_acts_615 : decode cL_acts 615 = .ok (.iadd, 1) := by decide +kernel
theorem dL_acts_616 : decode cL_acts 616 = .ok (.iaload, 1) := by decide +kernel
theorem dL_acts_617 : decode cL_acts 617 = .ok (.istore 12, 2) := by decide +kernel
theorem dL_acts_619 : decode cL_acts 619 = .ok (.aload_n 1, 1) := by decide +kernel
theorem dL_acts_620 : decode cL_acts 620 = .ok (.bipush 7, 2) := by decide +kernel
theorem dL_acts_622 : decode cL_acts 622 = .ok (.iload 11, 2) := by decide +kernel
theorem dL_acts_624 : decode cL_acts 624 = .ok (.iadd, 1) := by decide +kernel
theorem dL_acts_625 : decode cL_acts 625 = .ok (.iload 11, 2) := by decide +kernel
theorem dL_acts_627 : decode cL_acts 627 = .ok (.ifCond .ne 18, 3) := by decide +kernel
theorem dL_acts_630 : decode cL_acts 630 = .ok (.bipush 100, 2) := by decide +kernel
theorem dL_acts_632 : decode cL_acts 632 = .ok (.iload 9, 2) := by decide +kernel
theorem dL_acts_634 : decode cL_acts 634 = .ok (.bipush 6, 2) := by decide +kernel
theorem dL_acts_636 : decode cL_acts 636 = .ok (.idiv, 1) := by decide +kernel
theorem dL_acts_637 : decode cL_acts 637 = .ok (.sipush 501, 3) := by decide +kernel
theorem dL_acts_640 : decode cL_acts 640 = .ok (.irem, 1) := by decide +kernel
theorem dL_acts_641 : decode cL_acts 641 = .ok (.iadd, 1) := by decide +kernel
theorem dL_acts_642 : decode cL_acts 642 = .ok (.goto 66, 3) := by decide +kernel
theorem dL_acts_645 : decode cL_acts 645 = .ok (.iload 11, 2) := by decide +kernel
theorem dL_acts_647 : decode cL_acts 647 = .ok (.iconst 1, 1) := by decide +kernel
theorem dL_acts_648 : decode cL_acts 648 = .ok (.if_icmp .ne 15, 3) := by decide +kernel
theorem dL_acts_651 : decode cL_acts 651 = .ok (.iload 9, 2) := by decide +kernel
theorem dL_acts_653 : decode cL_acts 653 = .ok (.bipush 6, 2) := by decide +kernel
theorem dL_acts_655 : decode cL_acts 655 = .ok (.idiv, 1) := by decide +kernel
theorem dL_acts_656 : decode cL_acts 656 = .ok (.sipush 201, 3) := by decide +kernel
theorem dL_acts_659 : decode cL_acts 659 = .ok (.irem, 1) := by decide +kernel
theorem dL_acts_660 : decode cL_acts 660 = .ok (.goto 48, 3) := by decide +kernel
theorem dL_acts_663 : decode cL_acts 663 = .ok (.iload 11, 2) := by decide +kernel
theorem dL_acts_665 : decode cL_acts 665 = .ok (.iconst 2, 1) := by decide +kernel
theorem dL_acts_666 : decode cL_acts 666 = .ok (.if_icmp .ne 14, 3) := by decide +kernel
theorem dL_acts_669 : decode cL_acts 669 = .ok (.iload 9, 2) := by decide +kernel
theorem dL_acts_671 : decode cL_acts 671 = .ok (.bipush 6, 2) := by decide +kernel
theorem dL_acts_673 : decode cL_acts 673 = .ok (.idiv, 1) := by decide +kernel
theorem dL_acts_674 : decode cL_acts 674 = .ok (.bipush 101, 2) := by decide +kernel
theorem dL_acts_676 : decode cL_acts 676 = .ok (.irem, 1) := by decide +kernel
theorem dL_acts_677 : decode cL_acts 677 = .ok (.goto 31, 3) := by decide +kernel
theorem dL_acts_680 : decode cL_acts 680 = .ok (.iload 11, 2) := by decide +kernel
theorem dL_acts_682 : decode cL_acts 682 = .ok (.iconst 5, 1) := by decide +kernel
theorem dL_acts_683 : decode cL_acts 683 = .ok (.if_icmp .ge 18, 3) := by decide +kernel
theorem dL_acts_686 : decode cL_acts 686 = .ok (.bipush 30, 2) := by decide +kernel
theorem dL_acts_688 : decode cL_acts 688 = .ok (.iload 9, 2) := by decide +kernel
theorem dL_acts_690 : decode cL_acts 690 = .ok (.bipush 6, 2) := by decide +kernel
theorem dL_acts_692 : decode cL_acts 692 = .ok (.idiv, 1) := by decide +kernel
theorem dL_acts_693 : decode cL_acts 693 = .ok (.sipush 271, 3) := by decide +kernel
theorem dL_acts_696 : decode cL_acts 696 = .ok (.irem, 1) := by decide +kernel
theorem dL_acts_697 : decode cL_acts 697 = .ok (.iadd, 1) := by decide +kernel
theorem dL_acts_698 : decode cL_acts 698 = .ok (.goto 10, 3) := by decide +kernel
theorem dL_acts_701 : decode cL_acts 701 = .ok (.iload 9, 2) := by decide +kernel
theorem dL_acts_703 : decode cL_acts 703 = .ok (.bipush 6, 2) := by decide +kernel
theorem dL_acts_705 : decode cL_acts 705 = .ok (.idiv, 1) := by decide +kernel
theorem dL_acts_706 : decode cL_acts 706 = .ok (.iconst 2, 1) := by decide +kernel
theorem dL_acts_707 : decode cL_acts 707 = .ok (.irem, 1) := by decide +kernel
theorem dL_acts_708 : decode cL_acts 708 = .ok (.iastore, 1) := by decide +kernel
theorem dL_acts_709 : decode cL_acts 709 = .ok (.aload_n 0, 1) := by decide +kernel
theorem dL_acts_710 : decode cL_acts 710 = .ok (.iload 11, 2) := by decide +kernel
theorem dL_acts_712 : decode cL_acts 712 = .ok (.aload_n 1, 1) := by decide +kernel
theorem dL_acts_713 : decode cL_acts 713 = .ok (.bipush 7, 2) := by decide +kernel
theorem dL_acts_715 : decode cL_acts 715 = .ok (.iload 11, 2) := by decide +kernel
theorem dL_acts_717 : decode cL_acts 717 = .ok (.iadd, 1) := by decide +kernel
theorem dL_acts_718 : decode cL_acts 718 = .ok (.iaload, 1) := by decide +kernel
theorem dL_acts_719 : decode cL_acts 719 = .ok (.invokevirtual 86, 3) := by decide +kernel
theorem dL_acts_722 : decode cL_acts 722 = .ok (.iload 12, 2) := by decide +kernel
theorem dL_acts_724 : decode cL_acts 724 = .ok (.if_icmp .ne 7, 3) := by decide +kernel
theorem dL_acts_727 : decode cL_acts 727 = .ok (.iconst 1, 1) := by decide +kernel
theorem dL_acts_728 : decode cL_acts 728 = .ok (.goto 4, 3) := by decide +kernel
theorem dL_acts_731 : decode cL_acts 731 = .ok (.iconst 0, 1) := by decide +kernel
theorem dL_acts_732 : decode cL_acts 732 = .ok (.ireturn, 1) := by decide +kernel
set_option maxRecDepth 20000 in
theorem ggL_arePortions_X7_portionOf : GoodIn wsL_arePortions wsX7_portionOf := goodIn_r _ [7, 8, 9, 10, 11, 6, 12, 13, 14, 15, 16, 17, 18, 19, 20, 21, 22, 23, 24, 25, 26, 27, 28, 29, 30, 31, 32, 33, 34, 35, 36, 37, 38, 39, 40, 41, 42, 43, 44, 45, 46, 47, 86, 87, 88, 89, 90, 91, 92, 93, 94, 95, 96, 97, 98, 99, 100, 101, 102, 103, 104, 105, 106] rfl (by decide +kernel)
set_option maxRecDepth 20000 in
theorem gL_arePortions_X7_portionOf : GoodIn wsL_arePortions (wsV RL 89 RX7 yX7_portionOf wsX7_portionOf) := goodIn_app (goodIn_of _ (by decide +kernel)) ggL_arePortions_X7_portionOf
set_option maxRecDepth 20000 in
theorem ggL_arePortions_L_flow : GoodIn wsL_arePortions wsL_flow := goodIn_r _ [51] rfl (by decide +kernel)
set_option maxRecDepth 20000 in
theorem gL_arePortions_L_flow : GoodIn wsL_arePortions (va_wsS RL 25 yL_flow wsL_flow) := goodIn_app (goodIn_of _ (by decide +kernel)) ggL_arePortions_L_flow
set_option maxRecDepth 20000 in
theorem ggL_arePortions_X7_count : GoodIn wsL_arePortions wsX7_count := goodIn_r _ [55, 56, 57, 9, 58, 59, 60, 16, 61, 62, 63, 64, 65, 66, 67, 68, 69, 70, 71, 72, 73, 74, 75, 76, 77, 78, 79, 80, 81, 45, 82, 86, 87, 88, 89, 107, 108, 109, 110, 111, 112, 113, 114, 115, 116, 117, 118, 119, 120, 121, 90, 91, 92, 93, 94, 95, 96, 97, 98, 99, 100, 101, 102, 103, 104, 105, 106, 122, 123, 124, 125] rfl (by decide +kernel)
set_option maxRecDepth 20000 in
theorem gL_arePortions_X7_count : GoodIn wsL_arePortions (wsV RL 95 RX7 yX7_count wsX7_count) := goodIn_app (goodIn_of _ (by decide +kernel)) ggL_arePortions_X7_count
set_option maxRecDepth 20000 in
theorem ggL_arePortions_L_amounts : GoodIn wsL_arePortions wsL_amounts := goodIn_r _ [85] rfl (by decide +kernel)
set_option maxRecDepth 20000 in
theorem gL_arePortions_L_amounts : GoodIn wsL_arePortions (va_wsS RL 16 yL_amounts wsL_amounts) := goodIn_app (goodIn_of _ (by decide +kernel)) ggL_arePortions_L_amounts
theorem dL_arePortions_0 : decode cL_arePortions 0 = .ok (.iconst 1, 1) := by decide +kernel
theorem dL_arePortions_1 : decode cL_arePortions 1 = .ok (.istore 4, 2) := by decide +kernel
theorem dL_arePortions_3 : decode cL_arePortions 3 = .ok (.iconst 0, 1) := by decide +kernel
theorem dL_arePortions_4 : decode cL_arePortions 4 = .ok (.istore 5, 2) := by decide +kernel
theorem dL_arePortions_6 : decode cL_arePortions 6 = .ok (.iload 5, 2) := by decide +kernel
theorem dL_arePortions_8 : decode cL_arePortions 8 = .ok (.aload_n 3, 1) := by decide +kernel
theorem dL_arePortions_9 : decode cL_arePortions 9 = .ok (.iconst 0, 1) := by decide +kernel
theorem dL_arePortions_10 : decode cL_arePortions 10 = .ok (.iaload, 1) := by decide +kernel
theorem dL_arePortions_11 : decode cL_arePortions 11 = .ok (.if_icmp .ge 118, 3) := by decide +kernel
theorem dL_arePortions_14 : decode cL_arePortions 14 = .ok (.iload 4, 2) := by decide +kernel
theorem dL_arePortions_16 : decode cL_arePortions 16 = .ok (.ifCond .eq 113, 3) := by decide +kernel
theorem dL_arePortions_19 : decode cL_arePortions 19 = .ok (.aload_n 3, 1) := by decide +kernel
theorem dL_arePortions_20 : decode cL_arePortions 20 = .ok (.iload 5, 2) := by decide +kernel
theorem dL_arePortions_22 : decode cL_arePortions 22 = .ok (.iconst 1, 1) := by decide +kernel
theorem dL_arePortions_23 : decode cL_arePortions 23 = .ok (.iadd, 1) := by decide +kernel
theorem dL_arePortions_24 : decode cL_arePortions 24 = .ok (.iaload, 1) := by decide +kernel
theorem dL_arePortions_25 : decode cL_arePortions 25 = .ok (.istore 6, 2) := by decide +kernel
theorem dL_arePortions_27 : decode cL_arePortions 27 = .ok (.aload_n 0, 1) := by decide +kernel
theorem dL_arePortions_28 : decode cL_arePortions 28 = .ok (.iload_n 2, 1) := by decide +kernel
theorem dL_arePortions_29 : decode cL_arePortions 29 = .ok (.iload 5, 2) := by decide +kernel
theorem dL_arePortions_31 : decode cL_arePortions 31 = .ok (.iconst 0, 1) := by decide +kernel
theorem dL_arePortions_32 : decode cL_arePortions 32 = .ok (.invokevirtual 89, 3) := by decide +kernel
theorem dL_arePortions_35 : decode cL_arePortions 35 = .ok (.iload 6, 2) := by decide +kernel
theorem dL_arePortions_37 : decode cL_arePortions 37 = .ok (.sipush 1000, 3) := by decide +kernel
theorem dL_arePortions_40 : decode cL_arePortions 40 = .ok (.irem, 1) := by decide +kernel
theorem dL_arePortions_41 : decode cL_arePortions 41 = .ok (.if_icmp .ne 79, 3) := by decide +kernel
theorem dL_arePortions_44 : decode cL_arePortions 44 = .ok (.aload_n 0, 1) := by decide +kernel
theorem dL_arePortions_45 : decode cL_arePortions 45 = .ok (.iload_n 2, 1) := by decide +kernel
theorem dL_arePortions_46 : decode cL_arePortions 46 = .ok (.iload 5, 2) := by decide +kernel
theorem dL_arePortions_48 : decode cL_arePortions 48 = .ok (.iconst 1, 1) := by decide +kernel
theorem dL_arePortions_49 : decode cL_arePortions 49 = .ok (.invokevirtual 89, 3) := by decide +kernel
theorem dL_arePortions_52 : decode cL_arePortions 52 = .ok (.iload 6, 2) := by decide +kernel
theorem dL_arePortions_54 : decode cL_arePortions 54 = .ok (.sipush 1000, 3) := by decide +kernel
theorem dL_arePortions_57 : decode cL_arePortions 57 = .ok (.idiv, 1) := by decide +kernel
theorem dL_arePortions_58 : decode cL_arePortions 58 = .ok (.iconst 2, 1) := by decide +kernel
theorem dL_arePortions_59 : decode cL_arePortions 59 = .ok (.irem, 1) := by decide +kernel
theorem dL_arePortions_60 : decode cL_arePortions 60 = .ok (.if_icmp .ne 60, 3) := by decide +kernel
theorem dL_arePortions_63 : decode cL_arePortions 63 = .ok (.aload_n 0, 1) := by decide +kernel
theorem dL_arePortions_64 : decode cL_arePortions 64 = .ok (.iload_n 2, 1) := by decide +kernel
theorem dL_arePortions_65 : decode cL_arePortions 65 = .ok (.iload 5, 2) := by decide +kernel
theorem dL_arePortions_67 : decode cL_arePortions 67 = .ok (.iconst 2, 1) := by decide +kernel
theorem dL_arePortions_68 : decode cL_arePortions 68 = .ok (.invokevirtual 89, 3) := by decide +kernel
theorem dL_arePortions_71 : decode cL_arePortions 71 = .ok (.iload 6, 2) := by decide +kernel
theorem dL_arePortions_73 : decode cL_arePortions 73 = .ok (.sipush 2000, 3) := by decide +kernel
theorem dL_arePortions_76 : decode cL_arePortions 76 = .ok (.idiv, 1) := by decide +kernel
theorem dL_arePortions_77 : decode cL_arePortions 77 = .ok (.iconst 2, 1) := by decide +kernel
theorem dL_arePortions_78 : decode cL_arePortions 78 = .ok (.irem, 1) := by decide +kernel
theorem dL_arePortions_79 : decode cL_arePortions 79 = .ok (.if_icmp .ne 41, 3) := by decide +kernel
theorem dL_arePortions_82 : decode cL_arePortions 82 = .ok (.aload_n 0, 1) := by decide +kernel
theorem dL_arePortions_83 : decode cL_arePortions 83 = .ok (.iload_n 2, 1) := by decide +kernel
theorem dL_arePortions_84 : decode cL_arePortions 84 = .ok (.iload 5, 2) := by decide +kernel
theorem dL_arePortions_86 : decode cL_arePortions 86 = .ok (.iconst 3, 1) := by decide +kernel
theorem dL_arePortions_87 : decode cL_arePortions 87 = .ok (.invokevirtual 89, 3) := by decide +kernel
theorem dL_arePortions_90 : decode cL_arePortions 90 = .ok (.iload 6, 2) := by decide +kernel
theorem dL_arePortions_92 : decode cL_arePortions 92 = .ok (.sipush 4000, 3) := by decide +kernel
theorem dL_arePortions_95 : decode cL_arePortions 95 = .ok (.idiv, 1) := by decide +kernel
theorem dL_arePortions_96 : decode cL_arePortions 96 = .ok (.if_icmp .ne 24, 3) := by decide +kernel
theorem dL_arePortions_99 : decode cL_arePortions 99 = .ok (.aload_n 0, 1) := by decide +kernel
theorem dL_arePortions_100 : decode cL_arePortions 100 = .ok (.iload_n 2, 1) := by decide +kernel
theorem dL_arePortions_101 : decode cL_arePortions 101 = .ok (.iload 5, 2) := by decide +kernel
theorem dL_arePortions_103 : decode cL_arePortions 103 = .ok (.iconst 4, 1) := by decide +kernel
theorem dL_arePortions_104 : decode cL_arePortions 104 = .ok (.invokevirtual 89, 3) := by decide +kernel
theorem dL_arePortions_107 : decode cL_arePortions 107 = .ok (.aload_n 1, 1) := by decide +kernel
theorem dL_arePortions_108 : decode cL_arePortions 108 = .ok (.iload 6, 2) := by decide +kernel
theorem dL_arePortions_110 : decode cL_arePortions 110 = .ok (.invokestatic 25, 3) := by decide +kernel
theorem dL_arePortions_113 : decode cL_arePortions 113 = .ok (.if_icmp .ne 7, 3) := by decide +kernel
theorem dL_arePortions_116 : decode cL_arePortions 116 = .ok (.iconst 1, 1) := by decide +kernel
theorem dL_arePortions_117 : decode cL_arePortions 117 = .ok (.goto 4, 3) := by decide +kernel
theorem dL_arePortions_120 : decode cL_arePortions 120 = .ok (.iconst 0, 1) := by decide +kernel
theorem dL_arePortions_121 : decode cL_arePortions 121 = .ok (.istore 4, 2) := by decide +kernel
theorem dL_arePortions_123 : decode cL_arePortions 123 = .ok (.iinc 5 1, 3) := by decide +kernel
theorem dL_arePortions_126 : decode cL_arePortions 126 = .ok (.goto (-120), 3) := by decide +kernel
theorem dL_arePortions_129 : decode cL_arePortions 129 = .ok (.iload 4, 2) := by decide +kernel
theorem dL_arePortions_131 : decode cL_arePortions 131 = .ok (.ifCond .eq 48, 3) := by decide +kernel
theorem dL_arePortions_134 : decode cL_arePortions 134 = .ok (.aload_n 0, 1) := by decide +kernel
theorem dL_arePortions_135 : decode cL_arePortions 135 = .ok (.iload_n 2, 1) := by decide +kernel
theorem dL_arePortions_136 : decode cL_arePortions 136 = .ok (.aload_n 3, 1) := by decide +kernel
theorem dL_arePortions_137 : decode cL_arePortions 137 = .ok (.iconst 0, 1) := by decide +kernel
theorem dL_arePortions_138 : decode cL_arePortions 138 = .ok (.iaload, 1) := by decide +kernel
theorem dL_arePortions_139 : decode cL_arePortions 139 = .ok (.iconst 0, 1) := by decide +kernel
theorem dL_arePortions_140 : decode cL_arePortions 140 = .ok (.invokevirtual 89, 3) := by decide +kernel
theorem dL_arePortions_143 : decode cL_arePortions 143 = .ok (.ldc 93, 2) := by decide +kernel
theorem dL_arePortions_145 : decode cL_arePortions 145 = .ok (.if_icmp .ne 34, 3) := by decide +kernel
theorem dL_arePortions_148 : decode cL_arePortions 148 = .ok (.aload_n 0, 1) := by decide +kernel
theorem dL_arePortions_149 : decode cL_arePortions 149 = .ok (.iload_n 2, 1) := by decide +kernel
theorem dL_arePortions_150 : decode cL_arePortions 150 = .ok (.iconst 0, 1) := by decide +kernel
theorem dL_arePortions_151 : decode cL_arePortions 151 = .ok (.iconst 5, 1) := by decide +kernel
theorem dL_arePortions_152 : decode cL_arePortions 152 = .ok (.invokevirtual 89, 3) := by decide +kernel
theorem dL_arePortions_155 : decode cL_arePortions 155 = .ok (.ldc 94, 2) := by decide +kernel
theorem dL_arePortions_157 : decode cL_arePortions 157 = .ok (.if_icmp .ne 22, 3) := by decide +kernel
theorem dL_arePortions_160 : decode cL_arePortions 160 = .ok (.aload_n 0, 1) := by decide +kernel
theorem dL_arePortions_161 : decode cL_arePortions 161 = .ok (.bipush 6, 2) := by decide +kernel
theorem dL_arePortions_163 : decode cL_arePortions 163 = .ok (.iload_n 2, 1) := by decide +kernel
theorem dL_arePortions_164 : decode cL_arePortions 164 = .ok (.iadd, 1) := by decide +kernel
theorem dL_arePortions_165 : decode cL_arePortions 165 = .ok (.invokevirtual 95, 3) := by decide +kernel
theorem dL_arePortions_168 : decode cL_arePortions 168 = .ok (.aload_n 3, 1) := by decide +kernel
theorem dL_arePortions_169 : decode cL_arePortions 169 = .ok (.invokestatic 16, 3) := by decide +kernel
theorem dL_arePortions_172 : decode cL_arePortions 172 = .ok (.if_icmp .ne 7, 3) := by decide +kernel
theorem dL_arePortions_175 : decode cL_arePortions 175 = .ok (.iconst 1, 1) := by decide +kernel
theorem dL_arePortions_176 : decode cL_arePortions 176 = .ok (.goto 4, 3) := by decide +kernel
theorem dL_arePortions_179 : decode cL_arePortions 179 = .ok (.iconst 0, 1) := by decide +kernel
theorem dL_arePortions_180 : decode cL_arePortions 180 = .ok (.ireturn, 1) := by decide +kernel
set_option maxRecDepth 20000 in
theorem ggL_isSo_L_arePortions : GoodIn wsL_isSo wsL_arePortions := goodIn_r _ [5, 1, 6, 7, 8, 9, 10, 11, 12, 13, 14, 15, 16, 17, 18, 19, 20, 21, 22, 23, 24, 25, 26, 27, 28, 29, 30, 31, 32, 33, 34, 35, 36, 37, 38, 39, 40, 41, 42, 43, 44, 45, 46, 47, 48, 49, 50, 51, 52, 53, 4, 54, 55, 56, 57, 58, 59, 60, 61, 62, 63, 64, 65, 66, 67, 68, 69, 70, 71, 72, 73, 74, 75, 76, 77, 78, 79, 80, 81, 82, 83, 84, 85, 86, 87, 88, 159, 160, 161, 162, 163, 164, 165, 166, 167, 168, 169, 170, 171, 172, 173, 174, 175, 176, 177, 178, 179, 180, 181, 182, 183, 184, 185, 186, 187, 188, 189, 190, 191, 192, 193, 194, 195, 196, 197, 198] rfl (by decide +kernel)
set_option maxRecDepth 20000 in
theorem gL_isSo_L_arePortions : GoodIn wsL_isSo (va_wsS RL 98 yL_arePortions wsL_arePortions) := goodIn_app (goodIn_of _ (by decide +kernel)) ggL_isSo_L_arePortions
set_option maxRecDepth 20000 in
theorem ggL_isSo_X7_burrOf : GoodIn wsL_isSo wsX7_burrOf := goodIn_r _ [92, 12, 13, 14, 15, 10, 16, 93, 94, 95, 20, 96, 97, 98, 99, 100, 101, 102, 103, 104, 105, 106, 107, 108, 109, 110, 111, 112, 113, 114, 115, 116, 117, 118, 119, 159, 160, 161, 162, 163, 164, 165, 166, 167, 168, 169, 170, 171, 172, 173, 174, 175, 199, 200, 201, 202] rfl (by decide +kernel)
set_option maxRecDepth 20000 in
theorem gL_isSo_X7_burrOf : GoodIn wsL_isSo (wsV RL 102 RX7 yX7_burrOf wsX7_burrOf) := goodIn_app (goodIn_of _ (by decide +kernel)) ggL_isSo_X7_burrOf
set_option maxRecDepth 20000 in
theorem ggL_isSo_L_gap : GoodIn wsL_isSo wsL_gap := goodIn_r _ [122] rfl (by decide +kernel)
set_option maxRecDepth 20000 in
theorem gL_isSo_L_gap : GoodIn wsL_isSo (va_wsS RL 21 yL_gap wsL_gap) := goodIn_app (goodIn_of _ (by decide +kernel)) ggL_isSo_L_gap
set_option maxRecDepth 20000 in
theorem ggL_isSo_X7_lotOf : GoodIn wsL_isSo wsX7_lotOf := goodIn_r _ [126, 12, 13, 127, 128, 129, 78, 130, 80, 131, 132, 24, 25, 26, 27, 28, 29, 133, 31, 32, 33, 34, 159, 160, 161, 162, 163, 164, 165, 166, 167, 168, 169, 170, 171, 172, 173, 174, 175, 198, 176, 177, 178, 179] rfl (by decide +kernel)
set_option maxRecDepth 20000 in
theorem gL_isSo_X7_lotOf : GoodIn wsL_isSo (wsV RL 105 RX7 yX7_lotOf wsX7_lotOf) := goodIn_app (goodIn_of _ (by decide +kernel)) ggL_isSo_X7_lotOf
set_option maxRecDepth 20000 in
theorem ggL_isSo_X7_shotOf : GoodIn wsL_isSo wsX7_shotOf := goodIn_r _ [137, 12, 13, 138, 139, 140, 141, 142, 143, 144, 145, 146, 147, 148, 149, 150, 151, 118, 152, 159, 160, 161, 162, 163, 164, 165, 166, 167, 168, 169, 170, 171, 172, 173, 174, 175, 195, 196, 197] rfl (by decide +kernel)
set_option maxRecDepth 20000 in
theorem gL_isSo_X7_shotOf : GoodIn wsL_isSo (wsV RL 108 RX7 yX7_shotOf wsX7_shotOf) := goodIn_app (goodIn_of _ (by decide +kernel)) ggL_isSo_X7_shotOf
set_option maxRecDepth 20000 in
theorem ggL_isSo_L_away : GoodIn wsL_isSo wsL_away := goodIn_r _ [155] rfl (by decide +kernel)
set_option maxRecDepth 20000 in
theorem gL_isSo_L_away : GoodIn wsL_isSo (va_wsS RL 38 yL_away wsL_away) := goodIn_app (goodIn_of _ (by decide +kernel)) ggL_isSo_L_away
set_option maxRecDepth 20000 in
theorem ggL_isSo_X7_count : GoodIn wsL_isSo wsX7_count := goodIn_r _ [58, 59, 60, 13, 61, 62, 63, 20, 64, 65, 66, 67, 68, 69, 70, 71, 72, 73, 74, 75, 76, 77, 78, 79, 80, 81, 82, 83, 84, 49, 85, 159, 160, 161, 162, 180, 181, 182, 183, 184, 185, 186, 187, 188, 189, 190, 191, 192, 193, 194, 163, 164, 165, 166, 167, 168, 169, 170, 171, 172, 173, 174, 175, 176, 177, 178, 179, 195, 196, 197, 198] rfl (by decide +kernel)
set_option maxRecDepth 20000 in
theorem gL_isSo_X7_count : GoodIn wsL_isSo (wsV RL 95 RX7 yX7_count wsX7_count) := goodIn_app (goodIn_of _ (by decide +kernel)) ggL_isSo_X7_count
set_option maxRecDepth 20000 in
theorem ggL_isSo_L_hopper : GoodIn wsL_isSo wsL_hopper := goodIn_r _ [158] rfl (by decide +kernel)
set_option maxRecDepth 20000 in
theorem gL_isSo_L_hopper : GoodIn wsL_isSo (va_wsS RL 9 yL_hopper wsL_hopper) := goodIn_app (goodIn_of _ (by decide +kernel)) ggL_isSo_L_hopper
theorem dL_isSo_0 : decode cL_isSo 0 = .ok (.aload_n 0, 1) := by decide +kernel
theorem dL_isSo_1 : decode cL_isSo 1 = .ok (.aload_n 1, 1) := by decide +kernel
theorem dL_isSo_2 : decode cL_isSo 2 = .ok (.iconst 0, 1) := by decide +kernel
theorem dL_isSo_3 : decode cL_isSo 3 = .ok (.aload 4, 2) := by decide +kernel
theorem dL_isSo_5 : decode cL_isSo 5 = .ok (.invokestatic 98, 3) := by decide +kernel
theorem dL_isSo_8 : decode cL_isSo 8 = .ok (.ifCond .eq 18, 3) := by decide +kernel
theorem dL_isSo_11 : decode cL_isSo 11 = .ok (.aload_n 0, 1) := by decide +kernel
theorem dL_isSo_12 : decode cL_isSo 12 = .ok (.aload_n 1, 1) := by decide +kernel
theorem dL_isSo_13 : decode cL_isSo 13 = .ok (.iconst 1, 1) := by decide +kernel
theorem dL_isSo_14 : decode cL_isSo 14 = .ok (.aload 5, 2) := by decide +kernel
theorem dL_isSo_16 : decode cL_isSo 16 = .ok (.invokestatic 98, 3) := by decide +kernel
theorem dL_isSo_19 : decode cL_isSo 19 = .ok (.ifCond .eq 7, 3) := by decide +kernel
theorem dL_isSo_22 : decode cL_isSo 22 = .ok (.iconst 1, 1) := by decide +kernel
theorem dL_isSo_23 : decode cL_isSo 23 = .ok (.goto 4, 3) := by decide +kernel
theorem dL_isSo_26 : decode cL_isSo 26 = .ok (.iconst 0, 1) := by decide +kernel
theorem dL_isSo_27 : decode cL_isSo 27 = .ok (.istore 8, 2) := by decide +kernel
theorem dL_isSo_29 : decode cL_isSo 29 = .ok (.iconst 0, 1) := by decide +kernel
theorem dL_isSo_30 : decode cL_isSo 30 = .ok (.istore 9, 2) := by decide +kernel
theorem dL_isSo_32 : decode cL_isSo 32 = .ok (.iload 9, 2) := by decide +kernel
theorem dL_isSo_34 : decode cL_isSo 34 = .ok (.iconst 2, 1) := by decide +kernel
theorem dL_isSo_35 : decode cL_isSo 35 = .ok (.if_icmp .ge 118, 3) := by decide +kernel
theorem dL_isSo_38 : decode cL_isSo 38 = .ok (.iload 8, 2) := by decide +kernel
theorem dL_isSo_40 : decode cL_isSo 40 = .ok (.ifCond .eq 113, 3) := by decide +kernel
theorem dL_isSo_43 : decode cL_isSo 43 = .ok (.aload_n 0, 1) := by decide +kernel
theorem dL_isSo_44 : decode cL_isSo 44 = .ok (.iload 9, 2) := by decide +kernel
theorem dL_isSo_46 : decode cL_isSo 46 = .ok (.iconst 0, 1) := by decide +kernel
theorem dL_isSo_47 : decode cL_isSo 47 = .ok (.invokevirtual 102, 3) := by decide +kernel
theorem dL_isSo_50 : decode cL_isSo 50 = .ok (.aload_n 2, 1) := by decide +kernel
theorem dL_isSo_51 : decode cL_isSo 51 = .ok (.iconst 4, 1) := by decide +kernel
theorem dL_isSo_52 : decode cL_isSo 52 = .ok (.iload 9, 2) := by decide +kernel
theorem dL_isSo_54 : decode cL_isSo 54 = .ok (.imul, 1) := by decide +kernel
theorem dL_isSo_55 : decode cL_isSo 55 = .ok (.iaload, 1) := by decide +kernel
theorem dL_isSo_56 : decode cL_isSo 56 = .ok (.if_icmp .ne 88, 3) := by decide +kernel
theorem dL_isSo_59 : decode cL_isSo 59 = .ok (.aload_n 0, 1) := by decide +kernel
theorem dL_isSo_60 : decode cL_isSo 60 = .ok (.iload 9, 2) := by decide +kernel
theorem dL_isSo_62 : decode cL_isSo 62 = .ok (.iconst 1, 1) := by decide +kernel
theorem dL_isSo_63 : decode cL_isSo 63 = .ok (.invokevirtual 102, 3) := by decide +kernel
theorem dL_isSo_66 : decode cL_isSo 66 = .ok (.aload_n 2, 1) := by decide +kernel
theorem dL_isSo_67 : decode cL_isSo 67 = .ok (.iconst 4, 1) := by decide +kernel
theorem dL_isSo_68 : decode cL_isSo 68 = .ok (.iload 9, 2) := by decide +kernel
theorem dL_isSo_70 : decode cL_isSo 70 = .ok (.imul, 1) := by decide +kernel
theorem dL_isSo_71 : decode cL_isSo 71 = .ok (.iconst 1, 1) := by decide +kernel
theorem dL_isSo_72 : decode cL_isSo 72 = .ok (.iadd, 1) := by decide +kernel
theorem dL_isSo_73 : decode cL_isSo 73 = .ok (.iaload, 1) := by decide +kernel
theorem dL_isSo_74 : decode cL_isSo 74 = .ok (.if_icmp .ne 70, 3) := by decide +kernel
theorem dL_isSo_77 : decode cL_isSo 77 = .ok (.aload_n 0, 1) := by decide +kernel
theorem dL_isSo_78 : decode cL_isSo 78 = .ok (.iload 9, 2) := by decide +kernel
theorem dL_isSo_80 : decode cL_isSo 80 = .ok (.iconst 2, 1) := by decide +kernel
theorem dL_isSo_81 : decode cL_isSo 81 = .ok (.invokevirtual 102, 3) := by decide +kernel
theorem dL_isSo_84 : decode cL_isSo 84 = .ok (.aload_n 2, 1) := by decide +kernel
theorem dL_isSo_85 : decode cL_isSo 85 = .ok (.iconst 4, 1) := by decide +kernel
theorem dL_isSo_86 : decode cL_isSo 86 = .ok (.iload 9, 2) := by decide +kernel
theorem dL_isSo_88 : decode cL_isSo 88 = .ok (.imul, 1) := by decide +kernel
theorem dL_isSo_89 : decode cL_isSo 89 = .ok (.iaload, 1) := by decide +kernel
theorem dL_isSo_90 : decode cL_isSo 90 = .ok (.aload_n 2, 1) := by decide +kernel
theorem dL_isSo_91 : decode cL_isSo 91 = .ok (.iconst 4, 1) := by decide +kernel
theorem dL_isSo_92 : decode cL_isSo 92 = .ok (.iload 9, 2) := by decide +kernel
theorem dL_isSo_94 : decode cL_isSo 94 = .ok (.imul, 1) := by decide +kernel
theorem dL_isSo_95 : decode cL_isSo 95 = .ok (.iconst 1, 1) := by decide +kernel
theorem dL_isSo_96 : decode cL_isSo 96 = .ok (.iadd, 1) := by decide +kernel
theorem dL_isSo_97 : decode cL_isSo 97 = .ok (.iaload, 1) := by decide +kernel
theorem dL_isSo_98 : decode cL_isSo 98 = .ok (.invokestatic 21, 3) := by decide +kernel
theorem dL_isSo_101 : decode cL_isSo 101 = .ok (.if_icmp .ne 43, 3) := by decide +kernel
theorem dL_isSo_104 : decode cL_isSo 104 = .ok (.aload_n 0, 1) := by decide +kernel
theorem dL_isSo_105 : decode cL_isSo 105 = .ok (.iload 9, 2) := by decide +kernel
theorem dL_isSo_107 : decode cL_isSo 107 = .ok (.iconst 3, 1) := by decide +kernel
theorem dL_isSo_108 : decode cL_isSo 108 = .ok (.invokevirtual 102, 3) := by decide +kernel
theorem dL_isSo_111 : decode cL_isSo 111 = .ok (.aload_n 2, 1) := by decide +kernel
theorem dL_isSo_112 : decode cL_isSo 112 = .ok (.iconst 4, 1) := by decide +kernel
theorem dL_isSo_113 : decode cL_isSo 113 = .ok (.iload 9, 2) := by decide +kernel
theorem dL_isSo_115 : decode cL_isSo 115 = .ok (.imul, 1) := by decide +kernel
theorem dL_isSo_116 : decode cL_isSo 116 = .ok (.iconst 2, 1) := by decide +kernel
theorem dL_isSo_117 : decode cL_isSo 117 = .ok (.iadd, 1) := by decide +kernel
theorem dL_isSo_118 : decode cL_isSo 118 = .ok (.iaload, 1) := by decide +kernel
theorem dL_isSo_119 : decode cL_isSo 119 = .ok (.if_icmp .ne 25, 3) := by decide +kernel
theorem dL_isSo_122 : decode cL_isSo 122 = .ok (.aload_n 0, 1) := by decide +kernel
theorem dL_isSo_123 : decode cL_isSo 123 = .ok (.iload 9, 2) := by decide +kernel
theorem dL_isSo_125 : decode cL_isSo 125 = .ok (.iconst 4, 1) := by decide +kernel
theorem dL_isSo_126 : decode cL_isSo 126 = .ok (.invokevirtual 102, 3) := by decide +kernel
theorem dL_isSo_129 : decode cL_isSo 129 = .ok (.aload_n 2, 1) := by decide +kernel
theorem dL_isSo_130 : decode cL_isSo 130 = .ok (.iconst 4, 1) := by decide +kernel
theorem dL_isSo_131 : decode cL_isSo 131 = .ok (.iload 9, 2) := by decide +kernel
theorem dL_isSo_133 : decode cL_isSo 133 = .ok (.imul, 1) := by decide +kernel
theorem dL_isSo_134 : decode cL_isSo 134 = .ok (.iconst 3, 1) := by decide +kernel
theorem dL_isSo_135 : decode cL_isSo 135 = .ok (.iadd, 1) := by decide +kernel
theorem dL_isSo_136 : decode cL_isSo 136 = .ok (.iaload, 1) := by decide +kernel
theorem dL_isSo_137 : decode cL_isSo 137 = .ok (.if_icmp .ne 7, 3) := by decide +kernel
theorem dL_isSo_140 : decode cL_isSo 140 = .ok (.iconst 1, 1) := by decide +kernel
theorem dL_isSo_141 : decode cL_isSo 141 = .ok (.goto 4, 3) := by decide +kernel
theorem dL_isSo_144 : decode cL_isSo 144 = .ok (.iconst 0, 1) := by decide +kernel
theorem dL_isSo_145 : decode cL_isSo 145 = .ok (.istore 8, 2) := by decide +kernel
theorem dL_isSo_147 : decode cL_isSo 147 = .ok (.iinc 9 1, 3) := by decide +kernel
theorem dL_isSo_150 : decode cL_isSo 150 = .ok (.goto (-118), 3) := by decide +kernel
theorem dL_isSo_153 : decode cL_isSo 153 = .ok (.iconst 0, 1) := by decide +kernel
theorem dL_isSo_154 : decode cL_isSo 154 = .ok (.istore 9, 2) := by decide +kernel
theorem dL_isSo_156 : decode cL_isSo 156 = .ok (.iload 9, 2) := by decide +kernel
theorem dL_isSo_158 : decode cL_isSo 158 = .ok (.bipush 12, 2) := by decide +kernel
theorem dL_isSo_160 : decode cL_isSo 160 = .ok (.if_icmp .ge 56, 3) := by decide +kernel
theorem dL_isSo_163 : decode cL_isSo 163 = .ok (.iload 8, 2) := by decide +kernel
theorem dL_isSo_165 : decode cL_isSo 165 = .ok (.ifCond .eq 51, 3) := by decide +kernel
theorem dL_isSo_168 : decode cL_isSo 168 = .ok (.aload_n 0, 1) := by decide +kernel
theorem dL_isSo_169 : decode cL_isSo 169 = .ok (.iload 9, 2) := by decide +kernel
theorem dL_isSo_171 : decode cL_isSo 171 = .ok (.iconst 2, 1) := by decide +kernel
theorem dL_isSo_172 : decode cL_isSo 172 = .ok (.idiv, 1) := by decide +kernel
theorem dL_isSo_173 : decode cL_isSo 173 = .ok (.iload 9, 2) := by decide +kernel
theorem dL_isSo_175 : decode cL_isSo 175 = .ok (.iconst 2, 1) := by decide +kernel
theorem dL_isSo_176 : decode cL_isSo 176 = .ok (.irem, 1) := by decide +kernel
theorem dL_isSo_177 : decode cL_isSo 177 = .ok (.invokevirtual 105, 3) := by decide +kernel
theorem dL_isSo_180 : decode cL_isSo 180 = .ok (.iload 9, 2) := by decide +kernel
theorem dL_isSo_182 : decode cL_isSo 182 = .ok (.iconst 2, 1) := by decide +kernel
theorem dL_isSo_183 : decode cL_isSo 183 = .ok (.idiv, 1) := by decide +kernel
theorem dL_isSo_184 : decode cL_isSo 184 = .ok (.aload_n 1, 1) := by decide +kernel
theorem dL_isSo_185 : decode cL_isSo 185 = .ok (.bipush 13, 2) := by decide +kernel
theorem dL_isSo_187 : decode cL_isSo 187 = .ok (.iaload, 1) := by decide +kernel
theorem dL_isSo_188 : decode cL_isSo 188 = .ok (.if_icmp .ge 10, 3) := by decide +kernel
theorem dL_isSo_191 : decode cL_isSo 191 = .ok (.aload_n 3, 1) := by decide +kernel
theorem dL_isSo_192 : decode cL_isSo 192 = .ok (.iload 9, 2) := by decide +kernel
theorem dL_isSo_194 : decode cL_isSo 194 = .ok (.iaload, 1) := by decide +kernel
theorem dL_isSo_195 : decode cL_isSo 195 = .ok (.goto 5, 3) := by decide +kernel
theorem dL_isSo_198 : decode cL_isSo 198 = .ok (.ldc 93, 2) := by decide +kernel
theorem dL_isSo_200 : decode cL_isSo 200 = .ok (.if_icmp .ne 7, 3) := by decide +kernel
theorem dL_isSo_203 : decode cL_isSo 203 = .ok (.iconst 1, 1) := by decide +kernel
theorem dL_isSo_204 : decode cL_isSo 204 = .ok (.goto 4, 3) := by decide +kernel
theorem dL_isSo_207 : decode cL_isSo 207 = .ok (.iconst 0, 1) := by decide +kernel
theorem dL_isSo_208 : decode cL_isSo 208 = .ok (.istore 8, 2) := by decide +kernel
theorem dL_isSo_210 : decode cL_isSo 210 = .ok (.iinc 9 1, 3) := by decide +kernel
theorem dL_isSo_213 : decode cL_isSo 213 = .ok (.goto (-57), 3) := by decide +kernel
theorem dL_isSo_216 : decode cL_isSo 216 = .ok (.iconst 0, 1) := by decide +kernel
theorem dL_isSo_217 : decode cL_isSo 217 = .ok (.istore 9, 2) := by decide +kernel
theorem dL_isSo_219 : decode cL_isSo 219 = .ok (.iload 9, 2) := by decide +kernel
theorem dL_isSo_221 : decode cL_isSo 221 = .ok (.bipush 12, 2) := by decide +kernel
theorem dL_isSo_223 : decode cL_isSo 223 = .ok (.if_icmp .ge 271, 3) := by decide +kernel
theorem dL_isSo_226 : decode cL_isSo 226 = .ok (.iload 8, 2) := by decide +kernel
theorem dL_isSo_228 : decode cL_isSo 228 = .ok (.ifCond .eq 266, 3) := by decide +kernel
theorem dL_isSo_231 : decode cL_isSo 231 = .ok (.iload 9, 2) := by decide +kernel
theorem dL_isSo_233 : decode cL_isSo 233 = .ok (.aload_n 1, 1) := by decide +kernel
theorem dL_isSo_234 : decode cL_isSo 234 = .ok (.bipush 14, 2) := by decide +kernel
theorem dL_isSo_236 : decode cL_isSo 236 = .ok (.iaload, 1) := by decide +kernel
theorem dL_isSo_237 : decode cL_isSo 237 = .ok (.if_icmp .ge 7, 3) := by decide +kernel
theorem dL_isSo_240 : decode cL_isSo 240 = .ok (.iconst 1, 1) := by decide +kernel
theorem dL_isSo_241 : decode cL_isSo 241 = .ok (.goto 4, 3) := by decide +kernel
theorem dL_isSo_244 : decode cL_isSo 244 = .ok (.iconst 0, 1) := by decide +kernel
theorem dL_isSo_245 : decode cL_isSo 245 = .ok (.istore 10, 2) := by decide +kernel
theorem dL_isSo_247 : decode cL_isSo 247 = .ok (.aload_n 0, 1) := by decide +kernel
theorem dL_isSo_248 : decode cL_isSo 248 = .ok (.iload 9, 2) := by decide +kernel
theorem dL_isSo_250 : decode cL_isSo 250 = .ok (.iconst 0, 1) := by decide +kernel
theorem dL_isSo_251 : decode cL_isSo 251 = .ok (.invokevirtual 108, 3) := by decide +kernel
theorem dL_isSo_254 : decode cL_isSo 254 = .ok (.iload 10, 2) := by decide +kernel
theorem dL_isSo_256 : decode cL_isSo 256 = .ok (.ifCond .eq 13, 3) := by decide +kernel
theorem dL_isSo_259 : decode cL_isSo 259 = .ok (.aload 6, 2) := by decide +kernel
theorem dL_isSo_261 : decode cL_isSo 261 = .ok (.iconst 3, 1) := by decide +kernel
theorem dL_isSo_262 : decode cL_isSo 262 = .ok (.iload 9, 2) := by decide +kernel
theorem dL_isSo_264 : decode cL_isSo 264 = .ok (.imul, 1) := by decide +kernel
theorem dL_isSo_265 : decode cL_isSo 265 = .ok (.iaload, 1) := by decide +kernel
theorem dL_isSo_266 : decode cL_isSo 266 = .ok (.goto 5, 3) := by decide +kernel
theorem dL_isSo_269 : decode cL_isSo 269 = .ok (.ldc 93, 2) := by decide +kernel
theorem dL_isSo_271 : decode cL_isSo 271 = .ok (.if_icmp .ne 214, 3) := by decide +kernel
theorem dL_isSo_274 : decode cL_isSo 274 = .ok (.aload_n 0, 1) := by decide +kernel
theorem dL_isSo_275 : decode cL_isSo 275 = .ok (.iload 9, 2) := by decide +kernel
theorem dL_isSo_277 : decode cL_isSo 277 = .ok (.iconst 1, 1) := by decide +kernel
theorem dL_isSo_278 : decode cL_isSo 278 = .ok (.invokevirtual 108, 3) := by decide +kernel
theorem dL_isSo_281 : decode cL_isSo 281 = .ok (.iload 10, 2) := by decide +kernel
theorem dL_isSo_283 : decode cL_isSo 283 = .ok (.ifCond .eq 15, 3) := by decide +kernel
theorem dL_isSo_286 : decode cL_isSo 286 = .ok (.aload 6, 2) := by decide +kernel
theorem dL_isSo_288 : decode cL_isSo 288 = .ok (.iconst 3, 1) := by decide +kernel
theorem dL_isSo_289 : decode cL_isSo 289 = .ok (.iload 9, 2) := by decide +kernel
theorem dL_isSo_291 : decode cL_isSo 291 = .ok (.imul, 1) := by decide +kernel
theorem dL_isSo_292 : decode cL_isSo 292 = .ok (.iconst 1, 1) := by decide +kernel
theorem dL_isSo_293 : decode cL_isSo 293 = .ok (.iadd, 1) := by decide +kernel
theorem dL_isSo_294 : decode cL_isSo 294 = .ok (.iaload, 1) := by decide +kernel
theorem dL_isSo_295 : decode cL_isSo 295 = .ok (.goto 5, 3) := by decide +kernel
theorem dL_isSo_298 : decode cL_isSo 298 = .ok (.ldc 93, 2) := by decide +kernel
theorem dL_isSo_300 : decode cL_isSo 300 = .ok (.if_icmp .ne 185, 3) := by decide +kernel
theorem dL_isSo_303 : decode cL_isSo 303 = .ok (.aload_n 0, 1) := by decide +kernel
theorem dL_isSo_304 : decode cL_isSo 304 = .ok (.iload 9, 2) := by decide +kernel
theorem dL_isSo_306 : decode cL_isSo 306 = .ok (.iconst 2, 1) := by decide +kernel
theorem dL_isSo_307 : decode cL_isSo 307 = .ok (.invokevirtual 108, 3) := by decide +kernel
theorem dL_isSo_310 : decode cL_isSo 310 = .ok (.iload 10, 2) := by decide +kernel
theorem dL_isSo_312 : decode cL_isSo 312 = .ok (.ifCond .eq 15, 3) := by decide +kernel
theorem dL_isSo_315 : decode cL_isSo 315 = .ok (.aload 6, 2) := by decide +kernel
theorem dL_isSo_317 : decode cL_isSo 317 = .ok (.iconst 3, 1) := by decide +kernel
theorem dL_isSo_318 : decode cL_isSo 318 = .ok (.iload 9, 2) := by decide +kernel
theorem dL_isSo_320 : decode cL_isSo 320 = .ok (.imul, 1) := by decide +kernel
theorem dL_isSo_321 : decode cL_isSo 321 = .ok (.iconst 2, 1) := by decide +kernel
theorem dL_isSo_322 : decode cL_isSo 322 = .ok (.iadd, 1) := by decide +kernel
theorem dL_isSo_323 : decode cL_isSo 323 = .ok (.iaload, 1) := by decide +kernel
theorem dL_isSo_324 : decode cL_isSo 324 = .ok (.goto 5, 3) := by decide +kernel
theorem dL_isSo_327 : decode cL_isSo 327 = .ok (.ldc 93, 2) := by decide +kernel
theorem dL_isSo_329 : decode cL_isSo 329 = .ok (.if_icmp .ne 156, 3) := by decide +kernel
theorem dL_isSo_332 : decode cL_isSo 332 = .ok (.aload_n 0, 1) := by decide +kernel
theorem dL_isSo_333 : decode cL_isSo 333 = .ok (.iload 9, 2) := by decide +kernel
theorem dL_isSo_335 : decode cL_isSo 335 = .ok (.iconst 3, 1) := by decide +kernel
theorem dL_isSo_336 : decode cL_isSo 336 = .ok (.invokevirtual 108, 3) := by decide +kernel
theorem dL_isSo_339 : decode cL_isSo 339 = .ok (.iload 10, 2) := by decide +kernel
theorem dL_isSo_341 : decode cL_isSo 341 = .ok (.ifCond .eq 13, 3) := by decide +kernel
theorem dL_isSo_344 : decode cL_isSo 344 = .ok (.aload 7, 2) := by decide +kernel
theorem dL_isSo_346 : decode cL_isSo 346 = .ok (.iconst 4, 1) := by decide +kernel
theorem dL_isSo_347 : decode cL_isSo 347 = .ok (.iload 9, 2) := by decide +kernel
theorem dL_isSo_349 : decode cL_isSo 349 = .ok (.imul, 1) := by decide +kernel
theorem dL_isSo_350 : decode cL_isSo 350 = .ok (.iaload, 1) := by decide +kernel
theorem dL_isSo_351 : decode cL_isSo 351 = .ok (.goto 5, 3) := by decide +kernel
theorem dL_isSo_354 : decode cL_isSo 354 = .ok (.ldc 93, 2) := by decide +kernel
theorem dL_isSo_356 : decode cL_isSo 356 = .ok (.if_icmp .ne 129, 3) := by decide +kernel
theorem dL_isSo_359 : decode cL_isSo 359 = .ok (.aload_n 0, 1) := by decide +kernel
theorem dL_isSo_360 : decode cL_isSo 360 = .ok (.iload 9, 2) := by decide +kernel
theorem dL_isSo_362 : decode cL_isSo 362 = .ok (.iconst 4, 1) := by decide +kernel
theorem dL_isSo_363 : decode cL_isSo 363 = .ok (.invokevirtual 108, 3) := by decide +kernel
theorem dL_isSo_366 : decode cL_isSo 366 = .ok (.iload 10, 2) := by decide +kernel
theorem dL_isSo_368 : decode cL_isSo 368 = .ok (.ifCond .eq 15, 3) := by decide +kernel
theorem dL_isSo_371 : decode cL_isSo 371 = .ok (.aload 7, 2) := by decide +kernel
theorem dL_isSo_373 : decode cL_isSo 373 = .ok (.iconst 4, 1) := by decide +kernel
theorem dL_isSo_374 : decode cL_isSo 374 = .ok (.iload 9, 2) := by decide +kernel
theorem dL_isSo_376 : decode cL_isSo 376 = .ok (.imul, 1) := by decide +kernel
theorem dL_isSo_377 : decode cL_isSo 377 = .ok (.iconst 1, 1) := by decide +kernel
theorem dL_isSo_378 : decode cL_isSo 378 = .ok (.iadd, 1) := by decide +kernel
theorem dL_isSo_379 : decode cL_isSo 379 = .ok (.iaload, 1) := by decide +kernel
theorem dL_isSo_380 : decode cL_isSo 380 = .ok (.goto 5, 3) := by decide +kernel
theorem dL_isSo_383 : decode cL_isSo 383 = .ok (.ldc 93, 2) := by decide +kernel
theorem dL_isSo_385 : decode cL_isSo 385 = .ok (.if_icmp .ne 100, 3) := by decide +kernel
theorem dL_isSo_388 : decode cL_isSo 388 = .ok (.aload_n 0, 1) := by decide +kernel
theorem dL_isSo_389 : decode cL_isSo 389 = .ok (.iload 9, 2) := by decide +kernel
theorem dL_isSo_391 : decode cL_isSo 391 = .ok (.iconst 5, 1) := by decide +kernel
theorem dL_isSo_392 : decode cL_isSo 392 = .ok (.invokevirtual 108, 3) := by decide +kernel
theorem dL_isSo_395 : decode cL_isSo 395 = .ok (.iload 10, 2) := by decide +kernel
theorem dL_isSo_397 : decode cL_isSo 397 = .ok (.ifCond .eq 19, 3) := by decide +kernel
theorem dL_isSo_400 : decode cL_isSo 400 = .ok (.aload_n 1, 1) := by decide +kernel
theorem dL_isSo_401 : decode cL_isSo 401 = .ok (.aload 6, 2) := by decide +kernel
theorem dL_isSo_403 : decode cL_isSo 403 = .ok (.iconst 3, 1) := by decide +kernel
theorem dL_isSo_404 : decode cL_isSo 404 = .ok (.iload 9, 2) := by decide +kernel
theorem dL_isSo_406 : decode cL_isSo 406 = .ok (.imul, 1) := by decide +kernel
theorem dL_isSo_407 : decode cL_isSo 407 = .ok (.iconst 1, 1) := by decide +kernel
theorem dL_isSo_408 : decode cL_isSo 408 = .ok (.iadd, 1) := by decide +kernel
theorem dL_isSo_409 : decode cL_isSo 409 = .ok (.iaload, 1) := by decide +kernel
theorem dL_isSo_410 : decode cL_isSo 410 = .ok (.invokestatic 38, 3) := by decide +kernel
theorem dL_isSo_413 : decode cL_isSo 413 = .ok (.goto 5, 3) := by decide +kernel
theorem dL_isSo_416 : decode cL_isSo 416 = .ok (.ldc 93, 2) := by decide +kernel
theorem dL_isSo_418 : decode cL_isSo 418 = .ok (.if_icmp .ne 67, 3) := by decide +kernel
theorem dL_isSo_421 : decode cL_isSo 421 = .ok (.aload_n 0, 1) := by decide +kernel
theorem dL_isSo_422 : decode cL_isSo 422 = .ok (.iload 9, 2) := by decide +kernel
theorem dL_isSo_424 : decode cL_isSo 424 = .ok (.bipush 6, 2) := by decide +kernel
theorem dL_isSo_426 : decode cL_isSo 426 = .ok (.invokevirtual 108, 3) := by decide +kernel
theorem dL_isSo_429 : decode cL_isSo 429 = .ok (.iload 10, 2) := by decide +kernel
theorem dL_isSo_431 : decode cL_isSo 431 = .ok (.ifCond .eq 15, 3) := by decide +kernel
theorem dL_isSo_434 : decode cL_isSo 434 = .ok (.aload 7, 2) := by decide +kernel
theorem dL_isSo_436 : decode cL_isSo 436 = .ok (.iconst 4, 1) := by decide +kernel
theorem dL_isSo_437 : decode cL_isSo 437 = .ok (.iload 9, 2) := by decide +kernel
theorem dL_isSo_439 : decode cL_isSo 439 = .ok (.imul, 1) := by decide +kernel
theorem dL_isSo_440 : decode cL_isSo 440 = .ok (.iconst 2, 1) := by decide +kernel
theorem dL_isSo_441 : decode cL_isSo 441 = .ok (.iadd, 1) := by decide +kernel
theorem dL_isSo_442 : decode cL_isSo 442 = .ok (.iaload, 1) := by decide +kernel
theorem dL_isSo_443 : decode cL_isSo 443 = .ok (.goto 5, 3) := by decide +kernel
theorem dL_isSo_446 : decode cL_isSo 446 = .ok (.ldc 93, 2) := by decide +kernel
theorem dL_isSo_448 : decode cL_isSo 448 = .ok (.if_icmp .ne 37, 3) := by decide +kernel
theorem dL_isSo_451 : decode cL_isSo 451 = .ok (.aload_n 0, 1) := by decide +kernel
theorem dL_isSo_452 : decode cL_isSo 452 = .ok (.iload 9, 2) := by decide +kernel
theorem dL_isSo_454 : decode cL_isSo 454 = .ok (.bipush 7, 2) := by decide +kernel
theorem dL_isSo_456 : decode cL_isSo 456 = .ok (.invokevirtual 108, 3) := by decide +kernel
theorem dL_isSo_459 : decode cL_isSo 459 = .ok (.iload 10, 2) := by decide +kernel
theorem dL_isSo_461 : decode cL_isSo 461 = .ok (.ifCond .eq 15, 3) := by decide +kernel
theorem dL_isSo_464 : decode cL_isSo 464 = .ok (.aload 7, 2) := by decide +kernel
theorem dL_isSo_466 : decode cL_isSo 466 = .ok (.iconst 4, 1) := by decide +kernel
theorem dL_isSo_467 : decode cL_isSo 467 = .ok (.iload 9, 2) := by decide +kernel
theorem dL_isSo_469 : decode cL_isSo 469 = .ok (.imul, 1) := by decide +kernel
theorem dL_isSo_470 : decode cL_isSo 470 = .ok (.iconst 3, 1) := by decide +kernel
theorem dL_isSo_471 : decode cL_isSo 471 = .ok (.iadd, 1) := by decide +kernel
theorem dL_isSo_472 : decode cL_isSo 472 = .ok (.iaload, 1) := by decide +kernel
theorem dL_isSo_473 : decode cL_isSo 473 = .ok (.goto 5, 3) := by decide +kernel
theorem dL_isSo_476 : decode cL_isSo 476 = .ok (.ldc 93, 2) := by decide +kernel
theorem dL_isSo_478 : decode cL_isSo 478 = .ok (.if_icmp .ne 7, 3) := by decide +kernel
theorem dL_isSo_481 : decode cL_isSo 481 = .ok (.iconst 1, 1) := by decide +kernel
theorem dL_isSo_482 : decode cL_isSo 482 = .ok (.goto 4, 3) := by decide +kernel
theorem dL_isSo_485 : decode cL_isSo 485 = .ok (.iconst 0, 1) := by decide +kernel
theorem dL_isSo_486 : decode cL_isSo 486 = .ok (.istore 8, 2) := by decide +kernel
theorem dL_isSo_488 : decode cL_isSo 488 = .ok (.iinc 9 1, 3) := by decide +kernel
theorem dL_isSo_491 : decode cL_isSo 491 = .ok (.goto (-272), 3) := by decide +kernel
theorem dL_isSo_494 : decode cL_isSo 494 = .ok (.iconst 0, 1) := by decide +kernel
theorem dL_isSo_495 : decode cL_isSo 495 = .ok (.istore 9, 2) := by decide +kernel
theorem dL_isSo_497 : decode cL_isSo 497 = .ok (.iload 9, 2) := by decide +kernel
theorem dL_isSo_499 : decode cL_isSo 499 = .ok (.bipush 6, 2) := by decide +kernel
theorem dL_isSo_501 : decode cL_isSo 501 = .ok (.if_icmp .ge 40, 3) := by decide +kernel
theorem dL_isSo_504 : decode cL_isSo 504 = .ok (.iload 8, 2) := by decide +kernel
theorem dL_isSo_506 : decode cL_isSo 506 = .ok (.ifCond .eq 35, 3) := by decide +kernel
theorem dL_isSo_509 : decode cL_isSo 509 = .ok (.aload_n 0, 1) := by decide +kernel
theorem dL_isSo_510 : decode cL_isSo 510 = .ok (.bipush 20, 2) := by decide +kernel
theorem dL_isSo_512 : decode cL_isSo 512 = .ok (.iload 9, 2) := by decide +kernel
theorem dL_isSo_514 : decode cL_isSo 514 = .ok (.iadd, 1) := by decide +kernel
theorem dL_isSo_515 : decode cL_isSo 515 = .ok (.invokevirtual 95, 3) := by decide +kernel
theorem dL_isSo_518 : decode cL_isSo 518 = .ok (.aload_n 1, 1) := by decide +kernel
theorem dL_isSo_519 : decode cL_isSo 519 = .ok (.bipush 7, 2) := by decide +kernel
theorem dL_isSo_521 : decode cL_isSo 521 = .ok (.iload 9, 2) := by decide +kernel
theorem dL_isSo_523 : decode cL_isSo 523 = .ok (.iadd, 1) := by decide +kernel
theorem dL_isSo_524 : decode cL_isSo 524 = .ok (.iaload, 1) := by decide +kernel
theorem dL_isSo_525 : decode cL_isSo 525 = .ok (.if_icmp .ne 7, 3) := by decide +kernel
theorem dL_isSo_528 : decode cL_isSo 528 = .ok (.iconst 1, 1) := by decide +kernel
theorem dL_isSo_529 : decode cL_isSo 529 = .ok (.goto 4, 3) := by decide +kernel
theorem dL_isSo_532 : decode cL_isSo 532 = .ok (.iconst 0, 1) := by decide +kernel
theorem dL_isSo_533 : decode cL_isSo 533 = .ok (.istore 8, 2) := by decide +kernel
theorem dL_isSo_535 : decode cL_isSo 535 = .ok (.iinc 9 1, 3) := by decide +kernel
theorem dL_isSo_538 : decode cL_isSo 538 = .ok (.goto (-41), 3) := by decide +kernel
theorem dL_isSo_541 : decode cL_isSo 541 = .ok (.iload 8, 2) := by decide +kernel
theorem dL_isSo_543 : decode cL_isSo 543 = .ok (.ifCond .eq 80, 3) := by decide +kernel
theorem dL_isSo_546 : decode cL_isSo 546 = .ok (.aload_n 0, 1) := by decide +kernel
theorem dL_isSo_547 : decode cL_isSo 547 = .ok (.iconst 2, 1) := by decide +kernel
theorem dL_isSo_548 : decode cL_isSo 548 = .ok (.invokevirtual 95, 3) := by decide +kernel
theorem dL_isSo_551 : decode cL_isSo 551 = .ok (.aload_n 0, 1) := by decide +kernel
theorem dL_isSo_552 : decode cL_isSo 552 = .ok (.iconst 3, 1) := by decide +kernel
theorem dL_isSo_553 : decode cL_isSo 553 = .ok (.invokevirtual 95, 3) := by decide +kernel
theorem dL_isSo_556 : decode cL_isSo 556 = .ok (.aload_n 0, 1) := by decide +kernel
theorem dL_isSo_557 : decode cL_isSo 557 = .ok (.iconst 4, 1) := by decide +kernel
theorem dL_isSo_558 : decode cL_isSo 558 = .ok (.invokevirtual 95, 3) := by decide +kernel
theorem dL_isSo_561 : decode cL_isSo 561 = .ok (.iadd, 1) := by decide +kernel
theorem dL_isSo_562 : decode cL_isSo 562 = .ok (.aload_n 0, 1) := by decide +kernel
theorem dL_isSo_563 : decode cL_isSo 563 = .ok (.bipush 6, 2) := by decide +kernel
theorem dL_isSo_565 : decode cL_isSo 565 = .ok (.invokevirtual 95, 3) := by decide +kernel
theorem dL_isSo_568 : decode cL_isSo 568 = .ok (.iadd, 1) := by decide +kernel
theorem dL_isSo_569 : decode cL_isSo 569 = .ok (.aload_n 0, 1) := by decide +kernel
theorem dL_isSo_570 : decode cL_isSo 570 = .ok (.bipush 7, 2) := by decide +kernel
theorem dL_isSo_572 : decode cL_isSo 572 = .ok (.invokevirtual 95, 3) := by decide +kernel
theorem dL_isSo_575 : decode cL_isSo 575 = .ok (.iadd, 1) := by decide +kernel
theorem dL_isSo_576 : decode cL_isSo 576 = .ok (.if_icmp .ne 47, 3) := by decide +kernel
theorem dL_isSo_579 : decode cL_isSo 579 = .ok (.aload_n 0, 1) := by decide +kernel
theorem dL_isSo_580 : decode cL_isSo 580 = .ok (.iconst 1, 1) := by decide +kernel
theorem dL_isSo_581 : decode cL_isSo 581 = .ok (.invokevirtual 95, 3) := by decide +kernel
theorem dL_isSo_584 : decode cL_isSo 584 = .ok (.aload_n 0, 1) := by decide +kernel
theorem dL_isSo_585 : decode cL_isSo 585 = .ok (.iconst 2, 1) := by decide +kernel
theorem dL_isSo_586 : decode cL_isSo 586 = .ok (.invokevirtual 95, 3) := by decide +kernel
theorem dL_isSo_589 : decode cL_isSo 589 = .ok (.aload_n 0, 1) := by decide +kernel
theorem dL_isSo_590 : decode cL_isSo 590 = .ok (.iconst 5, 1) := by decide +kernel
theorem dL_isSo_591 : decode cL_isSo 591 = .ok (.invokevirtual 95, 3) := by decide +kernel
theorem dL_isSo_594 : decode cL_isSo 594 = .ok (.iadd, 1) := by decide +kernel
theorem dL_isSo_595 : decode cL_isSo 595 = .ok (.if_icmp .ne 28, 3) := by decide +kernel
theorem dL_isSo_598 : decode cL_isSo 598 = .ok (.aload_n 0, 1) := by decide +kernel
theorem dL_isSo_599 : decode cL_isSo 599 = .ok (.iconst 0, 1) := by decide +kernel
theorem dL_isSo_600 : decode cL_isSo 600 = .ok (.iconst 3, 1) := by decide +kernel
theorem dL_isSo_601 : decode cL_isSo 601 = .ok (.invokevirtual 102, 3) := by decide +kernel
theorem dL_isSo_604 : decode cL_isSo 604 = .ok (.aload_n 0, 1) := by decide +kernel
theorem dL_isSo_605 : decode cL_isSo 605 = .ok (.iconst 1, 1) := by decide +kernel
theorem dL_isSo_606 : decode cL_isSo 606 = .ok (.iconst 3, 1) := by decide +kernel
theorem dL_isSo_607 : decode cL_isSo 607 = .ok (.invokevirtual 102, 3) := by decide +kernel
theorem dL_isSo_610 : decode cL_isSo 610 = .ok (.iadd, 1) := by decide +kernel
theorem dL_isSo_611 : decode cL_isSo 611 = .ok (.aload_n 0, 1) := by decide +kernel
theorem dL_isSo_612 : decode cL_isSo 612 = .ok (.iconst 2, 1) := by decide +kernel
theorem dL_isSo_613 : decode cL_isSo 613 = .ok (.invokevirtual 95, 3) := by decide +kernel
theorem dL_isSo_616 : decode cL_isSo 616 = .ok (.if_icmp .ne 7, 3) := by decide +kernel
theorem dL_isSo_619 : decode cL_isSo 619 = .ok (.iconst 1, 1) := by decide +kernel
theorem dL_isSo_620 : decode cL_isSo 620 = .ok (.goto 4, 3) := by decide +kernel
theorem dL_isSo_623 : decode cL_isSo 623 = .ok (.iconst 0, 1) := by decide +kernel
theorem dL_isSo_624 : decode cL_isSo 624 = .ok (.istore 8, 2) := by decide +kernel
theorem dL_isSo_626 : decode cL_isSo 626 = .ok (.iload 8, 2) := by decide +kernel
theorem dL_isSo_628 : decode cL_isSo 628 = .ok (.ifCond .eq 121, 3) := by decide +kernel
theorem dL_isSo_631 : decode cL_isSo 631 = .ok (.aload_n 0, 1) := by decide +kernel
theorem dL_isSo_632 : decode cL_isSo 632 = .ok (.iconst 0, 1) := by decide +kernel
theorem dL_isSo_633 : decode cL_isSo 633 = .ok (.invokevirtual 95, 3) := by decide +kernel
theorem dL_isSo_636 : decode cL_isSo 636 = .ok (.aload_n 1, 1) := by decide +kernel
theorem dL_isSo_637 : decode cL_isSo 637 = .ok (.iconst 0, 1) := by decide +kernel
theorem dL_isSo_638 : decode cL_isSo 638 = .ok (.iaload, 1) := by decide +kernel
theorem dL_isSo_639 : decode cL_isSo 639 = .ok (.if_icmp .ne 110, 3) := by decide +kernel
theorem dL_isSo_642 : decode cL_isSo 642 = .ok (.aload_n 0, 1) := by decide +kernel
theorem dL_isSo_643 : decode cL_isSo 643 = .ok (.iconst 1, 1) := by decide +kernel
theorem dL_isSo_644 : decode cL_isSo 644 = .ok (.invokevirtual 95, 3) := by decide +kernel
theorem dL_isSo_647 : decode cL_isSo 647 = .ok (.aload_n 1, 1) := by decide +kernel
theorem dL_isSo_648 : decode cL_isSo 648 = .ok (.iconst 1, 1) := by decide +kernel
theorem dL_isSo_649 : decode cL_isSo 649 = .ok (.iaload, 1) := by decide +kernel
theorem dL_isSo_650 : decode cL_isSo 650 = .ok (.if_icmp .ne 99, 3) := by decide +kernel
theorem dL_isSo_653 : decode cL_isSo 653 = .ok (.aload_n 0, 1) := by decide +kernel
theorem dL_isSo_654 : decode cL_isSo 654 = .ok (.iconst 2, 1) := by decide +kernel
theorem dL_isSo_655 : decode cL_isSo 655 = .ok (.invokevirtual 95, 3) := by decide +kernel
theorem dL_isSo_658 : decode cL_isSo 658 = .ok (.aload_n 1, 1) := by decide +kernel
theorem dL_isSo_659 : decode cL_isSo 659 = .ok (.iconst 2, 1) := by decide +kernel
theorem dL_isSo_660 : decode cL_isSo 660 = .ok (.iaload, 1) := by decide +kernel
theorem dL_isSo_661 : decode cL_isSo 661 = .ok (.if_icmp .ne 88, 3) := by decide +kernel
theorem dL_isSo_664 : decode cL_isSo 664 = .ok (.aload_n 0, 1) := by decide +kernel
theorem dL_isSo_665 : decode cL_isSo 665 = .ok (.iconst 3, 1) := by decide +kernel
theorem dL_isSo_666 : decode cL_isSo 666 = .ok (.invokevirtual 95, 3) := by decide +kernel
theorem dL_isSo_669 : decode cL_isSo 669 = .ok (.aload_n 1, 1) := by decide +kernel
theorem dL_isSo_670 : decode cL_isSo 670 = .ok (.iconst 3, 1) := by decide +kernel
theorem dL_isSo_671 : decode cL_isSo 671 = .ok (.iaload, 1) := by decide +kernel
theorem dL_isSo_672 : decode cL_isSo 672 = .ok (.if_icmp .ne 77, 3) := by decide +kernel
theorem dL_isSo_675 : decode cL_isSo 675 = .ok (.aload_n 0, 1) := by decide +kernel
theorem dL_isSo_676 : decode cL_isSo 676 = .ok (.iconst 4, 1) := by decide +kernel
theorem dL_isSo_677 : decode cL_isSo 677 = .ok (.invokevirtual 95, 3) := by decide +kernel
theorem dL_isSo_680 : decode cL_isSo 680 = .ok (.aload_n 1, 1) := by decide +kernel
theorem dL_isSo_681 : decode cL_isSo 681 = .ok (.iconst 4, 1) := by decide +kernel
theorem dL_isSo_682 : decode cL_isSo 682 = .ok (.iaload, 1) := by decide +kernel
theorem dL_isSo_683 : decode cL_isSo 683 = .ok (.if_icmp .ne 66, 3) := by decide +kernel
theorem dL_isSo_686 : decode cL_isSo 686 = .ok (.aload_n 0, 1) := by decide +kernel
theorem dL_isSo_687 : decode cL_isSo 687 = .ok (.iconst 5, 1) := by decide +kernel
theorem dL_isSo_688 : decode cL_isSo 688 = .ok (.invokevirtual 95, 3) := by decide +kernel
theorem dL_isSo_691 : decode cL_isSo 691 = .ok (.aload_n 1, 1) := by decide +kernel
theorem dL_isSo_692 : decode cL_isSo 692 = .ok (.aload_n 3, 1) := by decide +kernel
theorem dL_isSo_693 : decode cL_isSo 693 = .ok (.invokestatic 9, 3) := by decide +kernel
theorem dL_isSo_696 : decode cL_isSo 696 = .ok (.if_icmp .ne 53, 3) := by decide +kernel
theorem dL_isSo_699 : decode cL_isSo 699 = .ok (.aload_n 0, 1) := by decide +kernel
theorem dL_isSo_700 : decode cL_isSo 700 = .ok (.bipush 8, 2) := by decide +kernel
theorem dL_isSo_702 : decode cL_isSo 702 = .ok (.invokevirtual 95, 3) := by decide +kernel
theorem dL_isSo_705 : decode cL_isSo 705 = .ok (.aload_n 1, 1) := by decide +kernel
theorem dL_isSo_706 : decode cL_isSo 706 = .ok (.iconst 5, 1) := by decide +kernel
theorem dL_isSo_707 : decode cL_isSo 707 = .ok (.iaload, 1) := by decide +kernel
theorem dL_isSo_708 : decode cL_isSo 708 = .ok (.if_icmp .ne 41, 3) := by decide +kernel
theorem dL_isSo_711 : decode cL_isSo 711 = .ok (.aload_n 0, 1) := by decide +kernel
theorem dL_isSo_712 : decode cL_isSo 712 = .ok (.bipush 9, 2) := by decide +kernel
theorem dL_isSo_714 : decode cL_isSo 714 = .ok (.invokevirtual 95, 3) := by decide +kernel
theorem dL_isSo_717 : decode cL_isSo 717 = .ok (.aload_n 1, 1) := by decide +kernel
theorem dL_isSo_718 : decode cL_isSo 718 = .ok (.bipush 6, 2) := by decide +kernel
theorem dL_isSo_720 : decode cL_isSo 720 = .ok (.iaload, 1) := by decide +kernel
theorem dL_isSo_721 : decode cL_isSo 721 = .ok (.if_icmp .ne 28, 3) := by decide +kernel
theorem dL_isSo_724 : decode cL_isSo 724 = .ok (.aload_n 0, 1) := by decide +kernel
theorem dL_isSo_725 : decode cL_isSo 725 = .ok (.bipush 11, 2) := by decide +kernel
theorem dL_isSo_727 : decode cL_isSo 727 = .ok (.invokevirtual 95, 3) := by decide +kernel
theorem dL_isSo_730 : decode cL_isSo 730 = .ok (.ifCond .ne 19, 3) := by decide +kernel
theorem dL_isSo_733 : decode cL_isSo 733 = .ok (.aload_n 0, 1) := by decide +kernel
theorem dL_isSo_734 : decode cL_isSo 734 = .ok (.bipush 12, 2) := by decide +kernel
theorem dL_isSo_736 : decode cL_isSo 736 = .ok (.iconst 0, 1) := by decide +kernel
theorem dL_isSo_737 : decode cL_isSo 737 = .ok (.invokevirtual 108, 3) := by decide +kernel
theorem dL_isSo_740 : decode cL_isSo 740 = .ok (.ldc 93, 2) := by decide +kernel
theorem dL_isSo_742 : decode cL_isSo 742 = .ok (.if_icmp .ne 7, 3) := by decide +kernel
theorem dL_isSo_745 : decode cL_isSo 745 = .ok (.iconst 1, 1) := by decide +kernel
theorem dL_isSo_746 : decode cL_isSo 746 = .ok (.goto 4, 3) := by decide +kernel
theorem dL_isSo_749 : decode cL_isSo 749 = .ok (.iconst 0, 1) := by decide +kernel
theorem dL_isSo_750 : decode cL_isSo 750 = .ok (.ireturn, 1) := by decide +kernel
