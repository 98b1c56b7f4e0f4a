theorem dX0_init_0 : decode cX0_init 0 = .ok (.aload_n 0, 1) := by decide +kernel
theorem dX0_init_1 : decode cX0_init 1 = .ok (.invokespecial 3, 3) := by decide +kernel
theorem dX0_init_4 : decode cX0_init 4 = .ok (.aload_n 0, 1) := by decide +kernel
theorem dX0_init_5 : decode cX0_init 5 = .ok (.bipush 30, 2) := by decide +kernel
theorem dX0_init_7 : decode cX0_init 7 = .ok (.putfield 9, 3) := by decide +kernel
theorem dX0_init_10 : decode cX0_init 10 = .ok (.return_, 1) := by decide +kernel
theorem dX0_copyFrom_0 : decode cX0_copyFrom 0 = .ok (.aload_n 0, 1) := by decide +kernel
theorem dX0_copyFrom_1 : decode cX0_copyFrom 1 = .ok (.aload_n 1, 1) := by decide +kernel
theorem dX0_copyFrom_2 : decode cX0_copyFrom 2 = .ok (.getfield 9, 3) := by decide +kernel
theorem dX0_copyFrom_5 : decode cX0_copyFrom 5 = .ok (.putfield 9, 3) := by decide +kernel
theorem dX0_copyFrom_8 : decode cX0_copyFrom 8 = .ok (.aload_n 0, 1) := by decide +kernel
theorem dX0_copyFrom_9 : decode cX0_copyFrom 9 = .ok (.aload_n 1, 1) := by decide +kernel
theorem dX0_copyFrom_10 : decode cX0_copyFrom 10 = .ok (.getfield 15, 3) := by decide +kernel
theorem dX0_copyFrom_13 : decode cX0_copyFrom 13 = .ok (.putfield 15, 3) := by decide +kernel
theorem dX0_copyFrom_16 : decode cX0_copyFrom 16 = .ok (.aload_n 0, 1) := by decide +kernel
theorem dX0_copyFrom_17 : decode cX0_copyFrom 17 = .ok (.aload_n 1, 1) := by decide +kernel
theorem dX0_copyFrom_18 : decode cX0_copyFrom 18 = .ok (.getfield 18, 3) := by decide +kernel
theorem dX0_copyFrom_21 : decode cX0_copyFrom 21 = .ok (.putfield 18, 3) := by decide +kernel
theorem dX0_copyFrom_24 : decode cX0_copyFrom 24 = .ok (.aload_n 0, 1) := by decide +kernel
theorem dX0_copyFrom_25 : decode cX0_copyFrom 25 = .ok (.aload_n 1, 1) := by decide +kernel
theorem dX0_copyFrom_26 : decode cX0_copyFrom 26 = .ok (.getfield 21, 3) := by decide +kernel
theorem dX0_copyFrom_29 : decode cX0_copyFrom 29 = .ok (.putfield 21, 3) := by decide +kernel
theorem dX0_copyFrom_32 : decode cX0_copyFrom 32 = .ok (.return_, 1) := by decide +kernel
set_option maxRecDepth 20000 in
theorem ggX0_gap_X0_gapAt : GoodIn wsX0_gap wsX0_gapAt := goodIn_r _ [6, 7, 8, 9, 10, 11, 12, 13, 14, 15] rfl (by decide +kernel)
set_option maxRecDepth 20000 in
theorem gX0_gap_X0_gapAt : GoodIn wsX0_gap (wsV RX0 24 RX0 yX0_gapAt wsX0_gapAt) := goodIn_app (goodIn_of _ (by decide +kernel)) ggX0_gap_X0_gapAt
theorem dX0_gap_0 : decode cX0_gap 0 = .ok (.aload_n 0, 1) := by decide +kernel
theorem dX0_gap_1 : decode cX0_gap 1 = .ok (.aload_n 0, 1) := by decide +kernel
theorem dX0_gap_2 : decode cX0_gap 2 = .ok (.getfield 9, 3) := by decide +kernel
theorem dX0_gap_5 : decode cX0_gap 5 = .ok (.invokevirtual 24, 3) := by decide +kernel
theorem dX0_gap_8 : decode cX0_gap 8 = .ok (.ireturn, 1) := by decide +kernel
theorem dX0_gapAt_0 : decode cX0_gapAt 0 = .ok (.bipush 10, 2) := by decide +kernel
theorem dX0_gapAt_2 : decode cX0_gapAt 2 = .ok (.bipush 10, 2) := by decide +kernel
theorem dX0_gapAt_4 : decode cX0_gapAt 4 = .ok (.iload_n 1, 1) := by decide +kernel
theorem dX0_gapAt_5 : decode cX0_gapAt 5 = .ok (.imul, 1) := by decide +kernel
theorem dX0_gapAt_6 : decode cX0_gapAt 6 = .ok (.aload_n 0, 1) := by decide +kernel
theorem dX0_gapAt_7 : decode cX0_gapAt 7 = .ok (.getfield 15, 3) := by decide +kernel
theorem dX0_gapAt_10 : decode cX0_gapAt 10 = .ok (.iconst 5, 1) := by decide +kernel
theorem dX0_gapAt_11 : decode cX0_gapAt 11 = .ok (.idiv, 1) := by decide +kernel
theorem dX0_gapAt_12 : decode cX0_gapAt 12 = .ok (.isub, 1) := by decide +kernel
theorem dX0_gapAt_13 : decode cX0_gapAt 13 = .ok (.invokestatic 28, 3) := by decide +kernel
theorem dX0_gapAt_16 : decode cX0_gapAt 16 = .ok (.ireturn, 1) := by decide +kernel
theorem dX0_warmByGrinding_0 : decode cX0_warmByGrinding 0 = .ok (.aload_n 0, 1) := by decide +kernel
theorem dX0_warmByGrinding_1 : decode cX0_warmByGrinding 1 = .ok (.sipush 300, 3) := by decide +kernel
theorem dX0_warmByGrinding_4 : decode cX0_warmByGrinding 4 = .ok (.aload_n 0, 1) := by decide +kernel
theorem dX0_warmByGrinding_5 : decode cX0_warmByGrinding 5 = .ok (.getfield 15, 3) := by decide +kernel
theorem dX0_warmByGrinding_8 : decode cX0_warmByGrinding 8 = .ok (.iload_n 1, 1) := by decide +kernel
theorem dX0_warmByGrinding_9 : decode cX0_warmByGrinding 9 = .ok (.iconst 4, 1) := by decide +kernel
theorem dX0_warmByGrinding_10 : decode cX0_warmByGrinding 10 = .ok (.idiv, 1) := by decide +kernel
theorem dX0_warmByGrinding_11 : decode cX0_warmByGrinding 11 = .ok (.iadd, 1) := by decide +kernel
theorem dX0_warmByGrinding_12 : decode cX0_warmByGrinding 12 = .ok (.invokestatic 34, 3) := by decide +kernel
theorem dX0_warmByGrinding_15 : decode cX0_warmByGrinding 15 = .ok (.putfield 15, 3) := by decide +kernel
theorem dX0_warmByGrinding_18 : decode cX0_warmByGrinding 18 = .ok (.aload_n 0, 1) := by decide +kernel
theorem dX0_warmByGrinding_19 : decode cX0_warmByGrinding 19 = .ok (.dup, 1) := by decide +kernel
theorem dX0_warmByGrinding_20 : decode cX0_warmByGrinding 20 = .ok (.getfield 18, 3) := by decide +kernel
theorem dX0_warmByGrinding_23 : decode cX0_warmByGrinding 23 = .ok (.iload_n 1, 1) := by decide +kernel
theorem dX0_warmByGrinding_24 : decode cX0_warmByGrinding 24 = .ok (.iadd, 1) := by decide +kernel
theorem dX0_warmByGrinding_25 : decode cX0_warmByGrinding 25 = .ok (.putfield 18, 3) := by decide +kernel
theorem dX0_warmByGrinding_28 : decode cX0_warmByGrinding 28 = .ok (.return_, 1) := by decide +kernel
set_option maxRecDepth 20000 in
theorem ggX0_cool_X7_fallOf : GoodIn wsX0_cool wsX7_fallOf := goodIn_r _ [4] rfl (by decide +kernel)
set_option maxRecDepth 20000 in
theorem gX0_cool_X7_fallOf_n37 : GoodIn wsX0_cool (wsX7_fallOf) := ggX0_cool_X7_fallOf
theorem dX0_cool_0 : decode cX0_cool 0 = .ok (.iconst 0, 1) := by decide +kernel
theorem dX0_cool_1 : decode cX0_cool 1 = .ok (.istore_n 2, 1) := by decide +kernel
theorem dX0_cool_2 : decode cX0_cool 2 = .ok (.iload_n 2, 1) := by decide +kernel
theorem dX0_cool_3 : decode cX0_cool 3 = .ok (.iload_n 1, 1) := by decide +kernel
theorem dX0_cool_4 : decode cX0_cool 4 = .ok (.if_icmp .ge 32, 3) := by decide +kernel
theorem dX0_cool_7 : decode cX0_cool 7 = .ok (.aload_n 0, 1) := by decide +kernel
theorem dX0_cool_8 : decode cX0_cool 8 = .ok (.getfield 15, 3) := by decide +kernel
theorem dX0_cool_11 : decode cX0_cool 11 = .ok (.ifCond .le 25, 3) := by decide +kernel
theorem dX0_cool_14 : decode cX0_cool 14 = .ok (.aload_n 0, 1) := by decide +kernel
theorem dX0_cool_15 : decode cX0_cool 15 = .ok (.dup, 1) := by decide +kernel
theorem dX0_cool_16 : decode cX0_cool 16 = .ok (.getfield 15, 3) := by decide +kernel
theorem dX0_cool_19 : decode cX0_cool 19 = .ok (.aload_n 0, 1) := by decide +kernel
theorem dX0_cool_20 : decode cX0_cool 20 = .ok (.getfield 15, 3) := by decide +kernel
theorem dX0_cool_23 : decode cX0_cool 23 = .ok (.invokestatic 37, 3) := by decide +kernel
theorem dX0_cool_26 : decode cX0_cool 26 = .ok (.isub, 1) := by decide +kernel
theorem dX0_cool_27 : decode cX0_cool 27 = .ok (.putfield 15, 3) := by decide +kernel
theorem dX0_cool_30 : decode cX0_cool 30 = .ok (.iinc 2 1, 3) := by decide +kernel
theorem dX0_cool_33 : decode cX0_cool 33 = .ok (.goto (-31), 3) := by decide +kernel
theorem dX0_cool_36 : decode cX0_cool 36 = .ok (.return_, 1) := by decide +kernel
theorem dX0_correctBy_0 : decode cX0_correctBy 0 = .ok (.aload_n 0, 1) := by decide +kernel
theorem dX0_correctBy_1 : decode cX0_correctBy 1 = .ok (.getfield 9, 3) := by decide +kernel
theorem dX0_correctBy_4 : decode cX0_correctBy 4 = .ok (.iload_n 1, 1) := by decide +kernel
theorem dX0_correctBy_5 : decode cX0_correctBy 5 = .ok (.imul, 1) := by decide +kernel
theorem dX0_correctBy_6 : decode cX0_correctBy 6 = .ok (.iload_n 2, 1) := by decide +kernel
theorem dX0_correctBy_7 : decode cX0_correctBy 7 = .ok (.iconst 2, 1) := by decide +kernel
theorem dX0_correctBy_8 : decode cX0_correctBy 8 = .ok (.idiv, 1) := by decide +kernel
theorem dX0_correctBy_9 : decode cX0_correctBy 9 = .ok (.iadd, 1) := by decide +kernel
theorem dX0_correctBy_10 : decode cX0_correctBy 10 = .ok (.iconst 1, 1) := by decide +kernel
theorem dX0_correctBy_11 : decode cX0_correctBy 11 = .ok (.iload_n 2, 1) := by decide +kernel
theorem dX0_correctBy_12 : decode cX0_correctBy 12 = .ok (.invokestatic 28, 3) := by decide +kernel
theorem dX0_correctBy_15 : decode cX0_correctBy 15 = .ok (.idiv, 1) := by decide +kernel
theorem dX0_correctBy_16 : decode cX0_correctBy 16 = .ok (.istore_n 3, 1) := by decide +kernel
theorem dX0_correctBy_17 : decode cX0_correctBy 17 = .ok (.aload_n 0, 1) := by decide +kernel
theorem dX0_correctBy_18 : decode cX0_correctBy 18 = .ok (.iconst 1, 1) := by decide +kernel
theorem dX0_correctBy_19 : decode cX0_correctBy 19 = .ok (.bipush 60, 2) := by decide +kernel
theorem dX0_correctBy_21 : decode cX0_correctBy 21 = .ok (.iload_n 3, 1) := by decide +kernel
theorem dX0_correctBy_22 : decode cX0_correctBy 22 = .ok (.invokestatic 34, 3) := by decide +kernel
theorem dX0_correctBy_25 : decode cX0_correctBy 25 = .ok (.invokestatic 28, 3) := by decide +kernel
theorem dX0_correctBy_28 : decode cX0_correctBy 28 = .ok (.putfield 9, 3) := by decide +kernel
theorem dX0_correctBy_31 : decode cX0_correctBy 31 = .ok (.aload_n 0, 1) := by decide +kernel
theorem dX0_correctBy_32 : decode cX0_correctBy 32 = .ok (.dup, 1) := by decide +kernel
theorem dX0_correctBy_33 : decode cX0_correctBy 33 = .ok (.getfield 21, 3) := by decide +kernel
theorem dX0_correctBy_36 : decode cX0_correctBy 36 = .ok (.iconst 1, 1) := by decide +kernel
theorem dX0_correctBy_37 : decode cX0_correctBy 37 = .ok (.iadd, 1) := by decide +kernel
theorem dX0_correctBy_38 : decode cX0_correctBy 38 = .ok (.putfield 21, 3) := by decide +kernel
theorem dX0_correctBy_41 : decode cX0_correctBy 41 = .ok (.return_, 1) := by decide +kernel
set_option maxRecDepth 20000 in
theorem ggX0_tell_X0_gap : GoodIn wsX0_tell wsX0_gap := goodIn_r _ [9, 1, 10, 11, 12, 8, 13, 2, 14, 15, 16, 17, 18, 19, 20, 21] rfl (by decide +kernel)
set_option maxRecDepth 20000 in
theorem gX0_tell_X0_gap : GoodIn wsX0_tell (wsV RX0 40 RX0 yX0_gap wsX0_gap) := goodIn_app (goodIn_of _ (by decide +kernel)) ggX0_tell_X0_gap
theorem dX0_tell_0 : decode cX0_tell 0 = .ok (.iload_n 1, 1) := by decide +kernel
theorem dX0_tell_1 : decode cX0_tell 1 = .ok (.tableswitch 51 0 3 #[31, 36, 41, 46], 31) := by decide +kernel
theorem dX0_tell_32 : decode cX0_tell 32 = .ok (.aload_n 0, 1) := by decide +kernel
theorem dX0_tell_33 : decode cX0_tell 33 = .ok (.getfield 9, 3) := by decide +kernel
theorem dX0_tell_36 : decode cX0_tell 36 = .ok (.ireturn, 1) := by decide +kernel
theorem dX0_tell_37 : decode cX0_tell 37 = .ok (.aload_n 0, 1) := by decide +kernel
theorem dX0_tell_38 : decode cX0_tell 38 = .ok (.getfield 15, 3) := by decide +kernel
theorem dX0_tell_41 : decode cX0_tell 41 = .ok (.ireturn, 1) := by decide +kernel
theorem dX0_tell_42 : decode cX0_tell 42 = .ok (.aload_n 0, 1) := by decide +kernel
theorem dX0_tell_43 : decode cX0_tell 43 = .ok (.invokevirtual 40, 3) := by decide +kernel
theorem dX0_tell_46 : decode cX0_tell 46 = .ok (.ireturn, 1) := by decide +kernel
theorem dX0_tell_47 : decode cX0_tell 47 = .ok (.aload_n 0, 1) := by decide +kernel
theorem dX0_tell_48 : decode cX0_tell 48 = .ok (.getfield 18, 3) := by decide +kernel
theorem dX0_tell_51 : decode cX0_tell 51 = .ok (.ireturn, 1) := by decide +kernel
theorem dX0_tell_52 : decode cX0_tell 52 = .ok (.aload_n 0, 1) := by decide +kernel
theorem dX0_tell_53 : decode cX0_tell 53 = .ok (.getfield 21, 3) := by decide +kernel
theorem dX0_tell_56 : decode cX0_tell 56 = .ok (.ireturn, 1) := by decide +kernel
set_option maxRecDepth 20000 in
theorem ggX1_init_X3_init : GoodIn wsX1_init wsX3_init := goodIn_r _ [25, 26, 2, 3, 27, 14, 15, 28, 29, 30, 31, 32, 33, 34, 35, 36, 22, 37, 38, 66, 67, 68, 69, 48] rfl (by decide +kernel)
set_option maxRecDepth 20000 in
theorem gX1_init_X3_init_n11 : GoodIn wsX1_init (wsX3_init) := ggX1_init_X3_init
set_option maxRecDepth 20000 in
theorem ggX1_init_X0_init : GoodIn wsX1_init wsX0_init := goodIn_r _ [40, 41, 2, 3, 42, 62, 63, 64, 65] rfl (by decide +kernel)
set_option maxRecDepth 20000 in
theorem gX1_init_X0_init_n20 : GoodIn wsX1_init (wsX0_init) := ggX1_init_X0_init
set_option maxRecDepth 20000 in
theorem ggX1_init_X5_init : GoodIn wsX1_init wsX5_init := goodIn_r _ [31, 32, 2, 3, 33, 34, 35, 36, 22, 37, 38, 66, 67, 68, 69] rfl (by decide +kernel)
set_option maxRecDepth 20000 in
theorem gX1_init_X5_init : GoodIn wsX1_init (wsX5_init) := ggX1_init_X5_init
set_option maxRecDepth 20000 in
theorem ggX1_init_X6_init : GoodIn wsX1_init wsX6_init := goodIn_r _ [45, 46, 2, 3, 22, 47, 70, 71, 72] rfl (by decide +kernel)
set_option maxRecDepth 20000 in
theorem gX1_init_X6_init_n42 : GoodIn wsX1_init (wsX6_init) := ggX1_init_X6_init
theorem dX1_init_0 : decode cX1_init 0 = .ok (.aload_n 0, 1) := by decide +kernel
theorem dX1_init_1 : decode cX1_init 1 = .ok (.invokespecial 3, 3) := by decide +kernel
theorem dX1_init_4 : decode cX1_init 4 = .ok (.aload_n 0, 1) := by decide +kernel
theorem dX1_init_5 : decode cX1_init 5 = .ok (.new 9, 3) := by decide +kernel
theorem dX1_init_8 : decode cX1_init 8 = .ok (.dup, 1) := by decide +kernel
theorem dX1_init_9 : decode cX1_init 9 = .ok (.invokespecial 11, 3) := by decide +kernel
theorem dX1_init_12 : decode cX1_init 12 = .ok (.putfield 12, 3) := by decide +kernel
theorem dX1_init_15 : decode cX1_init 15 = .ok (.aload_n 0, 1) := by decide +kernel
theorem dX1_init_16 : decode cX1_init 16 = .ok (.new 18, 3) := by decide +kernel
theorem dX1_init_19 : decode cX1_init 19 = .ok (.dup, 1) := by decide +kernel
theorem dX1_init_20 : decode cX1_init 20 = .ok (.invokespecial 20, 3) := by decide +kernel
theorem dX1_init_23 : decode cX1_init 23 = .ok (.putfield 21, 3) := by decide +kernel
theorem dX1_init_26 : decode cX1_init 26 = .ok (.aload_n 0, 1) := by decide +kernel
theorem dX1_init_27 : decode cX1_init 27 = .ok (.new 18, 3) := by decide +kernel
theorem dX1_init_30 : decode cX1_init 30 = .ok (.dup, 1) := by decide +kernel
theorem dX1_init_31 : decode cX1_init 31 = .ok (.invokespecial 20, 3) := by decide +kernel
theorem dX1_init_34 : decode cX1_init 34 = .ok (.putfield 25, 3) := by decide +kernel
theorem dX1_init_37 : decode cX1_init 37 = .ok (.aload_n 0, 1) := by decide +kernel
theorem dX1_init_38 : decode cX1_init 38 = .ok (.new 28, 3) := by decide +kernel
theorem dX1_init_41 : decode cX1_init 41 = .ok (.dup, 1) := by decide +kernel
theorem dX1_init_42 : decode cX1_init 42 = .ok (.bipush 106, 2) := by decide +kernel
theorem dX1_init_44 : decode cX1_init 44 = .ok (.invokespecial 30, 3) := by decide +kernel
theorem dX1_init_47 : decode cX1_init 47 = .ok (.putfield 33, 3) := by decide +kernel
theorem dX1_init_50 : decode cX1_init 50 = .ok (.aload_n 0, 1) := by decide +kernel
theorem dX1_init_51 : decode cX1_init 51 = .ok (.new 28, 3) := by decide +kernel
theorem dX1_init_54 : decode cX1_init 54 = .ok (.dup, 1) := by decide +kernel
theorem dX1_init_55 : decode cX1_init 55 = .ok (.sipush 400, 3) := by decide +kernel
theorem dX1_init_58 : decode cX1_init 58 = .ok (.invokespecial 30, 3) := by decide +kernel
theorem dX1_init_61 : decode cX1_init 61 = .ok (.putfield 37, 3) := by decide +kernel
theorem dX1_init_64 : decode cX1_init 64 = .ok (.aload_n 0, 1) := by decide +kernel
theorem dX1_init_65 : decode cX1_init 65 = .ok (.new 40, 3) := by decide +kernel
theorem dX1_init_68 : decode cX1_init 68 = .ok (.dup, 1) := by decide +kernel
theorem dX1_init_69 : decode cX1_init 69 = .ok (.invokespecial 42, 3) := by decide +kernel
theorem dX1_init_72 : decode cX1_init 72 = .ok (.putfield 43, 3) := by decide +kernel
theorem dX1_init_75 : decode cX1_init 75 = .ok (.aload_n 0, 1) := by decide +kernel
theorem dX1_init_76 : decode cX1_init 76 = .ok (.bipush 6, 2) := by decide +kernel
theorem dX1_init_78 : decode cX1_init 78 = .ok (.newarray .int, 2) := by decide +kernel
theorem dX1_init_80 : decode cX1_init 80 = .ok (.dup, 1) := by decide +kernel
theorem dX1_init_81 : decode cX1_init 81 = .ok (.iconst 0, 1) := by decide +kernel
theorem dX1_init_82 : decode cX1_init 82 = .ok (.sipush 280, 3) := by decide +kernel
theorem dX1_init_85 : decode cX1_init 85 = .ok (.iastore, 1) := by decide +kernel
theorem dX1_init_86 : decode cX1_init 86 = .ok (.dup, 1) := by decide +kernel
theorem dX1_init_87 : decode cX1_init 87 = .ok (.iconst 1, 1) := by decide +kernel
theorem dX1_init_88 : decode cX1_init 88 = .ok (.bipush 20, 2) := by decide +kernel
theorem dX1_init_90 : decode cX1_init 90 = .ok (.iastore, 1) := by decide +kernel
theorem dX1_init_91 : decode cX1_init 91 = .ok (.dup, 1) := by decide +kernel
theorem dX1_init_92 : decode cX1_init 92 = .ok (.iconst 2, 1) := by decide +kernel
theorem dX1_init_93 : decode cX1_init 93 = .ok (.bipush 40, 2) := by decide +kernel
theorem dX1_init_95 : decode cX1_init 95 = .ok (.iastore, 1) := by decide +kernel
theorem dX1_init_96 : decode cX1_init 96 = .ok (.dup, 1) := by decide +kernel
theorem dX1_init_97 : decode cX1_init 97 = .ok (.iconst 3, 1) := by decide +kernel
theorem dX1_init_98 : decode cX1_init 98 = .ok (.bipush 90, 2) := by decide +kernel
theorem dX1_init_100 : decode cX1_init 100 = .ok (.iastore, 1) := by decide +kernel
theorem dX1_init_101 : decode cX1_init 101 = .ok (.dup, 1) := by decide +kernel
theorem dX1_init_102 : decode cX1_init 102 = .ok (.iconst 4, 1) := by decide +kernel
theorem dX1_init_103 : decode cX1_init 103 = .ok (.bipush 120, 2) := by decide +kernel
theorem dX1_init_105 : decode cX1_init 105 = .ok (.iastore, 1) := by decide +kernel
theorem dX1_init_106 : decode cX1_init 106 = .ok (.dup, 1) := by decide +kernel
theorem dX1_init_107 : decode cX1_init 107 = .ok (.iconst 5, 1) := by decide +kernel
theorem dX1_init_108 : decode cX1_init 108 = .ok (.iconst 0, 1) := by decide +kernel
theorem dX1_init_109 : decode cX1_init 109 = .ok (.iastore, 1) := by decide +kernel
theorem dX1_init_110 : decode cX1_init 110 = .ok (.putfield 47, 3) := by decide +kernel
theorem dX1_init_113 : decode cX1_init 113 = .ok (.return_, 1) := by decide +kernel
set_option maxRecDepth 20000 in
theorem ggX1_copyFrom_X3_copyFrom : GoodIn wsX1_copyFrom wsX3_copyFrom := goodIn_r _ [22, 23, 24, 25, 26, 27, 28, 29, 30, 31, 32, 33, 34, 35, 36, 9, 10, 11, 37, 70, 71, 72, 73, 74] rfl (by decide +kernel)
set_option maxRecDepth 20000 in
theorem gX1_copyFrom_X3_copyFrom : GoodIn wsX1_copyFrom (wsV RX1 51 RX3 yX3_copyFrom wsX3_copyFrom) := goodIn_app (goodIn_of _ (by decide +kernel)) ggX1_copyFrom_X3_copyFrom
set_option maxRecDepth 20000 in
theorem ggX1_copyFrom_X0_copyFrom : GoodIn wsX1_copyFrom wsX0_copyFrom := goodIn_r _ [42, 43, 44, 45, 46, 75, 76, 77, 78] rfl (by decide +kernel)
set_option maxRecDepth 20000 in
theorem gX1_copyFrom_X0_copyFrom : GoodIn wsX1_copyFrom (wsV RX1 55 RX0 yX0_copyFrom wsX0_copyFrom) := goodIn_app (goodIn_of _ (by decide +kernel)) ggX1_copyFrom_X0_copyFrom
set_option maxRecDepth 20000 in
theorem ggX1_copyFrom_X5_copyFrom : GoodIn wsX1_copyFrom wsX5_copyFrom := goodIn_r _ [28, 29, 30, 31, 32, 33, 34, 35, 36, 9, 10, 11, 37, 71, 72, 73, 74] rfl (by decide +kernel)
set_option maxRecDepth 20000 in
theorem gX1_copyFrom_X5_copyFrom : GoodIn wsX1_copyFrom (wsV RX1 58 RX5 yX5_copyFrom wsX5_copyFrom) := goodIn_app (goodIn_of _ (by decide +kernel)) ggX1_copyFrom_X5_copyFrom
set_option maxRecDepth 20000 in
theorem ggX1_copyFrom_X6_copyFrom : GoodIn wsX1_copyFrom wsX6_copyFrom := goodIn_r _ [52, 53, 54, 9, 10, 11, 55, 56, 79, 80, 81] rfl (by decide +kernel)
set_option maxRecDepth 20000 in
theorem gX1_copyFrom_X6_copyFrom : GoodIn wsX1_copyFrom (wsV RX1 61 RX6 yX6_copyFrom wsX6_copyFrom) := goodIn_app (goodIn_of _ (by decide +kernel)) ggX1_copyFrom_X6_copyFrom
theorem dX1_copyFrom_0 : decode cX1_copyFrom 0 = .ok (.aload_n 0, 1) := by decide +kernel
theorem dX1_copyFrom_1 : decode cX1_copyFrom 1 = .ok (.getfield 12, 3) := by decide +kernel
theorem dX1_copyFrom_4 : decode cX1_copyFrom 4 = .ok (.aload_n 1, 1) := by decide +kernel
theorem dX1_copyFrom_5 : decode cX1_copyFrom 5 = .ok (.getfield 12, 3) := by decide +kernel
theorem dX1_copyFrom_8 : decode cX1_copyFrom 8 = .ok (.invokevirtual 51, 3) := by decide +kernel
theorem dX1_copyFrom_11 : decode cX1_copyFrom 11 = .ok (.aload_n 0, 1) := by decide +kernel
theorem dX1_copyFrom_12 : decode cX1_copyFrom 12 = .ok (.getfield 21, 3) := by decide +kernel
theorem dX1_copyFrom_15 : decode cX1_copyFrom 15 = .ok (.aload_n 1, 1) := by decide +kernel
theorem dX1_copyFrom_16 : decode cX1_copyFrom 16 = .ok (.getfield 21, 3) := by decide +kernel
theorem dX1_copyFrom_19 : decode cX1_copyFrom 19 = .ok (.invokevirtual 55, 3) := by decide +kernel
theorem dX1_copyFrom_22 : decode cX1_copyFrom 22 = .ok (.aload_n 0, 1) := by decide +kernel
theorem dX1_copyFrom_23 : decode cX1_copyFrom 23 = .ok (.getfield 25, 3) := by decide +kernel
theorem dX1_copyFrom_26 : decode cX1_copyFrom 26 = .ok (.aload_n 1, 1) := by decide +kernel
theorem dX1_copyFrom_27 : decode cX1_copyFrom 27 = .ok (.getfield 25, 3) := by decide +kernel
theorem dX1_copyFrom_30 : decode cX1_copyFrom 30 = .ok (.invokevirtual 55, 3) := by decide +kernel
theorem dX1_copyFrom_33 : decode cX1_copyFrom 33 = .ok (.aload_n 0, 1) := by decide +kernel
theorem dX1_copyFrom_34 : decode cX1_copyFrom 34 = .ok (.getfield 33, 3) := by decide +kernel
theorem dX1_copyFrom_37 : decode cX1_copyFrom 37 = .ok (.aload_n 1, 1) := by decide +kernel
theorem dX1_copyFrom_38 : decode cX1_copyFrom 38 = .ok (.getfield 33, 3) := by decide +kernel
theorem dX1_copyFrom_41 : decode cX1_copyFrom 41 = .ok (.invokevirtual 58, 3) := by decide +kernel
theorem dX1_copyFrom_44 : decode cX1_copyFrom 44 = .ok (.aload_n 0, 1) := by decide +kernel
theorem dX1_copyFrom_45 : decode cX1_copyFrom 45 = .ok (.getfield 37, 3) := by decide +kernel
theorem dX1_copyFrom_48 : decode cX1_copyFrom 48 = .ok (.aload_n 1, 1) := by decide +kernel
theorem dX1_copyFrom_49 : decode cX1_copyFrom 49 = .ok (.getfield 37, 3) := by decide +kernel
theorem dX1_copyFrom_52 : decode cX1_copyFrom 52 = .ok (.invokevirtual 58, 3) := by decide +kernel
theorem dX1_copyFrom_55 : decode cX1_copyFrom 55 = .ok (.aload_n 0, 1) := by decide +kernel
theorem dX1_copyFrom_56 : decode cX1_copyFrom 56 = .ok (.getfield 43, 3) := by decide +kernel
theorem dX1_copyFrom_59 : decode cX1_copyFrom 59 = .ok (.aload_n 1, 1) := by decide +kernel
theorem dX1_copyFrom_60 : decode cX1_copyFrom 60 = .ok (.getfield 43, 3) := by decide +kernel
theorem dX1_copyFrom_63 : decode cX1_copyFrom 63 = .ok (.invokevirtual 61, 3) := by decide +kernel
theorem dX1_copyFrom_66 : decode cX1_copyFrom 66 = .ok (.aload_n 1, 1) := by decide +kernel
theorem dX1_copyFrom_67 : decode cX1_copyFrom 67 = .ok (.getfield 47, 3) := by decide +kernel
theorem dX1_copyFrom_70 : decode cX1_copyFrom 70 = .ok (.iconst 0, 1) := by decide +kernel
theorem dX1_copyFrom_71 : decode cX1_copyFrom 71 = .ok (.aload_n 0, 1) := by decide +kernel
theorem dX1_copyFrom_72 : decode cX1_copyFrom 72 = .ok (.getfield 47, 3) := by decide +kernel
theorem dX1_copyFrom_75 : decode cX1_copyFrom 75 = .ok (.iconst 0, 1) := by decide +kernel
theorem dX1_copyFrom_76 : decode cX1_copyFrom 76 = .ok (.aload_n 0, 1) := by decide +kernel
theorem dX1_copyFrom_77 : decode cX1_copyFrom 77 = .ok (.getfield 47, 3) := by decide +kernel
theorem dX1_copyFrom_80 : decode cX1_copyFrom 80 = .ok (.arraylength, 1) := by decide +kernel
theorem dX1_copyFrom_81 : decode cX1_copyFrom 81 = .ok (.invokestatic 64, 3) := by decide +kernel
theorem dX1_copyFrom_84 : decode cX1_copyFrom 84 = .ok (.aload_n 0, 1) := by decide +kernel
theorem dX1_copyFrom_85 : decode cX1_copyFrom 85 = .ok (.aload_n 1, 1) := by decide +kernel
theorem dX1_copyFrom_86 : decode cX1_copyFrom 86 = .ok (.getfield 70, 3) := by decide +kernel
theorem dX1_copyFrom_89 : decode cX1_copyFrom 89 = .ok (.putfield 70, 3) := by decide +kernel
theorem dX1_copyFrom_92 : decode cX1_copyFrom 92 = .ok (.aload_n 0, 1) := by decide +kernel
theorem dX1_copyFrom_93 : decode cX1_copyFrom 93 = .ok (.aload_n 1, 1) := by decide +kernel
theorem dX1_copyFrom_94 : decode cX1_copyFrom 94 = .ok (.getfield 74, 3) := by decide +kernel
theorem dX1_copyFrom_97 : decode cX1_copyFrom 97 = .ok (.putfield 74, 3) := by decide +kernel
theorem dX1_copyFrom_100 : decode cX1_copyFrom 100 = .ok (.aload_n 0, 1) := by decide +kernel
theorem dX1_copyFrom_101 : decode cX1_copyFrom 101 = .ok (.aload_n 1, 1) := by decide +kernel
theorem dX1_copyFrom_102 : decode cX1_copyFrom 102 = .ok (.getfield 77, 3) := by decide +kernel
theorem dX1_copyFrom_105 : decode cX1_copyFrom 105 = .ok (.putfield 77, 3) := by decide +kernel
theorem dX1_copyFrom_108 : decode cX1_copyFrom 108 = .ok (.aload_n 0, 1) := by decide +kernel
theorem dX1_copyFrom_109 : decode cX1_copyFrom 109 = .ok (.aload_n 1, 1) := by decide +kernel
theorem dX1_copyFrom_110 : decode cX1_copyFrom 110 = .ok (.getfield 80, 3) := by decide +kernel
theorem dX1_copyFrom_113 : decode cX1_copyFrom 113 = .ok (.putfield 80, 3) := by decide +kernel
theorem dX1_copyFrom_116 : decode cX1_copyFrom 116 = .ok (.aload_n 0, 1) := by decide +kernel
theorem dX1_copyFrom_117 : decode cX1_copyFrom 117 = .ok (.aload_n 1, 1) := by decide +kernel
theorem dX1_copyFrom_118 : decode cX1_copyFrom 118 = .ok (.getfield 83, 3) := by decide +kernel
theorem dX1_copyFrom_121 : decode cX1_copyFrom 121 = .ok (.putfield 83, 3) := by decide +kernel
theorem dX1_copyFrom_124 : decode cX1_copyFrom 124 = .ok (.aload_n 0, 1) := by decide +kernel
theorem dX1_copyFrom_125 : decode cX1_copyFrom 125 = .ok (.aload_n 1, 1) := by decide +kernel
theorem dX1_copyFrom_126 : decode cX1_copyFrom 126 = .ok (.getfield 86, 3) := by decide +kernel
theorem dX1_copyFrom_129 : decode cX1_copyFrom 129 = .ok (.putfield 86, 3) := by decide +kernel
theorem dX1_copyFrom_132 : decode cX1_copyFrom 132 = .ok (.return_, 1) := by decide +kernel
theorem dX1_burrNumbered_0 : decode cX1_burrNumbered 0 = .ok (.iload_n 1, 1) := by decide +kernel
theorem dX1_burrNumbered_1 : decode cX1_burrNumbered 1 = .ok (.ifCond .ne 10, 3) := by decide +kernel
theorem dX1_burrNumbered_4 : decode cX1_burrNumbered 4 = .ok (.aload_n 0, 1) := by decide +kernel
theorem dX1_burrNumbered_5 : decode cX1_burrNumbered 5 = .ok (.getfield 21, 3) := by decide +kernel
theorem dX1_burrNumbered_8 : decode cX1_burrNumbered 8 = .ok (.goto 7, 3) := by decide +kernel
theorem dX1_burrNumbered_11 : decode cX1_burrNumbered 11 = .ok (.aload_n 0, 1) := by decide +kernel
theorem dX1_burrNumbered_12 : decode cX1_burrNumbered 12 = .ok (.getfield 25, 3) := by decide +kernel
theorem dX1_burrNumbered_15 : decode cX1_burrNumbered 15 = .ok (.areturn, 1) := by decide +kernel
set_option maxRecDepth 20000 in
theorem ggX1_fillIn_X7_isZeroOrOne : GoodIn wsX1_fillIn wsX7_isZeroOrOne := goodIn_r _ [7] rfl (by decide +kernel)
set_option maxRecDepth 20000 in
theorem gX1_fillIn_X7_isZeroOrOne_n89 : GoodIn wsX1_fillIn (wsX7_isZeroOrOne) := ggX1_fillIn_X7_isZeroOrOne
set_option maxRecDepth 20000 in
theorem ggX1_fillIn_X3_hasRoomFor : GoodIn wsX1_fillIn wsX3_hasRoomFor := goodIn_r _ [12, 13, 14, 15, 16, 11, 17, 18, 19, 20, 21, 22, 23, 24, 56, 57, 58, 59, 60] rfl (by decide +kernel)
set_option maxRecDepth 20000 in
theorem gX1_fillIn_X3_hasRoomFor : GoodIn wsX1_fillIn (wsV RX1 94 RX3 yX3_hasRoomFor wsX3_hasRoomFor) := goodIn_app (goodIn_of _ (by decide +kernel)) ggX1_fillIn_X3_hasRoomFor
set_option maxRecDepth 20000 in
theorem ggX1_fillIn_X3_pourIn : GoodIn wsX1_fillIn wsX3_pourIn := goodIn_r _ [28, 13, 14, 15, 16, 11, 17, 18, 19, 20, 21, 22, 23, 24, 29, 30, 31, 32, 33, 34, 35, 36, 37, 38, 56, 57, 58, 59, 60] rfl (by decide +kernel)
set_option maxRecDepth 20000 in
theorem gX1_fillIn_X3_pourIn : GoodIn wsX1_fillIn (wsV RX1 99 RX3 yX3_pourIn wsX3_pourIn) := goodIn_app (goodIn_of _ (by decide +kernel)) ggX1_fillIn_X3_pourIn
set_option maxRecDepth 20000 in
theorem ggX1_fillIn_X3_amount : GoodIn wsX1_fillIn wsX3_amount := goodIn_r _ [42, 13, 56, 57, 58, 59, 60] rfl (by decide +kernel)
set_option maxRecDepth 20000 in
theorem gX1_fillIn_X3_amount : GoodIn wsX1_fillIn (wsV RX1 103 RX3 yX3_amount wsX3_amount) := goodIn_app (goodIn_of _ (by decide +kernel)) ggX1_fillIn_X3_amount
theorem dX1_fillIn_0 : decode cX1_fillIn 0 = .ok (.iload_n 1, 1) := by decide +kernel
theorem dX1_fillIn_1 : decode cX1_fillIn 1 = .ok (.invokestatic 89, 3) := by decide +kernel
theorem dX1_fillIn_4 : decode cX1_fillIn 4 = .ok (.ifCond .eq 15, 3) := by decide +kernel
theorem dX1_fillIn_7 : decode cX1_fillIn 7 = .ok (.iload_n 2, 1) := by decide +kernel
theorem dX1_fillIn_8 : decode cX1_fillIn 8 = .ok (.iconst 1, 1) := by decide +kernel
theorem dX1_fillIn_9 : decode cX1_fillIn 9 = .ok (.if_icmp .lt 10, 3) := by decide +kernel
theorem dX1_fillIn_12 : decode cX1_fillIn 12 = .ok (.iload_n 2, 1) := by decide +kernel
theorem dX1_fillIn_13 : decode cX1_fillIn 13 = .ok (.sipush 999, 3) := by decide +kernel
theorem dX1_fillIn_16 : decode cX1_fillIn 16 = .ok (.if_icmp .le 6, 3) := by decide +kernel
theorem dX1_fillIn_19 : decode cX1_fillIn 19 = .ok (.ldc 93, 2) := by decide +kernel
theorem dX1_fillIn_21 : decode cX1_fillIn 21 = .ok (.ireturn, 1) := by decide +kernel
theorem dX1_fillIn_22 : decode cX1_fillIn 22 = .ok (.aload_n 0, 1) := by decide +kernel
theorem dX1_fillIn_23 : decode cX1_fillIn 23 = .ok (.getfield 12, 3) := by decide +kernel
theorem dX1_fillIn_26 : decode cX1_fillIn 26 = .ok (.iload_n 1, 1) := by decide +kernel
theorem dX1_fillIn_27 : decode cX1_fillIn 27 = .ok (.iload_n 2, 1) := by decide +kernel
theorem dX1_fillIn_28 : decode cX1_fillIn 28 = .ok (.invokevirtual 94, 3) := by decide +kernel
theorem dX1_fillIn_31 : decode cX1_fillIn 31 = .ok (.ifCond .ne 6, 3) := by decide +kernel
theorem dX1_fillIn_34 : decode cX1_fillIn 34 = .ok (.ldc 98, 2) := by decide +kernel
theorem dX1_fillIn_36 : decode cX1_fillIn 36 = .ok (.ireturn, 1) := by decide +kernel
theorem dX1_fillIn_37 : decode cX1_fillIn 37 = .ok (.aload_n 0, 1) := by decide +kernel
theorem dX1_fillIn_38 : decode cX1_fillIn 38 = .ok (.getfield 12, 3) := by decide +kernel
theorem dX1_fillIn_41 : decode cX1_fillIn 41 = .ok (.iload_n 1, 1) := by decide +kernel
theorem dX1_fillIn_42 : decode cX1_fillIn 42 = .ok (.iload_n 2, 1) := by decide +kernel
theorem dX1_fillIn_43 : decode cX1_fillIn 43 = .ok (.invokevirtual 99, 3) := by decide +kernel
theorem dX1_fillIn_46 : decode cX1_fillIn 46 = .ok (.aload_n 0, 1) := by decide +kernel
theorem dX1_fillIn_47 : decode cX1_fillIn 47 = .ok (.dup, 1) := by decide +kernel
theorem dX1_fillIn_48 : decode cX1_fillIn 48 = .ok (.getfield 74, 3) := by decide +kernel
theorem dX1_fillIn_51 : decode cX1_fillIn 51 = .ok (.iload_n 2, 1) := by decide +kernel
theorem dX1_fillIn_52 : decode cX1_fillIn 52 = .ok (.iadd, 1) := by decide +kernel
theorem dX1_fillIn_53 : decode cX1_fillIn 53 = .ok (.putfield 74, 3) := by decide +kernel
theorem dX1_fillIn_56 : decode cX1_fillIn 56 = .ok (.aload_n 0, 1) := by decide +kernel
theorem dX1_fillIn_57 : decode cX1_fillIn 57 = .ok (.getfield 12, 3) := by decide +kernel
theorem dX1_fillIn_60 : decode cX1_fillIn 60 = .ok (.invokevirtual 103, 3) := by decide +kernel
theorem dX1_fillIn_63 : decode cX1_fillIn 63 = .ok (.ireturn, 1) := by decide +kernel
set_option maxRecDepth 20000 in
theorem ggX1_grindBy_X7_isZeroOrOne : GoodIn wsX1_grindBy wsX7_isZeroOrOne := goodIn_r _ [15] rfl (by decide +kernel)
set_option maxRecDepth 20000 in
theorem gX1_grindBy_X7_isZeroOrOne_n89 : GoodIn wsX1_grindBy (wsX7_isZeroOrOne) := ggX1_grindBy_X7_isZeroOrOne
set_option maxRecDepth 20000 in
theorem ggX1_grindBy_X3_amount : GoodIn wsX1_grindBy wsX3_amount := goodIn_r _ [20, 21, 106, 102, 103, 104, 105] rfl (by decide +kernel)
set_option maxRecDepth 20000 in
theorem gX1_grindBy_X3_amount : GoodIn wsX1_grindBy (wsV RX1 103 RX3 yX3_amount wsX3_amount) := goodIn_app (goodIn_of _ (by decide +kernel)) ggX1_grindBy_X3_amount
set_option maxRecDepth 20000 in
theorem ggX1_grindBy_X1_burrNumbered : GoodIn wsX1_grindBy wsX1_burrNumbered := goodIn_r _ [26, 27, 28, 89, 90, 91, 92, 93, 94, 95, 96, 97, 98, 99, 100, 101] rfl (by decide +kernel)
set_option maxRecDepth 20000 in
theorem gX1_grindBy_X1_burrNumbered : GoodIn wsX1_grindBy (wsV RX1 117 RX1 yX1_burrNumbered wsX1_burrNumbered) := goodIn_app (goodIn_of _ (by decide +kernel)) ggX1_grindBy_X1_burrNumbered
set_option maxRecDepth 20000 in
theorem ggX1_grindBy_X0_gap : GoodIn wsX1_grindBy wsX0_gap := goodIn_r _ [33, 34, 35, 36, 37, 32, 38, 39, 40, 7, 8, 9, 107, 108, 109, 110] rfl (by decide +kernel)
set_option maxRecDepth 20000 in
theorem gX1_grindBy_X0_gap : GoodIn wsX1_grindBy (wsV RX1 121 RX0 yX0_gap wsX0_gap) := goodIn_app (goodIn_of _ (by decide +kernel)) ggX1_grindBy_X0_gap
set_option maxRecDepth 20000 in
theorem ggX1_grindBy_X3_letOut : GoodIn wsX1_grindBy wsX3_letOut := goodIn_r _ [44, 21, 45, 14, 46, 47, 48, 49, 50, 51, 52, 53, 54, 55, 8, 56, 57, 58, 59, 60, 61, 62, 63, 64, 65, 66, 67, 68, 69, 70, 106, 102, 103, 104, 105] rfl (by decide +kernel)
set_option maxRecDepth 20000 in
theorem gX1_grindBy_X3_letOut : GoodIn wsX1_grindBy (wsV RX1 124 RX3 yX3_letOut wsX3_letOut) := goodIn_app (goodIn_of _ (by decide +kernel)) ggX1_grindBy_X3_letOut
set_option maxRecDepth 20000 in
theorem ggX1_grindBy_X0_warmByGrinding : GoodIn wsX1_grindBy wsX0_warmByGrinding := goodIn_r _ [74, 39, 75, 55, 8, 56, 76, 107, 108, 109, 110] rfl (by decide +kernel)
set_option maxRecDepth 20000 in
theorem gX1_grindBy_X0_warmByGrinding : GoodIn wsX1_grindBy (wsV RX1 128 RX0 yX0_warmByGrinding wsX0_warmByGrinding) := goodIn_app (goodIn_of _ (by decide +kernel)) ggX1_grindBy_X0_warmByGrinding
set_option maxRecDepth 20000 in
theorem ggX1_grindBy_X5_letOut : GoodIn wsX1_grindBy wsX5_letOut := goodIn_r _ [51, 52, 53, 54, 55, 8, 56, 57, 58, 59, 60, 61, 50, 62, 63, 64, 65, 66, 67, 68, 69, 70, 102, 103, 104, 105] rfl (by decide +kernel)
set_option maxRecDepth 20000 in
theorem gX1_grindBy_X5_letOut : GoodIn wsX1_grindBy (wsV RX1 131 RX5 yX5_letOut wsX5_letOut) := goodIn_app (goodIn_of _ (by decide +kernel)) ggX1_grindBy_X5_letOut
set_option maxRecDepth 20000 in
theorem ggX1_grindBy_X1_passSeconds : GoodIn wsX1_grindBy wsX1_passSeconds := goodIn_r _ [81, 82, 27, 28, 83, 84, 85, 32, 86, 39, 87, 14, 88, 89, 90, 91, 92, 93, 94, 95, 96, 97, 98, 99, 100, 101, 107, 108, 109, 110] rfl (by decide +kernel)
set_option maxRecDepth 20000 in
theorem gX1_grindBy_X1_passSeconds : GoodIn wsX1_grindBy (wsV RX1 134 RX1 yX1_passSeconds wsX1_passSeconds) := goodIn_app (goodIn_of _ (by decide +kernel)) ggX1_grindBy_X1_passSeconds
theorem dX1_grindBy_0 : decode cX1_grindBy 0 = .ok (.iload_n 1, 1) := by decide +kernel
theorem dX1_grindBy_1 : decode cX1_grindBy 1 = .ok (.invokestatic 89, 3) := by decide +kernel
theorem dX1_grindBy_4 : decode cX1_grindBy 4 = .ok (.ifCond .eq 15, 3) := by decide +kernel
theorem dX1_grindBy_7 : decode cX1_grindBy 7 = .ok (.iload_n 2, 1) := by decide +kernel
theorem dX1_grindBy_8 : decode cX1_grindBy 8 = .ok (.iconst 1, 1) := by decide +kernel
theorem dX1_grindBy_9 : decode cX1_grindBy 9 = .ok (.if_icmp .lt 10, 3) := by decide +kernel
theorem dX1_grindBy_12 : decode cX1_grindBy 12 = .ok (.iload_n 2, 1) := by decide +kernel
theorem dX1_grindBy_13 : decode cX1_grindBy 13 = .ok (.sipush 400, 3) := by decide +kernel
theorem dX1_grindBy_16 : decode cX1_grindBy 16 = .ok (.if_icmp .le 6, 3) := by decide +kernel
theorem dX1_grindBy_19 : decode cX1_grindBy 19 = .ok (.ldc 93, 2) := by decide +kernel
theorem dX1_grindBy_21 : decode cX1_grindBy 21 = .ok (.ireturn, 1) := by decide +kernel
theorem dX1_grindBy_22 : decode cX1_grindBy 22 = .ok (.aload_n 0, 1) := by decide +kernel
theorem dX1_grindBy_23 : decode cX1_grindBy 23 = .ok (.getfield 12, 3) := by decide +kernel
theorem dX1_grindBy_26 : decode cX1_grindBy 26 = .ok (.invokevirtual 103, 3) := by decide +kernel
theorem dX1_grindBy_29 : decode cX1_grindBy 29 = .ok (.iload_n 2, 1) := by decide +kernel
theorem dX1_grindBy_30 : decode cX1_grindBy 30 = .ok (.if_icmp .ge 6, 3) := by decide +kernel
theorem dX1_grindBy_33 : decode cX1_grindBy 33 = .ok (.ldc 107, 2) := by decide +kernel
theorem dX1_grindBy_35 : decode cX1_grindBy 35 = .ok (.ireturn, 1) := by decide +kernel
theorem dX1_grindBy_36 : decode cX1_grindBy 36 = .ok (.iconst 0, 1) := by decide +kernel
theorem dX1_grindBy_37 : decode cX1_grindBy 37 = .ok (.aload_n 0, 1) := by decide +kernel
theorem dX1_grindBy_38 : decode cX1_grindBy 38 = .ok (.getfield 33, 3) := by decide +kernel
theorem dX1_grindBy_41 : decode cX1_grindBy 41 = .ok (.getfield 108, 3) := by decide +kernel
theorem dX1_grindBy_44 : decode cX1_grindBy 44 = .ok (.iload_n 2, 1) := by decide +kernel
theorem dX1_grindBy_45 : decode cX1_grindBy 45 = .ok (.iadd, 1) := by decide +kernel
theorem dX1_grindBy_46 : decode cX1_grindBy 46 = .ok (.aload_n 0, 1) := by decide +kernel
theorem dX1_grindBy_47 : decode cX1_grindBy 47 = .ok (.getfield 47, 3) := by decide +kernel
theorem dX1_grindBy_50 : decode cX1_grindBy 50 = .ok (.iconst 2, 1) := by decide +kernel
theorem dX1_grindBy_51 : decode cX1_grindBy 51 = .ok (.iaload, 1) := by decide +kernel
theorem dX1_grindBy_52 : decode cX1_grindBy 52 = .ok (.isub, 1) := by decide +kernel
theorem dX1_grindBy_53 : decode cX1_grindBy 53 = .ok (.invokestatic 111, 3) := by decide +kernel
theorem dX1_grindBy_56 : decode cX1_grindBy 56 = .ok (.istore_n 3, 1) := by decide +kernel
theorem dX1_grindBy_57 : decode cX1_grindBy 57 = .ok (.aload_n 0, 1) := by decide +kernel
theorem dX1_grindBy_58 : decode cX1_grindBy 58 = .ok (.getfield 37, 3) := by decide +kernel
theorem dX1_grindBy_61 : decode cX1_grindBy 61 = .ok (.getfield 108, 3) := by decide +kernel
theorem dX1_grindBy_64 : decode cX1_grindBy 64 = .ok (.iload_n 3, 1) := by decide +kernel
theorem dX1_grindBy_65 : decode cX1_grindBy 65 = .ok (.iadd, 1) := by decide +kernel
theorem dX1_grindBy_66 : decode cX1_grindBy 66 = .ok (.sipush 400, 3) := by decide +kernel
theorem dX1_grindBy_69 : decode cX1_grindBy 69 = .ok (.if_icmp .le 6, 3) := by decide +kernel
theorem dX1_grindBy_72 : decode cX1_grindBy 72 = .ok (.ldc 98, 2) := by decide +kernel
theorem dX1_grindBy_74 : decode cX1_grindBy 74 = .ok (.ireturn, 1) := by decide +kernel
theorem dX1_grindBy_75 : decode cX1_grindBy 75 = .ok (.aload_n 0, 1) := by decide +kernel
theorem dX1_grindBy_76 : decode cX1_grindBy 76 = .ok (.iload_n 1, 1) := by decide +kernel
theorem dX1_grindBy_77 : decode cX1_grindBy 77 = .ok (.invokevirtual 117, 3) := by decide +kernel
theorem dX1_grindBy_80 : decode cX1_grindBy 80 = .ok (.astore 4, 2) := by decide +kernel
theorem dX1_grindBy_82 : decode cX1_grindBy 82 = .ok (.aload_n 0, 1) := by decide +kernel
theorem dX1_grindBy_83 : decode cX1_grindBy 83 = .ok (.getfield 12, 3) := by decide +kernel
theorem dX1_grindBy_86 : decode cX1_grindBy 86 = .ok (.iload_n 2, 1) := by decide +kernel
theorem dX1_grindBy_87 : decode cX1_grindBy 87 = .ok (.iload_n 1, 1) := by decide +kernel
theorem dX1_grindBy_88 : decode cX1_grindBy 88 = .ok (.aload 4, 2) := by decide +kernel
theorem dX1_grindBy_90 : decode cX1_grindBy 90 = .ok (.invokevirtual 121, 3) := by decide +kernel
theorem dX1_grindBy_93 : decode cX1_grindBy 93 = .ok (.aload_n 0, 1) := by decide +kernel
theorem dX1_grindBy_94 : decode cX1_grindBy 94 = .ok (.getfield 33, 3) := by decide +kernel
theorem dX1_grindBy_97 : decode cX1_grindBy 97 = .ok (.invokevirtual 124, 3) := by decide +kernel
theorem dX1_grindBy_100 : decode cX1_grindBy 100 = .ok (.aload 4, 2) := by decide +kernel
theorem dX1_grindBy_102 : decode cX1_grindBy 102 = .ok (.iload_n 2, 1) := by decide +kernel
theorem dX1_grindBy_103 : decode cX1_grindBy 103 = .ok (.invokevirtual 128, 3) := by decide +kernel
theorem dX1_grindBy_106 : decode cX1_grindBy 106 = .ok (.aload_n 0, 1) := by decide +kernel
theorem dX1_grindBy_107 : decode cX1_grindBy 107 = .ok (.getfield 33, 3) := by decide +kernel
theorem dX1_grindBy_110 : decode cX1_grindBy 110 = .ok (.iload_n 3, 1) := by decide +kernel
theorem dX1_grindBy_111 : decode cX1_grindBy 111 = .ok (.iconst 0, 1) := by decide +kernel
theorem dX1_grindBy_112 : decode cX1_grindBy 112 = .ok (.aload_n 0, 1) := by decide +kernel
theorem dX1_grindBy_113 : decode cX1_grindBy 113 = .ok (.getfield 37, 3) := by decide +kernel
theorem dX1_grindBy_116 : decode cX1_grindBy 116 = .ok (.invokevirtual 131, 3) := by decide +kernel
theorem dX1_grindBy_119 : decode cX1_grindBy 119 = .ok (.aload_n 0, 1) := by decide +kernel
theorem dX1_grindBy_120 : decode cX1_grindBy 120 = .ok (.dup, 1) := by decide +kernel
theorem dX1_grindBy_121 : decode cX1_grindBy 121 = .ok (.getfield 77, 3) := by decide +kernel
theorem dX1_grindBy_124 : decode cX1_grindBy 124 = .ok (.iload_n 2, 1) := by decide +kernel
theorem dX1_grindBy_125 : decode cX1_grindBy 125 = .ok (.iadd, 1) := by decide +kernel
theorem dX1_grindBy_126 : decode cX1_grindBy 126 = .ok (.putfield 77, 3) := by decide +kernel
theorem dX1_grindBy_129 : decode cX1_grindBy 129 = .ok (.aload_n 0, 1) := by decide +kernel
theorem dX1_grindBy_130 : decode cX1_grindBy 130 = .ok (.iload_n 2, 1) := by decide +kernel
theorem dX1_grindBy_131 : decode cX1_grindBy 131 = .ok (.bipush 9, 2) := by decide +kernel
theorem dX1_grindBy_133 : decode cX1_grindBy 133 = .ok (.iadd, 1) := by decide +kernel
theorem dX1_grindBy_134 : decode cX1_grindBy 134 = .ok (.bipush 10, 2) := by decide +kernel
theorem dX1_grindBy_136 : decode cX1_grindBy 136 = .ok (.idiv, 1) := by decide +kernel
theorem dX1_grindBy_137 : decode cX1_grindBy 137 = .ok (.invokevirtual 134, 3) := by decide +kernel
theorem dX1_grindBy_140 : decode cX1_grindBy 140 = .ok (.iload_n 3, 1) := by decide +kernel
theorem dX1_grindBy_141 : decode cX1_grindBy 141 = .ok (.ireturn, 1) := by decide +kernel
set_option maxRecDepth 20000 in
theorem ggX1_turnDial_X7_isZeroOrOne : GoodIn wsX1_turnDial wsX7_isZeroOrOne := goodIn_r _ [4] rfl (by decide +kernel)
set_option maxRecDepth 20000 in
theorem gX1_turnDial_X7_isZeroOrOne_n89 : GoodIn wsX1_turnDial (wsX7_isZeroOrOne) := ggX1_turnDial_X7_isZeroOrOne
set_option maxRecDepth 20000 in
theorem ggX1_turnDial_X1_burrNumbered : GoodIn wsX1_turnDial wsX1_burrNumbered := goodIn_r _ [9, 10, 11, 16, 17, 18, 19, 20, 21, 22, 23, 24, 25, 26, 27, 28] rfl (by decide +kernel)
set_option maxRecDepth 20000 in
theorem gX1_turnDial_X1_burrNumbered : GoodIn wsX1_turnDial (wsV RX1 117 RX1 yX1_burrNumbered wsX1_burrNumbered) := goodIn_app (goodIn_of _ (by decide +kernel)) ggX1_turnDial_X1_burrNumbered
theorem dX1_turnDial_0 : decode cX1_turnDial 0 = .ok (.iload_n 1, 1) := by decide +kernel
theorem dX1_turnDial_1 : decode cX1_turnDial 1 = .ok (.invokestatic 89, 3) := by decide +kernel
theorem dX1_turnDial_4 : decode cX1_turnDial 4 = .ok (.ifCond .eq 14, 3) := by decide +kernel
theorem dX1_turnDial_7 : decode cX1_turnDial 7 = .ok (.iload_n 2, 1) := by decide +kernel
theorem dX1_turnDial_8 : decode cX1_turnDial 8 = .ok (.iconst 1, 1) := by decide +kernel
theorem dX1_turnDial_9 : decode cX1_turnDial 9 = .ok (.if_icmp .lt 9, 3) := by decide +kernel
theorem dX1_turnDial_12 : decode cX1_turnDial 12 = .ok (.iload_n 2, 1) := by decide +kernel
theorem dX1_turnDial_13 : decode cX1_turnDial 13 = .ok (.bipush 60, 2) := by decide +kernel
theorem dX1_turnDial_15 : decode cX1_turnDial 15 = .ok (.if_icmp .le 6, 3) := by decide +kernel
theorem dX1_turnDial_18 : decode cX1_turnDial 18 = .ok (.ldc 93, 2) := by decide +kernel
theorem dX1_turnDial_20 : decode cX1_turnDial 20 = .ok (.ireturn, 1) := by decide +kernel
theorem dX1_turnDial_21 : decode cX1_turnDial 21 = .ok (.aload_n 0, 1) := by decide +kernel
theorem dX1_turnDial_22 : decode cX1_turnDial 22 = .ok (.iload_n 1, 1) := by decide +kernel
theorem dX1_turnDial_23 : decode cX1_turnDial 23 = .ok (.invokevirtual 117, 3) := by decide +kernel
theorem dX1_turnDial_26 : decode cX1_turnDial 26 = .ok (.astore_n 3, 1) := by decide +kernel
theorem dX1_turnDial_27 : decode cX1_turnDial 27 = .ok (.aload_n 3, 1) := by decide +kernel
theorem dX1_turnDial_28 : decode cX1_turnDial 28 = .ok (.getfield 137, 3) := by decide +kernel
theorem dX1_turnDial_31 : decode cX1_turnDial 31 = .ok (.istore 4, 2) := by decide +kernel
theorem dX1_turnDial_33 : decode cX1_turnDial 33 = .ok (.aload_n 3, 1) := by decide +kernel
theorem dX1_turnDial_34 : decode cX1_turnDial 34 = .ok (.iload_n 2, 1) := by decide +kernel
theorem dX1_turnDial_35 : decode cX1_turnDial 35 = .ok (.putfield 137, 3) := by decide +kernel
theorem dX1_turnDial_38 : decode cX1_turnDial 38 = .ok (.iload 4, 2) := by decide +kernel
theorem dX1_turnDial_40 : decode cX1_turnDial 40 = .ok (.ireturn, 1) := by decide +kernel
set_option maxRecDepth 20000 in
theorem ggX1_letPass_X1_passSeconds : GoodIn wsX1_letPass wsX1_passSeconds := goodIn_r _ [8, 9, 2, 3, 10, 11, 12, 13, 14, 15, 16, 17, 18, 19, 20, 21, 22, 23, 24, 25, 26, 27, 28, 29, 30, 31, 32, 33, 34, 35] rfl (by decide +kernel)
set_option maxRecDepth 20000 in
theorem gX1_letPass_X1_passSeconds : GoodIn wsX1_letPass (wsV RX1 134 RX1 yX1_passSeconds wsX1_passSeconds) := goodIn_app (goodIn_of _ (by decide +kernel)) ggX1_letPass_X1_passSeconds
theorem dX1_letPass_0 : decode cX1_letPass 0 = .ok (.iload_n 1, 1) := by decide +kernel
theorem dX1_letPass_1 : decode cX1_letPass 1 = .ok (.iconst 1, 1) := by decide +kernel
theorem dX1_letPass_2 : decode cX1_letPass 2 = .ok (.if_icmp .lt 10, 3) := by decide +kernel
theorem dX1_letPass_5 : decode cX1_letPass 5 = .ok (.iload_n 1, 1) := by decide +kernel
theorem dX1_letPass_6 : decode cX1_letPass 6 = .ok (.sipush 999, 3) := by decide +kernel
theorem dX1_letPass_9 : decode cX1_letPass 9 = .ok (.if_icmp .le 6, 3) := by decide +kernel
theorem dX1_letPass_12 : decode cX1_letPass 12 = .ok (.ldc 93, 2) := by decide +kernel
theorem dX1_letPass_14 : decode cX1_letPass 14 = .ok (.ireturn, 1) := by decide +kernel
theorem dX1_letPass_15 : decode cX1_letPass 15 = .ok (.aload_n 0, 1) := by decide +kernel
theorem dX1_letPass_16 : decode cX1_letPass 16 = .ok (.getfield 21, 3) := by decide +kernel
theorem dX1_letPass_19 : decode cX1_letPass 19 = .ok (.getfield 140, 3) := by decide +kernel
theorem dX1_letPass_22 : decode cX1_letPass 22 = .ok (.aload_n 0, 1) := by decide +kernel
theorem dX1_letPass_23 : decode cX1_letPass 23 = .ok (.getfield 25, 3) := by decide +kernel
theorem dX1_letPass_26 : decode cX1_letPass 26 = .ok (.getfield 140, 3) := by decide +kernel
theorem dX1_letPass_29 : decode cX1_letPass 29 = .ok (.iadd, 1) := by decide +kernel
theorem dX1_letPass_30 : decode cX1_letPass 30 = .ok (.istore_n 2, 1) := by decide +kernel
theorem dX1_letPass_31 : decode cX1_letPass 31 = .ok (.aload_n 0, 1) := by decide +kernel
theorem dX1_letPass_32 : decode cX1_letPass 32 = .ok (.iload_n 1, 1) := by decide +kernel
theorem dX1_letPass_33 : decode cX1_letPass 33 = .ok (.invokevirtual 134, 3) := by decide +kernel
theorem dX1_letPass_36 : decode cX1_letPass 36 = .ok (.iload_n 2, 1) := by decide +kernel
theorem dX1_letPass_37 : decode cX1_letPass 37 = .ok (.aload_n 0, 1) := by decide +kernel
theorem dX1_letPass_38 : decode cX1_letPass 38 = .ok (.getfield 21, 3) := by decide +kernel
theorem dX1_letPass_41 : decode cX1_letPass 41 = .ok (.getfield 140, 3) := by decide +kernel
theorem dX1_letPass_44 : decode cX1_letPass 44 = .ok (.isub, 1) := by decide +kernel
theorem dX1_letPass_45 : decode cX1_letPass 45 = .ok (.aload_n 0, 1) := by decide +kernel
theorem dX1_letPass_46 : decode cX1_letPass 46 = .ok (.getfield 25, 3) := by decide +kernel
theorem dX1_letPass_49 : decode cX1_letPass 49 = .ok (.getfield 140, 3) := by decide +kernel
theorem dX1_letPass_52 : decode cX1_letPass 52 = .ok (.isub, 1) := by decide +kernel
theorem dX1_letPass_53 : decode cX1_letPass 53 = .ok (.ireturn, 1) := by decide +kernel
set_option maxRecDepth 20000 in
theorem ggX1_passSeconds_X0_cool : GoodIn wsX1_passSeconds wsX0_cool := goodIn_r _ [8, 9, 10, 11, 12, 26, 27, 28, 29] rfl (by decide +kernel)
set_option maxRecDepth 20000 in
theorem gX1_passSeconds_X0_cool : GoodIn wsX1_passSeconds (wsV RX1 143 RX0 yX0_cool wsX0_cool) := goodIn_app (goodIn_of _ (by decide +kernel)) ggX1_passSeconds_X0_cool
theorem dX1_passSeconds_0 : decode cX1_passSeconds 0 = .ok (.aload_n 0, 1) := by decide +kernel
theorem dX1_passSeconds_1 : decode cX1_passSeconds 1 = .ok (.getfield 70, 3) := by decide +kernel
theorem dX1_passSeconds_4 : decode cX1_passSeconds 4 = .ok (.iload_n 1, 1) := by decide +kernel
theorem dX1_passSeconds_5 : decode cX1_passSeconds 5 = .ok (.iadd, 1) := by decide +kernel
theorem dX1_passSeconds_6 : decode cX1_passSeconds 6 = .ok (.bipush 10, 2) := by decide +kernel
theorem dX1_passSeconds_8 : decode cX1_passSeconds 8 = .ok (.idiv, 1) := by decide +kernel
theorem dX1_passSeconds_9 : decode cX1_passSeconds 9 = .ok (.aload_n 0, 1) := by decide +kernel
theorem dX1_passSeconds_10 : decode cX1_passSeconds 10 = .ok (.getfield 70, 3) := by decide +kernel
theorem dX1_passSeconds_13 : decode cX1_passSeconds 13 = .ok (.bipush 10, 2) := by decide +kernel
theorem dX1_passSeconds_15 : decode cX1_passSeconds 15 = .ok (.idiv, 1) := by decide +kernel
theorem dX1_passSeconds_16 : decode cX1_passSeconds 16 = .ok (.isub, 1) := by decide +kernel
theorem dX1_passSeconds_17 : decode cX1_passSeconds 17 = .ok (.istore_n 2, 1) := by decide +kernel
theorem dX1_passSeconds_18 : decode cX1_passSeconds 18 = .ok (.aload_n 0, 1) := by decide +kernel
theorem dX1_passSeconds_19 : decode cX1_passSeconds 19 = .ok (.getfield 21, 3) := by decide +kernel
theorem dX1_passSeconds_22 : decode cX1_passSeconds 22 = .ok (.iload_n 2, 1) := by decide +kernel
theorem dX1_passSeconds_23 : decode cX1_passSeconds 23 = .ok (.invokevirtual 143, 3) := by decide +kernel
theorem dX1_passSeconds_26 : decode cX1_passSeconds 26 = .ok (.aload_n 0, 1) := by decide +kernel
theorem dX1_passSeconds_27 : decode cX1_passSeconds 27 = .ok (.getfield 25, 3) := by decide +kernel
theorem dX1_passSeconds_30 : decode cX1_passSeconds 30 = .ok (.iload_n 2, 1) := by decide +kernel
theorem dX1_passSeconds_31 : decode cX1_passSeconds 31 = .ok (.invokevirtual 143, 3) := by decide +kernel
theorem dX1_passSeconds_34 : decode cX1_passSeconds 34 = .ok (.aload_n 0, 1) := by decide +kernel
theorem dX1_passSeconds_35 : decode cX1_passSeconds 35 = .ok (.dup, 1) := by decide +kernel
theorem dX1_passSeconds_36 : decode cX1_passSeconds 36 = .ok (.getfield 70, 3) := by decide +kernel
theorem dX1_passSeconds_39 : decode cX1_passSeconds 39 = .ok (.iload_n 1, 1) := by decide +kernel
theorem dX1_passSeconds_40 : decode cX1_passSeconds 40 = .ok (.iadd, 1) := by decide +kernel
theorem dX1_passSeconds_41 : decode cX1_passSeconds 41 = .ok (.putfield 70, 3) := by decide +kernel
theorem dX1_passSeconds_44 : decode cX1_passSeconds 44 = .ok (.return_, 1) := by decide +kernel
set_option maxRecDepth 20000 in
theorem ggX1_makeShot_X1_timeOfBasket : GoodIn wsX1_makeShot wsX1_timeOfBasket := goodIn_r _ [9, 1, 10, 11, 12, 13, 14, 15, 16, 17, 18, 19, 20, 21, 22, 23, 24, 25, 8, 26, 27, 28, 29, 30, 31, 32, 33, 34, 35, 36, 37, 38, 100, 101, 102, 103, 104, 105, 106, 107, 108, 109, 110, 111, 112, 113, 114, 115, 116] rfl (by decide +kernel)
set_option maxRecDepth 20000 in
theorem gX1_makeShot_X1_timeOfBasket : GoodIn wsX1_makeShot (wsV RX1 146 RX1 yX1_timeOfBasket wsX1_timeOfBasket) := goodIn_app (goodIn_of _ (by decide +kernel)) ggX1_makeShot_X1_timeOfBasket
set_option maxRecDepth 20000 in
theorem ggX1_makeShot_X5_isMostly : GoodIn wsX1_makeShot wsX5_isMostly := goodIn_r _ [42, 16, 22, 17, 43, 113, 114, 115, 116] rfl (by decide +kernel)
set_option maxRecDepth 20000 in
theorem gX1_makeShot_X5_isMostly : GoodIn wsX1_makeShot (wsV RX1 149 RX5 yX5_isMostly wsX5_isMostly) := goodIn_app (goodIn_of _ (by decide +kernel)) ggX1_makeShot_X5_isMostly
set_option maxRecDepth 20000 in
theorem ggX1_makeShot_X6_add : GoodIn wsX1_makeShot wsX6_add := goodIn_r _ [48, 49, 50, 51, 52, 53, 54, 55, 56, 57, 58, 59, 117, 118, 119] rfl (by decide +kernel)
set_option maxRecDepth 20000 in
theorem gX1_makeShot_X6_add : GoodIn wsX1_makeShot (wsV RX1 155 RX6 yX6_add wsX6_add) := goodIn_app (goodIn_of _ (by decide +kernel)) ggX1_makeShot_X6_add
set_option maxRecDepth 20000 in
theorem ggX1_makeShot_X5_clear : GoodIn wsX1_makeShot wsX5_clear := goodIn_r _ [63, 16, 43, 113, 114, 115, 116] rfl (by decide +kernel)
set_option maxRecDepth 20000 in
theorem gX1_makeShot_X5_clear : GoodIn wsX1_makeShot (wsV RX1 159 RX5 yX5_clear wsX5_clear) := goodIn_app (goodIn_of _ (by decide +kernel)) ggX1_makeShot_X5_clear
set_option maxRecDepth 20000 in
theorem ggX1_makeShot_X1_burrNumbered : GoodIn wsX1_makeShot wsX1_burrNumbered := goodIn_r _ [67, 68, 69, 100, 101, 102, 103, 104, 105, 106, 107, 108, 109, 110, 111, 112] rfl (by decide +kernel)
set_option maxRecDepth 20000 in
theorem gX1_makeShot_X1_burrNumbered : GoodIn wsX1_makeShot (wsV RX1 117 RX1 yX1_burrNumbered wsX1_burrNumbered) := goodIn_app (goodIn_of _ (by decide +kernel)) ggX1_makeShot_X1_burrNumbered
set_option maxRecDepth 20000 in
theorem ggX1_makeShot_X1_judge : GoodIn wsX1_makeShot wsX1_judge := goodIn_r _ [73, 34, 74, 75, 58, 76, 77, 78, 79, 80, 81, 82, 83, 84, 85, 86, 87, 57, 59, 88, 100, 101, 102, 103, 104, 105, 106, 107, 108, 109, 110, 111, 112, 120, 121, 122, 123] rfl (by decide +kernel)
set_option maxRecDepth 20000 in
theorem gX1_makeShot_X1_judge : GoodIn wsX1_makeShot (wsV RX1 162 RX1 yX1_judge wsX1_judge) := goodIn_app (goodIn_of _ (by decide +kernel)) ggX1_makeShot_X1_judge
set_option maxRecDepth 20000 in
theorem ggX1_makeShot_X1_passSeconds : GoodIn wsX1_makeShot wsX1_passSeconds := goodIn_r _ [92, 3, 68, 69, 93, 94, 95, 81, 96, 97, 98, 28, 99, 100, 101, 102, 103, 104, 105, 106, 107, 108, 109, 110, 111, 112, 120, 121, 122, 123] rfl (by decide +kernel)
set_option maxRecDepth 20000 in
theorem gX1_makeShot_X1_passSeconds : GoodIn wsX1_makeShot (wsV RX1 134 RX1 yX1_passSeconds wsX1_passSeconds) := goodIn_app (goodIn_of _ (by decide +kernel)) ggX1_makeShot_X1_passSeconds
theorem dX1_makeShot_0 : decode cX1_makeShot 0 = .ok (.aload_n 0, 1) := by decide +kernel
theorem dX1_makeShot_1 : decode cX1_makeShot 1 = .ok (.invokevirtual 146, 3) := by decide +kernel
theorem dX1_makeShot_4 : decode cX1_makeShot 4 = .ok (.istore_n 1, 1) := by decide +kernel
theorem dX1_makeShot_5 : decode cX1_makeShot 5 = .ok (.iload_n 1, 1) := by decide +kernel
theorem dX1_makeShot_6 : decode cX1_makeShot 6 = .ok (.ifCond .ge 5, 3) := by decide +kernel
theorem dX1_makeShot_9 : decode cX1_makeShot 9 = .ok (.iload_n 1, 1) := by decide +kernel
theorem dX1_makeShot_10 : decode cX1_makeShot 10 = .ok (.ireturn, 1) := by decide +kernel
theorem dX1_makeShot_11 : decode cX1_makeShot 11 = .ok (.aload_n 0, 1) := by decide +kernel
theorem dX1_makeShot_12 : decode cX1_makeShot 12 = .ok (.getfield 37, 3) := by decide +kernel
theorem dX1_makeShot_15 : decode cX1_makeShot 15 = .ok (.iconst 2, 1) := by decide +kernel
theorem dX1_makeShot_16 : decode cX1_makeShot 16 = .ok (.invokevirtual 149, 3) := by decide +kernel
theorem dX1_makeShot_19 : decode cX1_makeShot 19 = .ok (.ifCond .eq 7, 3) := by decide +kernel
theorem dX1_makeShot_22 : decode cX1_makeShot 22 = .ok (.iconst 1, 1) := by decide +kernel
theorem dX1_makeShot_23 : decode cX1_makeShot 23 = .ok (.goto 4, 3) := by decide +kernel
theorem dX1_makeShot_26 : decode cX1_makeShot 26 = .ok (.iconst 0, 1) := by decide +kernel
theorem dX1_makeShot_27 : decode cX1_makeShot 27 = .ok (.istore_n 2, 1) := by decide +kernel
theorem dX1_makeShot_28 : decode cX1_makeShot 28 = .ok (.aload_n 0, 1) := by decide +kernel
theorem dX1_makeShot_29 : decode cX1_makeShot 29 = .ok (.getfield 37, 3) := by decide +kernel
theorem dX1_makeShot_32 : decode cX1_makeShot 32 = .ok (.iconst 1, 1) := by decide +kernel
theorem dX1_makeShot_33 : decode cX1_makeShot 33 = .ok (.invokevirtual 149, 3) := by decide +kernel
theorem dX1_makeShot_36 : decode cX1_makeShot 36 = .ok (.ifCond .eq 7, 3) := by decide +kernel
theorem dX1_makeShot_39 : decode cX1_makeShot 39 = .ok (.iconst 1, 1) := by decide +kernel
theorem dX1_makeShot_40 : decode cX1_makeShot 40 = .ok (.goto 4, 3) := by decide +kernel
theorem dX1_makeShot_43 : decode cX1_makeShot 43 = .ok (.iconst 0, 1) := by decide +kernel
theorem dX1_makeShot_44 : decode cX1_makeShot 44 = .ok (.istore_n 3, 1) := by decide +kernel
theorem dX1_makeShot_45 : decode cX1_makeShot 45 = .ok (.aload_n 0, 1) := by decide +kernel
theorem dX1_makeShot_46 : decode cX1_makeShot 46 = .ok (.getfield 43, 3) := by decide +kernel
theorem dX1_makeShot_49 : decode cX1_makeShot 49 = .ok (.iload_n 1, 1) := by decide +kernel
theorem dX1_makeShot_50 : decode cX1_makeShot 50 = .ok (.aload_n 0, 1) := by decide +kernel
theorem dX1_makeShot_51 : decode cX1_makeShot 51 = .ok (.getfield 37, 3) := by decide +kernel
theorem dX1_makeShot_54 : decode cX1_makeShot 54 = .ok (.getfield 108, 3) := by decide +kernel
theorem dX1_makeShot_57 : decode cX1_makeShot 57 = .ok (.iload_n 2, 1) := by decide +kernel
theorem dX1_makeShot_58 : decode cX1_makeShot 58 = .ok (.iload_n 3, 1) := by decide +kernel
theorem dX1_makeShot_59 : decode cX1_makeShot 59 = .ok (.aload_n 0, 1) := by decide +kernel
theorem dX1_makeShot_60 : decode cX1_makeShot 60 = .ok (.getfield 70, 3) := by decide +kernel
theorem dX1_makeShot_63 : decode cX1_makeShot 63 = .ok (.aload_n 0, 1) := by decide +kernel
theorem dX1_makeShot_64 : decode cX1_makeShot 64 = .ok (.getfield 37, 3) := by decide +kernel
theorem dX1_makeShot_67 : decode cX1_makeShot 67 = .ok (.getfield 152, 3) := by decide +kernel
theorem dX1_makeShot_70 : decode cX1_makeShot 70 = .ok (.invokevirtual 155, 3) := by decide +kernel
theorem dX1_makeShot_73 : decode cX1_makeShot 73 = .ok (.aload_n 0, 1) := by decide +kernel
theorem dX1_makeShot_74 : decode cX1_makeShot 74 = .ok (.dup, 1) := by decide +kernel
theorem dX1_makeShot_75 : decode cX1_makeShot 75 = .ok (.getfield 80, 3) := by decide +kernel
theorem dX1_makeShot_78 : decode cX1_makeShot 78 = .ok (.aload_n 0, 1) := by decide +kernel
theorem dX1_makeShot_79 : decode cX1_makeShot 79 = .ok (.getfield 37, 3) := by decide +kernel
theorem dX1_makeShot_82 : decode cX1_makeShot 82 = .ok (.getfield 108, 3) := by decide +kernel
theorem dX1_makeShot_85 : decode cX1_makeShot 85 = .ok (.iadd, 1) := by decide +kernel
theorem dX1_makeShot_86 : decode cX1_makeShot 86 = .ok (.putfield 80, 3) := by decide +kernel
theorem dX1_makeShot_89 : decode cX1_makeShot 89 = .ok (.aload_n 0, 1) := by decide +kernel
theorem dX1_makeShot_90 : decode cX1_makeShot 90 = .ok (.getfield 37, 3) := by decide +kernel
theorem dX1_makeShot_93 : decode cX1_makeShot 93 = .ok (.invokevirtual 159, 3) := by decide +kernel
theorem dX1_makeShot_96 : decode cX1_makeShot 96 = .ok (.aload_n 0, 1) := by decide +kernel
theorem dX1_makeShot_97 : decode cX1_makeShot 97 = .ok (.iload_n 1, 1) := by decide +kernel
theorem dX1_makeShot_98 : decode cX1_makeShot 98 = .ok (.aload_n 0, 1) := by decide +kernel
theorem dX1_makeShot_99 : decode cX1_makeShot 99 = .ok (.iload_n 2, 1) := by decide +kernel
theorem dX1_makeShot_100 : decode cX1_makeShot 100 = .ok (.invokevirtual 117, 3) := by decide +kernel
theorem dX1_makeShot_103 : decode cX1_makeShot 103 = .ok (.invokevirtual 162, 3) := by decide +kernel
theorem dX1_makeShot_106 : decode cX1_makeShot 106 = .ok (.aload_n 0, 1) := by decide +kernel
theorem dX1_makeShot_107 : decode cX1_makeShot 107 = .ok (.iload_n 1, 1) := by decide +kernel
theorem dX1_makeShot_108 : decode cX1_makeShot 108 = .ok (.bipush 10, 2) := by decide +kernel
theorem dX1_makeShot_110 : decode cX1_makeShot 110 = .ok (.idiv, 1) := by decide +kernel
theorem dX1_makeShot_111 : decode cX1_makeShot 111 = .ok (.invokevirtual 134, 3) := by decide +kernel
theorem dX1_makeShot_114 : decode cX1_makeShot 114 = .ok (.iload_n 1, 1) := by decide +kernel
theorem dX1_makeShot_115 : decode cX1_makeShot 115 = .ok (.ireturn, 1) := by decide +kernel
set_option maxRecDepth 20000 in
theorem ggX1_judge_X0_correctBy : GoodIn wsX1_judge wsX0_correctBy := goodIn_r _ [11, 12, 13, 14, 4, 15, 16, 17, 18, 19, 33, 34, 35, 36] rfl (by decide +kernel)
set_option maxRecDepth 20000 in
theorem gX1_judge_X0_correctBy : GoodIn wsX1_judge (wsV RX1 170 RX0 yX0_correctBy wsX0_correctBy) := goodIn_app (goodIn_of _ (by decide +kernel)) ggX1_judge_X0_correctBy
theorem dX1_judge_0 : decode cX1_judge 0 = .ok (.iload_n 1, 1) := by decide +kernel
theorem dX1_judge_1 : decode cX1_judge 1 = .ok (.aload_n 0, 1) := by decide +kernel
theorem dX1_judge_2 : decode cX1_judge 2 = .ok (.getfield 47, 3) := by decide +kernel
theorem dX1_judge_5 : decode cX1_judge 5 = .ok (.iconst 0, 1) := by decide +kernel
theorem dX1_judge_6 : decode cX1_judge 6 = .ok (.iaload, 1) := by decide +kernel
theorem dX1_judge_7 : decode cX1_judge 7 = .ok (.isub, 1) := by decide +kernel
theorem dX1_judge_8 : decode cX1_judge 8 = .ok (.invokestatic 166, 3) := by decide +kernel
theorem dX1_judge_11 : decode cX1_judge 11 = .ok (.aload_n 0, 1) := by decide +kernel
theorem dX1_judge_12 : decode cX1_judge 12 = .ok (.getfield 47, 3) := by decide +kernel
theorem dX1_judge_15 : decode cX1_judge 15 = .ok (.iconst 1, 1) := by decide +kernel
theorem dX1_judge_16 : decode cX1_judge 16 = .ok (.iaload, 1) := by decide +kernel
theorem dX1_judge_17 : decode cX1_judge 17 = .ok (.if_icmp .gt 16, 3) := by decide +kernel
theorem dX1_judge_20 : decode cX1_judge 20 = .ok (.aload_n 0, 1) := by decide +kernel
theorem dX1_judge_21 : decode cX1_judge 21 = .ok (.dup, 1) := by decide +kernel
theorem dX1_judge_22 : decode cX1_judge 22 = .ok (.getfield 86, 3) := by decide +kernel
theorem dX1_judge_25 : decode cX1_judge 25 = .ok (.iconst 1, 1) := by decide +kernel
theorem dX1_judge_26 : decode cX1_judge 26 = .ok (.iadd, 1) := by decide +kernel
theorem dX1_judge_27 : decode cX1_judge 27 = .ok (.putfield 86, 3) := by decide +kernel
theorem dX1_judge_30 : decode cX1_judge 30 = .ok (.goto 24, 3) := by decide +kernel
theorem dX1_judge_33 : decode cX1_judge 33 = .ok (.aload_n 0, 1) := by decide +kernel
theorem dX1_judge_34 : decode cX1_judge 34 = .ok (.getfield 47, 3) := by decide +kernel
theorem dX1_judge_37 : decode cX1_judge 37 = .ok (.iconst 5, 1) := by decide +kernel
theorem dX1_judge_38 : decode cX1_judge 38 = .ok (.iaload, 1) := by decide +kernel
theorem dX1_judge_39 : decode cX1_judge 39 = .ok (.iconst 1, 1) := by decide +kernel
theorem dX1_judge_40 : decode cX1_judge 40 = .ok (.if_icmp .ne 14, 3) := by decide +kernel
theorem dX1_judge_43 : decode cX1_judge 43 = .ok (.aload_n 2, 1) := by decide +kernel
theorem dX1_judge_44 : decode cX1_judge 44 = .ok (.iload_n 1, 1) := by decide +kernel
theorem dX1_judge_45 : decode cX1_judge 45 = .ok (.aload_n 0, 1) := by decide +kernel
theorem dX1_judge_46 : decode cX1_judge 46 = .ok (.getfield 47, 3) := by decide +kernel
theorem dX1_judge_49 : decode cX1_judge 49 = .ok (.iconst 0, 1) := by decide +kernel
theorem dX1_judge_50 : decode cX1_judge 50 = .ok (.iaload, 1) := by decide +kernel
theorem dX1_judge_51 : decode cX1_judge 51 = .ok (.invokevirtual 170, 3) := by decide +kernel
theorem dX1_judge_54 : decode cX1_judge 54 = .ok (.return_, 1) := by decide +kernel
set_option maxRecDepth 20000 in
theorem ggX1_timeOfBasket_X5_amountAt : GoodIn wsX1_timeOfBasket wsX5_amountAt := goodIn_r _ [7, 8, 9, 45, 46, 47, 48] rfl (by decide +kernel)
set_option maxRecDepth 20000 in
theorem gX1_timeOfBasket_X5_amountAt : GoodIn wsX1_timeOfBasket (wsV RX1 173 RX5 yX5_amountAt wsX5_amountAt) := goodIn_app (goodIn_of _ (by decide +kernel)) ggX1_timeOfBasket_X5_amountAt
set_option maxRecDepth 20000 in
theorem ggX1_timeOfBasket_X5_markAt : GoodIn wsX1_timeOfBasket wsX5_markAt := goodIn_r _ [13, 8, 14, 45, 46, 47, 48] rfl (by decide +kernel)
set_option maxRecDepth 20000 in
theorem gX1_timeOfBasket_X5_markAt : GoodIn wsX1_timeOfBasket (wsV RX1 176 RX5 yX5_markAt wsX5_markAt) := goodIn_app (goodIn_of _ (by decide +kernel)) ggX1_timeOfBasket_X5_markAt
set_option maxRecDepth 20000 in
theorem ggX1_timeOfBasket_X1_flowOfMark : GoodIn wsX1_timeOfBasket wsX1_flowOfMark := goodIn_r _ [19, 20, 21, 22, 23, 24, 25, 18, 26, 27, 28, 29, 30, 31, 32, 33, 34, 35, 36, 37, 38, 39, 40, 41, 42, 43, 44] rfl (by decide +kernel)
set_option maxRecDepth 20000 in
theorem gX1_timeOfBasket_X1_flowOfMark : GoodIn wsX1_timeOfBasket (wsV RX1 179 RX1 yX1_flowOfMark wsX1_flowOfMark) := goodIn_app (goodIn_of _ (by decide +kernel)) ggX1_timeOfBasket_X1_flowOfMark
theorem dX1_timeOfBasket_0 : decode cX1_timeOfBasket 0 = .ok (.aload_n 0, 1) := by decide +kernel
theorem dX1_timeOfBasket_1 : decode cX1_timeOfBasket 1 = .ok (.getfield 37, 3) := by decide +kernel
theorem dX1_timeOfBasket_4 : decode cX1_timeOfBasket 4 = .ok (.getfield 108, 3) := by decide +kernel
theorem dX1_timeOfBasket_7 : decode cX1_timeOfBasket 7 = .ok (.iconst 1, 1) := by decide +kernel
theorem dX1_timeOfBasket_8 : decode cX1_timeOfBasket 8 = .ok (.if_icmp .ge 6, 3) := by decide +kernel
theorem dX1_timeOfBasket_11 : decode cX1_timeOfBasket 11 = .ok (.ldc 107, 2) := by decide +kernel
theorem dX1_timeOfBasket_13 : decode cX1_timeOfBasket 13 = .ok (.ireturn, 1) := by decide +kernel
theorem dX1_timeOfBasket_14 : decode cX1_timeOfBasket 14 = .ok (.iconst 0, 1) := by decide +kernel
theorem dX1_timeOfBasket_15 : decode cX1_timeOfBasket 15 = .ok (.istore_n 1, 1) := by decide +kernel
theorem dX1_timeOfBasket_16 : decode cX1_timeOfBasket 16 = .ok (.iconst 0, 1) := by decide +kernel
theorem dX1_timeOfBasket_17 : decode cX1_timeOfBasket 17 = .ok (.istore_n 2, 1) := by decide +kernel
theorem dX1_timeOfBasket_18 : decode cX1_timeOfBasket 18 = .ok (.iload_n 2, 1) := by decide +kernel
theorem dX1_timeOfBasket_19 : decode cX1_timeOfBasket 19 = .ok (.aload_n 0, 1) := by decide +kernel
theorem dX1_timeOfBasket_20 : decode cX1_timeOfBasket 20 = .ok (.getfield 37, 3) := by decide +kernel
theorem dX1_timeOfBasket_23 : decode cX1_timeOfBasket 23 = .ok (.getfield 152, 3) := by decide +kernel
theorem dX1_timeOfBasket_26 : decode cX1_timeOfBasket 26 = .ok (.if_icmp .ge 33, 3) := by decide +kernel
theorem dX1_timeOfBasket_29 : decode cX1_timeOfBasket 29 = .ok (.iload_n 1, 1) := by decide +kernel
theorem dX1_timeOfBasket_30 : decode cX1_timeOfBasket 30 = .ok (.aload_n 0, 1) := by decide +kernel
theorem dX1_timeOfBasket_31 : decode cX1_timeOfBasket 31 = .ok (.getfield 37, 3) := by decide +kernel
theorem dX1_timeOfBasket_34 : decode cX1_timeOfBasket 34 = .ok (.iload_n 2, 1) := by decide +kernel
theorem dX1_timeOfBasket_35 : decode cX1_timeOfBasket 35 = .ok (.invokevirtual 173, 3) := by decide +kernel
theorem dX1_timeOfBasket_38 : decode cX1_timeOfBasket 38 = .ok (.aload_n 0, 1) := by decide +kernel
theorem dX1_timeOfBasket_39 : decode cX1_timeOfBasket 39 = .ok (.aload_n 0, 1) := by decide +kernel
theorem dX1_timeOfBasket_40 : decode cX1_timeOfBasket 40 = .ok (.getfield 37, 3) := by decide +kernel
theorem dX1_timeOfBasket_43 : decode cX1_timeOfBasket 43 = .ok (.iload_n 2, 1) := by decide +kernel
theorem dX1_timeOfBasket_44 : decode cX1_timeOfBasket 44 = .ok (.invokevirtual 176, 3) := by decide +kernel
theorem dX1_timeOfBasket_47 : decode cX1_timeOfBasket 47 = .ok (.invokevirtual 179, 3) := by decide +kernel
theorem dX1_timeOfBasket_50 : decode cX1_timeOfBasket 50 = .ok (.imul, 1) := by decide +kernel
theorem dX1_timeOfBasket_51 : decode cX1_timeOfBasket 51 = .ok (.iadd, 1) := by decide +kernel
theorem dX1_timeOfBasket_52 : decode cX1_timeOfBasket 52 = .ok (.istore_n 1, 1) := by decide +kernel
theorem dX1_timeOfBasket_53 : decode cX1_timeOfBasket 53 = .ok (.iinc 2 1, 3) := by decide +kernel
theorem dX1_timeOfBasket_56 : decode cX1_timeOfBasket 56 = .ok (.goto (-38), 3) := by decide +kernel
theorem dX1_timeOfBasket_59 : decode cX1_timeOfBasket 59 = .ok (.iload_n 1, 1) := by decide +kernel
theorem dX1_timeOfBasket_60 : decode cX1_timeOfBasket 60 = .ok (.aload_n 0, 1) := by decide +kernel
theorem dX1_timeOfBasket_61 : decode cX1_timeOfBasket 61 = .ok (.getfield 37, 3) := by decide +kernel
theorem dX1_timeOfBasket_64 : decode cX1_timeOfBasket 64 = .ok (.getfield 108, 3) := by decide +kernel
theorem dX1_timeOfBasket_67 : decode cX1_timeOfBasket 67 = .ok (.idiv, 1) := by decide +kernel
theorem dX1_timeOfBasket_68 : decode cX1_timeOfBasket 68 = .ok (.ireturn, 1) := by decide +kernel
set_option maxRecDepth 20000 in
theorem ggX1_flowOfMark_X7_kindOfMark : GoodIn wsX1_flowOfMark wsX7_kindOfMark := goodIn_r _ [3] rfl (by decide +kernel)
set_option maxRecDepth 20000 in
theorem gX1_flowOfMark_X7_kindOfMark_n182 : GoodIn wsX1_flowOfMark (wsX7_kindOfMark) := ggX1_flowOfMark_X7_kindOfMark
set_option maxRecDepth 20000 in
theorem ggX1_flowOfMark_X1_hardnessOf : GoodIn wsX1_flowOfMark wsX1_hardnessOf := goodIn_r _ [8, 9, 14, 15, 16, 17, 18, 19, 20, 21, 22, 23, 24, 25, 26] rfl (by decide +kernel)
set_option maxRecDepth 20000 in
theorem gX1_flowOfMark_X1_hardnessOf : GoodIn wsX1_flowOfMark (wsV RX1 185 RX1 yX1_hardnessOf wsX1_hardnessOf) := goodIn_app (goodIn_of _ (by decide +kernel)) ggX1_flowOfMark_X1_hardnessOf
set_option maxRecDepth 20000 in
theorem ggX1_flowOfMark_X7_gapOfMark : GoodIn wsX1_flowOfMark wsX7_gapOfMark := goodIn_r _ [11] rfl (by decide +kernel)
set_option maxRecDepth 20000 in
theorem gX1_flowOfMark_X7_gapOfMark_n188 : GoodIn wsX1_flowOfMark (wsX7_gapOfMark) := ggX1_flowOfMark_X7_gapOfMark
set_option maxRecDepth 20000 in
theorem ggX1_flowOfMark_X7_flowOf : GoodIn wsX1_flowOfMark wsX7_flowOf := goodIn_r _ [13] rfl (by decide +kernel)
set_option maxRecDepth 20000 in
theorem gX1_flowOfMark_X7_flowOf_n191 : GoodIn wsX1_flowOfMark (wsX7_flowOf) := ggX1_flowOfMark_X7_flowOf
theorem dX1_flowOfMark_0 : decode cX1_flowOfMark 0 = .ok (.aload_n 0, 1) := by decide +kernel
theorem dX1_flowOfMark_1 : decode cX1_flowOfMark 1 = .ok (.iload_n 1, 1) := by decide +kernel
theorem dX1_flowOfMark_2 : decode cX1_flowOfMark 2 = .ok (.invokestatic 182, 3) := by decide +kernel
theorem dX1_flowOfMark_5 : decode cX1_flowOfMark 5 = .ok (.invokevirtual 185, 3) := by decide +kernel
theorem dX1_flowOfMark_8 : decode cX1_flowOfMark 8 = .ok (.iload_n 1, 1) := by decide +kernel
theorem dX1_flowOfMark_9 : decode cX1_flowOfMark 9 = .ok (.invokestatic 188, 3) := by decide +kernel
theorem dX1_flowOfMark_12 : decode cX1_flowOfMark 12 = .ok (.invokestatic 191, 3) := by decide +kernel
theorem dX1_flowOfMark_15 : decode cX1_flowOfMark 15 = .ok (.ireturn, 1) := by decide +kernel
theorem dX1_hardnessOf_0 : decode cX1_hardnessOf 0 = .ok (.iload_n 1, 1) := by decide +kernel
theorem dX1_hardnessOf_1 : decode cX1_hardnessOf 1 = .ok (.ifCond .ne 12, 3) := by decide +kernel
theorem dX1_hardnessOf_4 : decode cX1_hardnessOf 4 = .ok (.aload_n 0, 1) := by decide +kernel
theorem dX1_hardnessOf_5 : decode cX1_hardnessOf 5 = .ok (.getfield 47, 3) := by decide +kernel
theorem dX1_hardnessOf_8 : decode cX1_hardnessOf 8 = .ok (.iconst 3, 1) := by decide +kernel
theorem dX1_hardnessOf_9 : decode cX1_hardnessOf 9 = .ok (.iaload, 1) := by decide +kernel
theorem dX1_hardnessOf_10 : decode cX1_hardnessOf 10 = .ok (.goto 9, 3) := by decide +kernel
theorem dX1_hardnessOf_13 : decode cX1_hardnessOf 13 = .ok (.aload_n 0, 1) := by decide +kernel
theorem dX1_hardnessOf_14 : decode cX1_hardnessOf 14 = .ok (.getfield 47, 3) := by decide +kernel
theorem dX1_hardnessOf_17 : decode cX1_hardnessOf 17 = .ok (.iconst 4, 1) := by decide +kernel
theorem dX1_hardnessOf_18 : decode cX1_hardnessOf 18 = .ok (.iaload, 1) := by decide +kernel
theorem dX1_hardnessOf_19 : decode cX1_hardnessOf 19 = .ok (.ireturn, 1) := by decide +kernel
set_option maxRecDepth 20000 in
theorem ggX1_emptyChute_X5_clear : GoodIn wsX1_emptyChute wsX5_clear := goodIn_r _ [7, 8, 9, 23, 24, 25, 26] rfl (by decide +kernel)
set_option maxRecDepth 20000 in
theorem gX1_emptyChute_X5_clear : GoodIn wsX1_emptyChute (wsV RX1 159 RX5 yX5_clear wsX5_clear) := goodIn_app (goodIn_of _ (by decide +kernel)) ggX1_emptyChute_X5_clear
theorem dX1_emptyChute_0 : decode cX1_emptyChute 0 = .ok (.aload_n 0, 1) := by decide +kernel
theorem dX1_emptyChute_1 : decode cX1_emptyChute 1 = .ok (.getfield 33, 3) := by decide +kernel
theorem dX1_emptyChute_4 : decode cX1_emptyChute 4 = .ok (.getfield 108, 3) := by decide +kernel
theorem dX1_emptyChute_7 : decode cX1_emptyChute 7 = .ok (.istore_n 1, 1) := by decide +kernel
theorem dX1_emptyChute_8 : decode cX1_emptyChute 8 = .ok (.aload_n 0, 1) := by decide +kernel
theorem dX1_emptyChute_9 : decode cX1_emptyChute 9 = .ok (.getfield 33, 3) := by decide +kernel
theorem dX1_emptyChute_12 : decode cX1_emptyChute 12 = .ok (.invokevirtual 159, 3) := by decide +kernel
theorem dX1_emptyChute_15 : decode cX1_emptyChute 15 = .ok (.aload_n 0, 1) := by decide +kernel
theorem dX1_emptyChute_16 : decode cX1_emptyChute 16 = .ok (.dup, 1) := by decide +kernel
theorem dX1_emptyChute_17 : decode cX1_emptyChute 17 = .ok (.getfield 83, 3) := by decide +kernel
theorem dX1_emptyChute_20 : decode cX1_emptyChute 20 = .ok (.iload_n 1, 1) := by decide +kernel
theorem dX1_emptyChute_21 : decode cX1_emptyChute 21 = .ok (.iadd, 1) := by decide +kernel
theorem dX1_emptyChute_22 : decode cX1_emptyChute 22 = .ok (.putfield 83, 3) := by decide +kernel
theorem dX1_emptyChute_25 : decode cX1_emptyChute 25 = .ok (.iload_n 1, 1) := by decide +kernel
theorem dX1_emptyChute_26 : decode cX1_emptyChute 26 = .ok (.ireturn, 1) := by decide +kernel
set_option maxRecDepth 20000 in
theorem ggX1_correctByLatest_X7_isZeroOrOne : GoodIn wsX1_correctByLatest wsX7_isZeroOrOne := goodIn_r _ [7] rfl (by decide +kernel)
set_option maxRecDepth 20000 in
theorem gX1_correctByLatest_X7_isZeroOrOne_n89 : GoodIn wsX1_correctByLatest (wsX7_isZeroOrOne) := ggX1_correctByLatest_X7_isZeroOrOne
set_option maxRecDepth 20000 in
theorem ggX1_correctByLatest_X1_burrNumbered : GoodIn wsX1_correctByLatest wsX1_burrNumbered := goodIn_r _ [12, 13, 14, 35, 36, 37, 38, 39, 40, 41, 42, 43, 44, 45, 46, 47] rfl (by decide +kernel)
set_option maxRecDepth 20000 in
theorem gX1_correctByLatest_X1_burrNumbered : GoodIn wsX1_correctByLatest (wsV RX1 117 RX1 yX1_burrNumbered wsX1_burrNumbered) := goodIn_app (goodIn_of _ (by decide +kernel)) ggX1_correctByLatest_X1_burrNumbered
set_option maxRecDepth 20000 in
theorem ggX1_correctByLatest_X6_latestTime : GoodIn wsX1_correctByLatest wsX6_latestTime := goodIn_r _ [19, 20, 48, 49, 50] rfl (by decide +kernel)
set_option maxRecDepth 20000 in
theorem gX1_correctByLatest_X6_latestTime : GoodIn wsX1_correctByLatest (wsV RX1 197 RX6 yX6_latestTime wsX6_latestTime) := goodIn_app (goodIn_of _ (by decide +kernel)) ggX1_correctByLatest_X6_latestTime
set_option maxRecDepth 20000 in
theorem ggX1_correctByLatest_X0_correctBy : GoodIn wsX1_correctByLatest wsX0_correctBy := goodIn_r _ [25, 26, 27, 28, 29, 30, 31, 32, 33, 34, 51, 52, 53, 54] rfl (by decide +kernel)
set_option maxRecDepth 20000 in
theorem gX1_correctByLatest_X0_correctBy : GoodIn wsX1_correctByLatest (wsV RX1 170 RX0 yX0_correctBy wsX0_correctBy) := goodIn_app (goodIn_of _ (by decide +kernel)) ggX1_correctByLatest_X0_correctBy
theorem dX1_correctByLatest_0 : decode cX1_correctByLatest 0 = .ok (.iload_n 1, 1) := by decide +kernel
theorem dX1_correctByLatest_1 : decode cX1_correctByLatest 1 = .ok (.invokestatic 89, 3) := by decide +kernel
theorem dX1_correctByLatest_4 : decode cX1_correctByLatest 4 = .ok (.ifCond .ne 6, 3) := by decide +kernel
theorem dX1_correctByLatest_7 : decode cX1_correctByLatest 7 = .ok (.ldc 93, 2) := by decide +kernel
theorem dX1_correctByLatest_9 : decode cX1_correctByLatest 9 = .ok (.ireturn, 1) := by decide +kernel
theorem dX1_correctByLatest_10 : decode cX1_correctByLatest 10 = .ok (.aload_n 0, 1) := by decide +kernel
theorem dX1_correctByLatest_11 : decode cX1_correctByLatest 11 = .ok (.getfield 43, 3) := by decide +kernel
theorem dX1_correctByLatest_14 : decode cX1_correctByLatest 14 = .ok (.getfield 194, 3) := by decide +kernel
theorem dX1_correctByLatest_17 : decode cX1_correctByLatest 17 = .ok (.iconst 1, 1) := by decide +kernel
theorem dX1_correctByLatest_18 : decode cX1_correctByLatest 18 = .ok (.if_icmp .ge 6, 3) := by decide +kernel
theorem dX1_correctByLatest_21 : decode cX1_correctByLatest 21 = .ok (.ldc 107, 2) := by decide +kernel
theorem dX1_correctByLatest_23 : decode cX1_correctByLatest 23 = .ok (.ireturn, 1) := by decide +kernel
theorem dX1_correctByLatest_24 : decode cX1_correctByLatest 24 = .ok (.aload_n 0, 1) := by decide +kernel
theorem dX1_correctByLatest_25 : decode cX1_correctByLatest 25 = .ok (.iload_n 1, 1) := by decide +kernel
theorem dX1_correctByLatest_26 : decode cX1_correctByLatest 26 = .ok (.invokevirtual 117, 3) := by decide +kernel
theorem dX1_correctByLatest_29 : decode cX1_correctByLatest 29 = .ok (.astore_n 2, 1) := by decide +kernel
theorem dX1_correctByLatest_30 : decode cX1_correctByLatest 30 = .ok (.aload_n 2, 1) := by decide +kernel
theorem dX1_correctByLatest_31 : decode cX1_correctByLatest 31 = .ok (.aload_n 0, 1) := by decide +kernel
theorem dX1_correctByLatest_32 : decode cX1_correctByLatest 32 = .ok (.getfield 43, 3) := by decide +kernel
theorem dX1_correctByLatest_35 : decode cX1_correctByLatest 35 = .ok (.invokevirtual 197, 3) := by decide +kernel
theorem dX1_correctByLatest_38 : decode cX1_correctByLatest 38 = .ok (.aload_n 0, 1) := by decide +kernel
theorem dX1_correctByLatest_39 : decode cX1_correctByLatest 39 = .ok (.getfield 47, 3) := by decide +kernel
theorem dX1_correctByLatest_42 : decode cX1_correctByLatest 42 = .ok (.iconst 0, 1) := by decide +kernel
theorem dX1_correctByLatest_43 : decode cX1_correctByLatest 43 = .ok (.iaload, 1) := by decide +kernel
theorem dX1_correctByLatest_44 : decode cX1_correctByLatest 44 = .ok (.invokevirtual 170, 3) := by decide +kernel
theorem dX1_correctByLatest_47 : decode cX1_correctByLatest 47 = .ok (.aload_n 2, 1) := by decide +kernel
theorem dX1_correctByLatest_48 : decode cX1_correctByLatest 48 = .ok (.getfield 137, 3) := by decide +kernel
theorem dX1_correctByLatest_51 : decode cX1_correctByLatest 51 = .ok (.ireturn, 1) := by decide +kernel
theorem dX1_changeSetting_0 : decode cX1_changeSetting 0 = .ok (.iload_n 1, 1) := by decide +kernel
theorem dX1_changeSetting_1 : decode cX1_changeSetting 1 = .ok (.ifCond .lt 30, 3) := by decide +kernel
theorem dX1_changeSetting_4 : decode cX1_changeSetting 4 = .ok (.iload_n 1, 1) := by decide +kernel
theorem dX1_changeSetting_5 : decode cX1_changeSetting 5 = .ok (.aload_n 0, 1) := by decide +kernel
theorem dX1_changeSetting_6 : decode cX1_changeSetting 6 = .ok (.getfield 47, 3) := by decide +kernel
theorem dX1_changeSetting_9 : decode cX1_changeSetting 9 = .ok (.arraylength, 1) := by decide +kernel
theorem dX1_changeSetting_10 : decode cX1_changeSetting 10 = .ok (.if_icmp .ge 21, 3) := by decide +kernel
theorem dX1_changeSetting_13 : decode cX1_changeSetting 13 = .ok (.iload_n 2, 1) := by decide +kernel
theorem dX1_changeSetting_14 : decode cX1_changeSetting 14 = .ok (.getstatic 200, 3) := by decide +kernel
theorem dX1_changeSetting_17 : decode cX1_changeSetting 17 = .ok (.iload_n 1, 1) := by decide +kernel
theorem dX1_changeSetting_18 : decode cX1_changeSetting 18 = .ok (.iaload, 1) := by decide +kernel
theorem dX1_changeSetting_19 : decode cX1_changeSetting 19 = .ok (.if_icmp .lt 12, 3) := by decide +kernel
theorem dX1_changeSetting_22 : decode cX1_changeSetting 22 = .ok (.iload_n 2, 1) := by decide +kernel
theorem dX1_changeSetting_23 : decode cX1_changeSetting 23 = .ok (.getstatic 203, 3) := by decide +kernel
theorem dX1_changeSetting_26 : decode cX1_changeSetting 26 = .ok (.iload_n 1, 1) := by decide +kernel
theorem dX1_changeSetting_27 : decode cX1_changeSetting 27 = .ok (.iaload, 1) := by decide +kernel
theorem dX1_changeSetting_28 : decode cX1_changeSetting 28 = .ok (.if_icmp .le 6, 3) := by decide +kernel
theorem dX1_changeSetting_31 : decode cX1_changeSetting 31 = .ok (.ldc 93, 2) := by decide +kernel
theorem dX1_changeSetting_33 : decode cX1_changeSetting 33 = .ok (.ireturn, 1) := by decide +kernel
theorem dX1_changeSetting_34 : decode cX1_changeSetting 34 = .ok (.aload_n 0, 1) := by decide +kernel
theorem dX1_changeSetting_35 : decode cX1_changeSetting 35 = .ok (.getfield 47, 3) := by decide +kernel
theorem dX1_changeSetting_38 : decode cX1_changeSetting 38 = .ok (.iload_n 1, 1) := by decide +kernel
theorem dX1_changeSetting_39 : decode cX1_changeSetting 39 = .ok (.iaload, 1) := by decide +kernel
theorem dX1_changeSetting_40 : decode cX1_changeSetting 40 = .ok (.istore_n 3, 1) := by decide +kernel
theorem dX1_changeSetting_41 : decode cX1_changeSetting 41 = .ok (.aload_n 0, 1) := by decide +kernel
theorem dX1_changeSetting_42 : decode cX1_changeSetting 42 = .ok (.getfield 47, 3) := by decide +kernel
theorem dX1_changeSetting_45 : decode cX1_changeSetting 45 = .ok (.iload_n 1, 1) := by decide +kernel
theorem dX1_changeSetting_46 : decode cX1_changeSetting 46 = .ok (.iload_n 2, 1) := by decide +kernel
theorem dX1_changeSetting_47 : decode cX1_changeSetting 47 = .ok (.iastore, 1) := by decide +kernel
theorem dX1_changeSetting_48 : decode cX1_changeSetting 48 = .ok (.iload_n 3, 1) := by decide +kernel
theorem dX1_changeSetting_49 : decode cX1_changeSetting 49 = .ok (.ireturn, 1) := by decide +kernel
set_option maxRecDepth 20000 in
theorem ggX1_tellPortion_X5_markAt : GoodIn wsX1_tellPortion wsX5_markAt := goodIn_r _ [6, 7, 8, 33, 34, 35, 36] rfl (by decide +kernel)
set_option maxRecDepth 20000 in
theorem gX1_tellPortion_X5_markAt : GoodIn wsX1_tellPortion (wsV RX1 176 RX5 yX5_markAt wsX5_markAt) := goodIn_app (goodIn_of _ (by decide +kernel)) ggX1_tellPortion_X5_markAt
set_option maxRecDepth 20000 in
theorem ggX1_tellPortion_X5_amountAt : GoodIn wsX1_tellPortion wsX5_amountAt := goodIn_r _ [12, 7, 13, 33, 34, 35, 36] rfl (by decide +kernel)
set_option maxRecDepth 20000 in
theorem gX1_tellPortion_X5_amountAt : GoodIn wsX1_tellPortion (wsV RX1 173 RX5 yX5_amountAt wsX5_amountAt) := goodIn_app (goodIn_of _ (by decide +kernel)) ggX1_tellPortion_X5_amountAt
set_option maxRecDepth 20000 in
theorem ggX1_tellPortion_X7_kindOfMark : GoodIn wsX1_tellPortion wsX7_kindOfMark := goodIn_r _ [16] rfl (by decide +kernel)
set_option maxRecDepth 20000 in
theorem gX1_tellPortion_X7_kindOfMark_n182 : GoodIn wsX1_tellPortion (wsX7_kindOfMark) := ggX1_tellPortion_X7_kindOfMark
set_option maxRecDepth 20000 in
theorem ggX1_tellPortion_X7_burrOfMark : GoodIn wsX1_tellPortion wsX7_burrOfMark := goodIn_r _ [18] rfl (by decide +kernel)
set_option maxRecDepth 20000 in
theorem gX1_tellPortion_X7_burrOfMark_n207 : GoodIn wsX1_tellPortion (wsX7_burrOfMark) := ggX1_tellPortion_X7_burrOfMark
set_option maxRecDepth 20000 in
theorem ggX1_tellPortion_X7_gapOfMark : GoodIn wsX1_tellPortion wsX7_gapOfMark := goodIn_r _ [20] rfl (by decide +kernel)
set_option maxRecDepth 20000 in
theorem gX1_tellPortion_X7_gapOfMark_n188 : GoodIn wsX1_tellPortion (wsX7_gapOfMark) := ggX1_tellPortion_X7_gapOfMark
set_option maxRecDepth 20000 in
theorem ggX1_tellPortion_X1_flowOfMark : GoodIn wsX1_tellPortion wsX1_flowOfMark := goodIn_r _ [25, 14, 15, 16, 26, 27, 28, 24, 29, 30, 19, 20, 31, 32, 37, 38, 39, 40, 41, 42, 43, 44, 45, 46, 47, 48, 49] rfl (by decide +kernel)
set_option maxRecDepth 20000 in
theorem gX1_tellPortion_X1_flowOfMark : GoodIn wsX1_tellPortion (wsV RX1 179 RX1 yX1_flowOfMark wsX1_flowOfMark) := goodIn_app (goodIn_of _ (by decide +kernel)) ggX1_tellPortion_X1_flowOfMark
theorem dX1_tellPortion_0 : decode cX1_tellPortion 0 = .ok (.iload_n 2, 1) := by decide +kernel
theorem dX1_tellPortion_1 : decode cX1_tellPortion 1 = .ok (.aload_n 1, 1) := by decide +kernel
theorem dX1_tellPortion_2 : decode cX1_tellPortion 2 = .ok (.getfield 152, 3) := by decide +kernel
theorem dX1_tellPortion_5 : decode cX1_tellPortion 5 = .ok (.if_icmp .lt 6, 3) := by decide +kernel
theorem dX1_tellPortion_8 : decode cX1_tellPortion 8 = .ok (.ldc 206, 2) := by decide +kernel
theorem dX1_tellPortion_10 : decode cX1_tellPortion 10 = .ok (.ireturn, 1) := by decide +kernel
theorem dX1_tellPortion_11 : decode cX1_tellPortion 11 = .ok (.aload_n 1, 1) := by decide +kernel
theorem dX1_tellPortion_12 : decode cX1_tellPortion 12 = .ok (.iload_n 2, 1) := by decide +kernel
theorem dX1_tellPortion_13 : decode cX1_tellPortion 13 = .ok (.invokevirtual 176, 3) := by decide +kernel
theorem dX1_tellPortion_16 : decode cX1_tellPortion 16 = .ok (.istore 4, 2) := by decide +kernel
theorem dX1_tellPortion_18 : decode cX1_tellPortion 18 = .ok (.iload_n 3, 1) := by decide +kernel
theorem dX1_tellPortion_19 : decode cX1_tellPortion 19 = .ok (.tableswitch 53 0 3 #[29, 35, 41, 47], 29) := by decide +kernel
theorem dX1_tellPortion_48 : decode cX1_tellPortion 48 = .ok (.aload_n 1, 1) := by decide +kernel
theorem dX1_tellPortion_49 : decode cX1_tellPortion 49 = .ok (.iload_n 2, 1) := by decide +kernel
theorem dX1_tellPortion_50 : decode cX1_tellPortion 50 = .ok (.invokevirtual 173, 3) := by decide +kernel
theorem dX1_tellPortion_53 : decode cX1_tellPortion 53 = .ok (.ireturn, 1) := by decide +kernel
theorem dX1_tellPortion_54 : decode cX1_tellPortion 54 = .ok (.iload 4, 2) := by decide +kernel
theorem dX1_tellPortion_56 : decode cX1_tellPortion 56 = .ok (.invokestatic 182, 3) := by decide +kernel
theorem dX1_tellPortion_59 : decode cX1_tellPortion 59 = .ok (.ireturn, 1) := by decide +kernel
theorem dX1_tellPortion_60 : decode cX1_tellPortion 60 = .ok (.iload 4, 2) := by decide +kernel
theorem dX1_tellPortion_62 : decode cX1_tellPortion 62 = .ok (.invokestatic 207, 3) := by decide +kernel
theorem dX1_tellPortion_65 : decode cX1_tellPortion 65 = .ok (.ireturn, 1) := by decide +kernel
theorem dX1_tellPortion_66 : decode cX1_tellPortion 66 = .ok (.iload 4, 2) := by decide +kernel
theorem dX1_tellPortion_68 : decode cX1_tellPortion 68 = .ok (.invokestatic 188, 3) := by decide +kernel
theorem dX1_tellPortion_71 : decode cX1_tellPortion 71 = .ok (.ireturn, 1) := by decide +kernel
theorem dX1_tellPortion_72 : decode cX1_tellPortion 72 = .ok (.aload_n 0, 1) := by decide +kernel
theorem dX1_tellPortion_73 : decode cX1_tellPortion 73 = .ok (.iload 4, 2) := by decide +kernel
theorem dX1_tellPortion_75 : decode cX1_tellPortion 75 = .ok (.invokevirtual 179, 3) := by decide +kernel
theorem dX1_tellPortion_78 : decode cX1_tellPortion 78 = .ok (.ireturn, 1) := by decide +kernel
set_option maxRecDepth 20000 in
theorem ggX1_tell_X3_amount : GoodIn wsX1_tell wsX3_amount := goodIn_r _ [15, 16, 44, 37, 38, 39, 40] rfl (by decide +kernel)
set_option maxRecDepth 20000 in
theorem gX1_tell_X3_amount : GoodIn wsX1_tell (wsV RX1 103 RX3 yX3_amount wsX3_amount) := goodIn_app (goodIn_of _ (by decide +kernel)) ggX1_tell_X3_amount
set_option maxRecDepth 20000 in
theorem ggX1_tell_X1_tellSetting : GoodIn wsX1_tell wsX1_tellSetting := goodIn_r _ [21, 22, 23, 24, 25, 26, 27, 28, 29, 30, 31, 32, 33, 34, 35, 36] rfl (by decide +kernel)
set_option maxRecDepth 20000 in
theorem gX1_tell_X1_tellSetting : GoodIn wsX1_tell (wsV RX1 237 RX1 yX1_tellSetting wsX1_tellSetting) := goodIn_app (goodIn_of _ (by decide +kernel)) ggX1_tell_X1_tellSetting
theorem dX1_tell_0 : decode cX1_tell 0 = .ok (.iload_n 1, 1) := by decide +kernel
theorem dX1_tell_1 : decode cX1_tell 1 = .ok (.tableswitch 117 0 9 #[55, 60, 65, 70, 75, 80, 88, 96, 104, 112], 55) := by decide +kernel
theorem dX1_tell_56 : decode cX1_tell 56 = .ok (.aload_n 0, 1) := by decide +kernel
theorem dX1_tell_57 : decode cX1_tell 57 = .ok (.getfield 70, 3) := by decide +kernel
theorem dX1_tell_60 : decode cX1_tell 60 = .ok (.ireturn, 1) := by decide +kernel
theorem dX1_tell_61 : decode cX1_tell 61 = .ok (.aload_n 0, 1) := by decide +kernel
theorem dX1_tell_62 : decode cX1_tell 62 = .ok (.getfield 74, 3) := by decide +kernel
theorem dX1_tell_65 : decode cX1_tell 65 = .ok (.ireturn, 1) := by decide +kernel
theorem dX1_tell_66 : decode cX1_tell 66 = .ok (.aload_n 0, 1) := by decide +kernel
theorem dX1_tell_67 : decode cX1_tell 67 = .ok (.getfield 77, 3) := by decide +kernel
theorem dX1_tell_70 : decode cX1_tell 70 = .ok (.ireturn, 1) := by decide +kernel
theorem dX1_tell_71 : decode cX1_tell 71 = .ok (.aload_n 0, 1) := by decide +kernel
theorem dX1_tell_72 : decode cX1_tell 72 = .ok (.getfield 80, 3) := by decide +kernel
theorem dX1_tell_75 : decode cX1_tell 75 = .ok (.ireturn, 1) := by decide +kernel
theorem dX1_tell_76 : decode cX1_tell 76 = .ok (.aload_n 0, 1) := by decide +kernel
theorem dX1_tell_77 : decode cX1_tell 77 = .ok (.getfield 83, 3) := by decide +kernel
theorem dX1_tell_80 : decode cX1_tell 80 = .ok (.ireturn, 1) := by decide +kernel
theorem dX1_tell_81 : decode cX1_tell 81 = .ok (.aload_n 0, 1) := by decide +kernel
theorem dX1_tell_82 : decode cX1_tell 82 = .ok (.getfield 12, 3) := by decide +kernel
theorem dX1_tell_85 : decode cX1_tell 85 = .ok (.invokevirtual 103, 3) := by decide +kernel
theorem dX1_tell_88 : decode cX1_tell 88 = .ok (.ireturn, 1) := by decide +kernel
theorem dX1_tell_89 : decode cX1_tell 89 = .ok (.aload_n 0, 1) := by decide +kernel
theorem dX1_tell_90 : decode cX1_tell 90 = .ok (.getfield 33, 3) := by decide +kernel
theorem dX1_tell_93 : decode cX1_tell 93 = .ok (.getfield 108, 3) := by decide +kernel
theorem dX1_tell_96 : decode cX1_tell 96 = .ok (.ireturn, 1) := by decide +kernel
theorem dX1_tell_97 : decode cX1_tell 97 = .ok (.aload_n 0, 1) := by decide +kernel
theorem dX1_tell_98 : decode cX1_tell 98 = .ok (.getfield 37, 3) := by decide +kernel
theorem dX1_tell_101 : decode cX1_tell 101 = .ok (.getfield 108, 3) := by decide +kernel
theorem dX1_tell_104 : decode cX1_tell 104 = .ok (.ireturn, 1) := by decide +kernel
theorem dX1_tell_105 : decode cX1_tell 105 = .ok (.aload_n 0, 1) := by decide +kernel
theorem dX1_tell_106 : decode cX1_tell 106 = .ok (.getfield 43, 3) := by decide +kernel
theorem dX1_tell_109 : decode cX1_tell 109 = .ok (.getfield 234, 3) := by decide +kernel
theorem dX1_tell_112 : decode cX1_tell 112 = .ok (.ireturn, 1) := by decide +kernel
theorem dX1_tell_113 : decode cX1_tell 113 = .ok (.aload_n 0, 1) := by decide +kernel
theorem dX1_tell_114 : decode cX1_tell 114 = .ok (.getfield 86, 3) := by decide +kernel
theorem dX1_tell_117 : decode cX1_tell 117 = .ok (.ireturn, 1) := by decide +kernel
theorem dX1_tell_118 : decode cX1_tell 118 = .ok (.aload_n 0, 1) := by decide +kernel
theorem dX1_tell_119 : decode cX1_tell 119 = .ok (.iload_n 1, 1) := by decide +kernel
theorem dX1_tell_120 : decode cX1_tell 120 = .ok (.invokevirtual 237, 3) := by decide +kernel
theorem dX1_tell_123 : decode cX1_tell 123 = .ok (.ireturn, 1) := by decide +kernel
theorem dX1_tellSetting_0 : decode cX1_tellSetting 0 = .ok (.iload_n 1, 1) := by decide +kernel
theorem dX1_tellSetting_1 : decode cX1_tellSetting 1 = .ok (.bipush 20, 2) := by decide +kernel
theorem dX1_tellSetting_3 : decode cX1_tellSetting 3 = .ok (.if_icmp .lt 15, 3) := by decide +kernel
theorem dX1_tellSetting_6 : decode cX1_tellSetting 6 = .ok (.iload_n 1, 1) := by decide +kernel
theorem dX1_tellSetting_7 : decode cX1_tellSetting 7 = .ok (.bipush 20, 2) := by decide +kernel
theorem dX1_tellSetting_9 : decode cX1_tellSetting 9 = .ok (.aload_n 0, 1) := by decide +kernel
theorem dX1_tellSetting_10 : decode cX1_tellSetting 10 = .ok (.getfield 47, 3) := by decide +kernel
theorem dX1_tellSetting_13 : decode cX1_tellSetting 13 = .ok (.arraylength, 1) := by decide +kernel
theorem dX1_tellSetting_14 : decode cX1_tellSetting 14 = .ok (.iadd, 1) := by decide +kernel
theorem dX1_tellSetting_15 : decode cX1_tellSetting 15 = .ok (.if_icmp .lt 6, 3) := by decide +kernel
theorem dX1_tellSetting_18 : decode cX1_tellSetting 18 = .ok (.ldc 93, 2) := by decide +kernel
theorem dX1_tellSetting_20 : decode cX1_tellSetting 20 = .ok (.ireturn, 1) := by decide +kernel
theorem dX1_tellSetting_21 : decode cX1_tellSetting 21 = .ok (.aload_n 0, 1) := by decide +kernel
theorem dX1_tellSetting_22 : decode cX1_tellSetting 22 = .ok (.getfield 47, 3) := by decide +kernel
theorem dX1_tellSetting_25 : decode cX1_tellSetting 25 = .ok (.iload_n 1, 1) := by decide +kernel
theorem dX1_tellSetting_26 : decode cX1_tellSetting 26 = .ok (.bipush 20, 2) := by decide +kernel
theorem dX1_tellSetting_28 : decode cX1_tellSetting 28 = .ok (.isub, 1) := by decide +kernel
theorem dX1_tellSetting_29 : decode cX1_tellSetting 29 = .ok (.iaload, 1) := by decide +kernel
theorem dX1_tellSetting_30 : decode cX1_tellSetting 30 = .ok (.ireturn, 1) := by decide +kernel
set_option maxRecDepth 20000 in
theorem ggX2_init_X1_init : GoodIn wsX2_init wsX1_init := goodIn_r _ [12, 13, 2, 3, 14, 15, 16, 17, 18, 19, 20, 21, 22, 23, 24, 25, 26, 27, 28, 29, 30, 31, 32, 33, 34, 35, 36, 37, 38, 39, 40, 41, 42, 43, 44, 45, 46, 47, 48, 49, 50, 51, 52, 53, 54, 55, 56, 57, 76, 58, 59, 60, 61, 62, 63, 64, 65, 66, 67, 68, 69, 70, 77, 78, 79, 80, 81, 82, 83, 84, 85, 86, 87] rfl (by decide +kernel)
set_option maxRecDepth 20000 in
theorem gX2_init_X1_init_n11 : GoodIn wsX2_init (wsX1_init) := ggX2_init_X1_init
theorem dX2_init_0 : decode cX2_init 0 = .ok (.aload_n 0, 1) := by decide +kernel
theorem dX2_init_1 : decode cX2_init 1 = .ok (.invokespecial 3, 3) := by decide +kernel
theorem dX2_init_4 : decode cX2_init 4 = .ok (.aload_n 0, 1) := by decide +kernel
theorem dX2_init_5 : decode cX2_init 5 = .ok (.new 9, 3) := by decide +kernel
theorem dX2_init_8 : decode cX2_init 8 = .ok (.dup, 1) := by decide +kernel
theorem dX2_init_9 : decode cX2_init 9 = .ok (.invokespecial 11, 3) := by decide +kernel
theorem dX2_init_12 : decode cX2_init 12 = .ok (.putfield 12, 3) := by decide +kernel
theorem dX2_init_15 : decode cX2_init 15 = .ok (.aload_n 0, 1) := by decide +kernel
theorem dX2_init_16 : decode cX2_init 16 = .ok (.new 9, 3) := by decide +kernel
theorem dX2_init_19 : decode cX2_init 19 = .ok (.dup, 1) := by decide +kernel
theorem dX2_init_20 : decode cX2_init 20 = .ok (.invokespecial 11, 3) := by decide +kernel
theorem dX2_init_23 : decode cX2_init 23 = .ok (.putfield 18, 3) := by decide +kernel
theorem dX2_init_26 : decode cX2_init 26 = .ok (.aload_n 0, 1) := by decide +kernel
theorem dX2_init_27 : decode cX2_init 27 = .ok (.new 9, 3) := by decide +kernel
theorem dX2_init_30 : decode cX2_init 30 = .ok (.dup, 1) := by decide +kernel
theorem dX2_init_31 : decode cX2_init 31 = .ok (.invokespecial 11, 3) := by decide +kernel
theorem dX2_init_34 : decode cX2_init 34 = .ok (.putfield 21, 3) := by decide +kernel
theorem dX2_init_37 : decode cX2_init 37 = .ok (.aload_n 0, 1) := by decide +kernel
theorem dX2_init_38 : decode cX2_init 38 = .ok (.new 9, 3) := by decide +kernel
theorem dX2_init_41 : decode cX2_init 41 = .ok (.dup, 1) := by decide +kernel
theorem dX2_init_42 : decode cX2_init 42 = .ok (.invokespecial 11, 3) := by decide +kernel
theorem dX2_init_45 : decode cX2_init 45 = .ok (.putfield 24, 3) := by decide +kernel
theorem dX2_init_48 : decode cX2_init 48 = .ok (.return_, 1) := by decide +kernel
theorem dX2_add_0 : decode cX2_add 0 = .ok (.aload_n 0, 1) := by decide +kernel
theorem dX2_add_1 : decode cX2_add 1 = .ok (.getfield 24, 3) := by decide +kernel
theorem dX2_add_4 : decode cX2_add 4 = .ok (.astore_n 2, 1) := by decide +kernel
theorem dX2_add_5 : decode cX2_add 5 = .ok (.aload_n 0, 1) := by decide +kernel
theorem dX2_add_6 : decode cX2_add 6 = .ok (.aload_n 0, 1) := by decide +kernel
theorem dX2_add_7 : decode cX2_add 7 = .ok (.getfield 21, 3) := by decide +kernel
theorem dX2_add_10 : decode cX2_add 10 = .ok (.putfield 24, 3) := by decide +kernel
theorem dX2_add_13 : decode cX2_add 13 = .ok (.aload_n 0, 1) := by decide +kernel
theorem dX2_add_14 : decode cX2_add 14 = .ok (.aload_n 0, 1) := by decide +kernel
theorem dX2_add_15 : decode cX2_add 15 = .ok (.getfield 18, 3) := by decide +kernel
theorem dX2_add_18 : decode cX2_add 18 = .ok (.putfield 21, 3) := by decide +kernel
theorem dX2_add_21 : decode cX2_add 21 = .ok (.aload_n 0, 1) := by decide +kernel
theorem dX2_add_22 : decode cX2_add 22 = .ok (.aload_n 0, 1) := by decide +kernel
theorem dX2_add_23 : decode cX2_add 23 = .ok (.getfield 12, 3) := by decide +kernel
theorem dX2_add_26 : decode cX2_add 26 = .ok (.putfield 18, 3) := by decide +kernel
theorem dX2_add_29 : decode cX2_add 29 = .ok (.aload_n 0, 1) := by decide +kernel
theorem dX2_add_30 : decode cX2_add 30 = .ok (.aload_n 1, 1) := by decide +kernel
theorem dX2_add_31 : decode cX2_add 31 = .ok (.putfield 12, 3) := by decide +kernel
theorem dX2_add_34 : decode cX2_add 34 = .ok (.aload_n 0, 1) := by decide +kernel
theorem dX2_add_35 : decode cX2_add 35 = .ok (.iconst 4, 1) := by decide +kernel
theorem dX2_add_36 : decode cX2_add 36 = .ok (.aload_n 0, 1) := by decide +kernel
theorem dX2_add_37 : decode cX2_add 37 = .ok (.getfield 27, 3) := by decide +kernel
theorem dX2_add_40 : decode cX2_add 40 = .ok (.iconst 1, 1) := by decide +kernel
theorem dX2_add_41 : decode cX2_add 41 = .ok (.iadd, 1) := by decide +kernel
theorem dX2_add_42 : decode cX2_add 42 = .ok (.invokestatic 31, 3) := by decide +kernel
theorem dX2_add_45 : decode cX2_add 45 = .ok (.putfield 27, 3) := by decide +kernel
theorem dX2_add_48 : decode cX2_add 48 = .ok (.aload_n 2, 1) := by decide +kernel
theorem dX2_add_49 : decode cX2_add 49 = .ok (.areturn, 1) := by decide +kernel
set_option maxRecDepth 20000 in
theorem ggX3_init_X5_init : GoodIn wsX3_init wsX5_init := goodIn_r _ [10, 11, 2, 3, 12, 13, 14, 15, 16, 17, 18, 19, 20, 21, 22] rfl (by decide +kernel)
set_option maxRecDepth 20000 in
theorem gX3_init_X5_init : GoodIn wsX3_init (wsX5_init) := ggX3_init_X5_init
theorem dX3_init_0 : decode cX3_init 0 = .ok (.aload_n 0, 1) := by decide +kernel
theorem dX3_init_1 : decode cX3_init 1 = .ok (.invokespecial 3, 3) := by decide +kernel
theorem dX3_init_4 : decode cX3_init 4 = .ok (.aload_n 0, 1) := by decide +kernel
theorem dX3_init_5 : decode cX3_init 5 = .ok (.new 9, 3) := by decide +kernel
theorem dX3_init_8 : decode cX3_init 8 = .ok (.dup, 1) := by decide +kernel
theorem dX3_init_9 : decode cX3_init 9 = .ok (.bipush 6, 2) := by decide +kernel
theorem dX3_init_11 : decode cX3_init 11 = .ok (.invokespecial 11, 3) := by decide +kernel
theorem dX3_init_14 : decode cX3_init 14 = .ok (.putfield 14, 3) := by decide +kernel
theorem dX3_init_17 : decode cX3_init 17 = .ok (.return_, 1) := by decide +kernel
set_option maxRecDepth 20000 in
theorem ggX3_copyFrom_X5_copyFrom : GoodIn wsX3_copyFrom wsX5_copyFrom := goodIn_r _ [6, 7, 8, 9, 10, 11, 12, 13, 14, 15, 16, 17, 18, 20, 21, 22, 23] rfl (by decide +kernel)
set_option maxRecDepth 20000 in
theorem gX3_copyFrom_X5_copyFrom : GoodIn wsX3_copyFrom (wsV RX3 20 RX5 yX5_copyFrom wsX5_copyFrom) := goodIn_app (goodIn_of _ (by decide +kernel)) ggX3_copyFrom_X5_copyFrom
theorem dX3_copyFrom_0 : decode cX3_copyFrom 0 = .ok (.aload_n 0, 1) := by decide +kernel
theorem dX3_copyFrom_1 : decode cX3_copyFrom 1 = .ok (.getfield 14, 3) := by decide +kernel
theorem dX3_copyFrom_4 : decode cX3_copyFrom 4 = .ok (.aload_n 1, 1) := by decide +kernel
theorem dX3_copyFrom_5 : decode cX3_copyFrom 5 = .ok (.getfield 14, 3) := by decide +kernel
theorem dX3_copyFrom_8 : decode cX3_copyFrom 8 = .ok (.invokevirtual 20, 3) := by decide +kernel
theorem dX3_copyFrom_11 : decode cX3_copyFrom 11 = .ok (.return_, 1) := by decide +kernel
theorem dX3_amount_0 : decode cX3_amount 0 = .ok (.aload_n 0, 1) := by decide +kernel
theorem dX3_amount_1 : decode cX3_amount 1 = .ok (.getfield 14, 3) := by decide +kernel
theorem dX3_amount_4 : decode cX3_amount 4 = .ok (.getfield 24, 3) := by decide +kernel
theorem dX3_amount_7 : decode cX3_amount 7 = .ok (.ireturn, 1) := by decide +kernel
set_option maxRecDepth 20000 in
theorem ggX3_hasRoomFor_X3_endsWith : GoodIn wsX3_hasRoomFor wsX3_endsWith := goodIn_r _ [6, 1, 7, 8, 9, 10, 11, 12, 13, 14, 15, 16, 17, 18] rfl (by decide +kernel)
set_option maxRecDepth 20000 in
theorem gX3_hasRoomFor_X3_endsWith : GoodIn wsX3_hasRoomFor (wsV RX3 31 RX3 yX3_endsWith wsX3_endsWith) := goodIn_app (goodIn_of _ (by decide +kernel)) ggX3_hasRoomFor_X3_endsWith
theorem dX3_hasRoomFor_0 : decode cX3_hasRoomFor 0 = .ok (.aload_n 0, 1) := by decide +kernel
theorem dX3_hasRoomFor_1 : decode cX3_hasRoomFor 1 = .ok (.getfield 14, 3) := by decide +kernel
theorem dX3_hasRoomFor_4 : decode cX3_hasRoomFor 4 = .ok (.getfield 24, 3) := by decide +kernel
theorem dX3_hasRoomFor_7 : decode cX3_hasRoomFor 7 = .ok (.iload_n 2, 1) := by decide +kernel
theorem dX3_hasRoomFor_8 : decode cX3_hasRoomFor 8 = .ok (.iadd, 1) := by decide +kernel
theorem dX3_hasRoomFor_9 : decode cX3_hasRoomFor 9 = .ok (.sipush 4000, 3) := by decide +kernel
theorem dX3_hasRoomFor_12 : decode cX3_hasRoomFor 12 = .ok (.if_icmp .gt 27, 3) := by decide +kernel
theorem dX3_hasRoomFor_15 : decode cX3_hasRoomFor 15 = .ok (.aload_n 0, 1) := by decide +kernel
theorem dX3_hasRoomFor_16 : decode cX3_hasRoomFor 16 = .ok (.getfield 14, 3) := by decide +kernel
theorem dX3_hasRoomFor_19 : decode cX3_hasRoomFor 19 = .ok (.getfield 28, 3) := by decide +kernel
theorem dX3_hasRoomFor_22 : decode cX3_hasRoomFor 22 = .ok (.bipush 6, 2) := by decide +kernel
theorem dX3_hasRoomFor_24 : decode cX3_hasRoomFor 24 = .ok (.if_icmp .lt 11, 3) := by decide +kernel
theorem dX3_hasRoomFor_27 : decode cX3_hasRoomFor 27 = .ok (.aload_n 0, 1) := by decide +kernel
theorem dX3_hasRoomFor_28 : decode cX3_hasRoomFor 28 = .ok (.iload_n 1, 1) := by decide +kernel
theorem dX3_hasRoomFor_29 : decode cX3_hasRoomFor 29 = .ok (.invokevirtual 31, 3) := by decide +kernel
theorem dX3_hasRoomFor_32 : decode cX3_hasRoomFor 32 = .ok (.ifCond .eq 7, 3) := by decide +kernel
theorem dX3_hasRoomFor_35 : decode cX3_hasRoomFor 35 = .ok (.iconst 1, 1) := by decide +kernel
theorem dX3_hasRoomFor_36 : decode cX3_hasRoomFor 36 = .ok (.goto 4, 3) := by decide +kernel
theorem dX3_hasRoomFor_39 : decode cX3_hasRoomFor 39 = .ok (.iconst 0, 1) := by decide +kernel
theorem dX3_hasRoomFor_40 : decode cX3_hasRoomFor 40 = .ok (.ireturn, 1) := by decide +kernel
set_option maxRecDepth 20000 in
theorem ggX3_endsWith_X5_markAt : GoodIn wsX3_endsWith wsX5_markAt := goodIn_r _ [6, 7, 8, 10, 11, 12, 13] rfl (by decide +kernel)
set_option maxRecDepth 20000 in
theorem gX3_endsWith_X5_markAt : GoodIn wsX3_endsWith (wsV RX3 35 RX5 yX5_markAt wsX5_markAt) := goodIn_app (goodIn_of _ (by decide +kernel)) ggX3_endsWith_X5_markAt
theorem dX3_endsWith_0 : decode cX3_endsWith 0 = .ok (.aload_n 0, 1) := by decide +kernel
theorem dX3_endsWith_1 : decode cX3_endsWith 1 = .ok (.getfield 14, 3) := by decide +kernel
theorem dX3_endsWith_4 : decode cX3_endsWith 4 = .ok (.getfield 28, 3) := by decide +kernel
theorem dX3_endsWith_7 : decode cX3_endsWith 7 = .ok (.ifCond .le 27, 3) := by decide +kernel
theorem dX3_endsWith_10 : decode cX3_endsWith 10 = .ok (.aload_n 0, 1) := by decide +kernel
theorem dX3_endsWith_11 : decode cX3_endsWith 11 = .ok (.getfield 14, 3) := by decide +kernel
theorem dX3_endsWith_14 : decode cX3_endsWith 14 = .ok (.aload_n 0, 1) := by decide +kernel
theorem dX3_endsWith_15 : decode cX3_endsWith 15 = .ok (.getfield 14, 3) := by decide +kernel
theorem dX3_endsWith_18 : decode cX3_endsWith 18 = .ok (.getfield 28, 3) := by decide +kernel
theorem dX3_endsWith_21 : decode cX3_endsWith 21 = .ok (.iconst 1, 1) := by decide +kernel
theorem dX3_endsWith_22 : decode cX3_endsWith 22 = .ok (.isub, 1) := by decide +kernel
theorem dX3_endsWith_23 : decode cX3_endsWith 23 = .ok (.invokevirtual 35, 3) := by decide +kernel
theorem dX3_endsWith_26 : decode cX3_endsWith 26 = .ok (.iload_n 1, 1) := by decide +kernel
theorem dX3_endsWith_27 : decode cX3_endsWith 27 = .ok (.if_icmp .ne 7, 3) := by decide +kernel
theorem dX3_endsWith_30 : decode cX3_endsWith 30 = .ok (.iconst 1, 1) := by decide +kernel
theorem dX3_endsWith_31 : decode cX3_endsWith 31 = .ok (.goto 4, 3) := by decide +kernel
theorem dX3_endsWith_34 : decode cX3_endsWith 34 = .ok (.iconst 0, 1) := by decide +kernel
theorem dX3_endsWith_35 : decode cX3_endsWith 35 = .ok (.ireturn, 1) := by decide +kernel
set_option maxRecDepth 20000 in
theorem ggX3_pourIn_X3_endsWith : GoodIn wsX3_pourIn wsX3_endsWith := goodIn_r _ [6, 1, 7, 8, 9, 10, 11, 12, 13, 24, 25, 26, 27, 28] rfl (by decide +kernel)
set_option maxRecDepth 20000 in
theorem gX3_pourIn_X3_endsWith : GoodIn wsX3_pourIn (wsV RX3 31 RX3 yX3_endsWith wsX3_endsWith) := goodIn_app (goodIn_of _ (by decide +kernel)) ggX3_pourIn_X3_endsWith
set_option maxRecDepth 20000 in
theorem ggX3_pourIn_X5_addToLast : GoodIn wsX3_pourIn wsX5_addToLast := goodIn_r _ [17, 12, 18, 19, 25, 26, 27, 28] rfl (by decide +kernel)
set_option maxRecDepth 20000 in
theorem gX3_pourIn_X5_addToLast : GoodIn wsX3_pourIn (wsV RX3 39 RX5 yX5_addToLast wsX5_addToLast) := goodIn_app (goodIn_of _ (by decide +kernel)) ggX3_pourIn_X5_addToLast
set_option maxRecDepth 20000 in
theorem ggX3_pourIn_X5_append : GoodIn wsX3_pourIn wsX5_append := goodIn_r _ [23, 12, 18, 13, 19, 25, 26, 27, 28] rfl (by decide +kernel)
set_option maxRecDepth 20000 in
theorem gX3_pourIn_X5_append : GoodIn wsX3_pourIn (wsV RX3 42 RX5 yX5_append wsX5_append) := goodIn_app (goodIn_of _ (by decide +kernel)) ggX3_pourIn_X5_append
theorem dX3_pourIn_0 : decode cX3_pourIn 0 = .ok (.aload_n 0, 1) := by decide +kernel
theorem dX3_pourIn_1 : decode cX3_pourIn 1 = .ok (.iload_n 1, 1) := by decide +kernel
theorem dX3_pourIn_2 : decode cX3_pourIn 2 = .ok (.invokevirtual 31, 3) := by decide +kernel
theorem dX3_pourIn_5 : decode cX3_pourIn 5 = .ok (.ifCond .eq 14, 3) := by decide +kernel
theorem dX3_pourIn_8 : decode cX3_pourIn 8 = .ok (.aload_n 0, 1) := by decide +kernel
theorem dX3_pourIn_9 : decode cX3_pourIn 9 = .ok (.getfield 14, 3) := by decide +kernel
theorem dX3_pourIn_12 : decode cX3_pourIn 12 = .ok (.iload_n 2, 1) := by decide +kernel
theorem dX3_pourIn_13 : decode cX3_pourIn 13 = .ok (.invokevirtual 39, 3) := by decide +kernel
theorem dX3_pourIn_16 : decode cX3_pourIn 16 = .ok (.goto 12, 3) := by decide +kernel
theorem dX3_pourIn_19 : decode cX3_pourIn 19 = .ok (.aload_n 0, 1) := by decide +kernel
theorem dX3_pourIn_20 : decode cX3_pourIn 20 = .ok (.getfield 14, 3) := by decide +kernel
theorem dX3_pourIn_23 : decode cX3_pourIn 23 = .ok (.iload_n 2, 1) := by decide +kernel
theorem dX3_pourIn_24 : decode cX3_pourIn 24 = .ok (.iload_n 1, 1) := by decide +kernel
theorem dX3_pourIn_25 : decode cX3_pourIn 25 = .ok (.invokevirtual 42, 3) := by decide +kernel
theorem dX3_pourIn_28 : decode cX3_pourIn 28 = .ok (.return_, 1) := by decide +kernel
set_option maxRecDepth 20000 in
theorem ggX3_letOut_X7_markOf : GoodIn wsX3_letOut wsX7_markOf := goodIn_r _ [4] rfl (by decide +kernel)
set_option maxRecDepth 20000 in
theorem gX3_letOut_X7_markOf_n46 : GoodIn wsX3_letOut (wsX7_markOf) := ggX3_letOut_X7_markOf
set_option maxRecDepth 20000 in
theorem ggX3_letOut_X5_letOut : GoodIn wsX3_letOut wsX5_letOut := goodIn_r _ [9, 10, 11, 12, 13, 14, 15, 16, 17, 18, 19, 20, 8, 21, 22, 23, 24, 25, 26, 27, 28, 29, 31, 32, 33, 34] rfl (by decide +kernel)
set_option maxRecDepth 20000 in
theorem gX3_letOut_X5_letOut : GoodIn wsX3_letOut (wsV RX3 50 RX5 yX5_letOut wsX5_letOut) := goodIn_app (goodIn_of _ (by decide +kernel)) ggX3_letOut_X5_letOut
theorem dX3_letOut_0 : decode cX3_letOut 0 = .ok (.aload_n 0, 1) := by decide +kernel
theorem dX3_letOut_1 : decode cX3_letOut 1 = .ok (.getfield 14, 3) := by decide +kernel
theorem dX3_letOut_4 : decode cX3_letOut 4 = .ok (.iload_n 1, 1) := by decide +kernel
theorem dX3_letOut_5 : decode cX3_letOut 5 = .ok (.iconst 0, 1) := by decide +kernel
theorem dX3_letOut_6 : decode cX3_letOut 6 = .ok (.iload_n 2, 1) := by decide +kernel
theorem dX3_letOut_7 : decode cX3_letOut 7 = .ok (.iload_n 3, 1) := by decide +kernel
theorem dX3_letOut_8 : decode cX3_letOut 8 = .ok (.invokestatic 46, 3) := by decide +kernel
theorem dX3_letOut_11 : decode cX3_letOut 11 = .ok (.aload 4, 2) := by decide +kernel
theorem dX3_letOut_13 : decode cX3_letOut 13 = .ok (.invokevirtual 50, 3) := by decide +kernel
theorem dX3_letOut_16 : decode cX3_letOut 16 = .ok (.return_, 1) := by decide +kernel
set_option maxRecDepth 20000 in
theorem ggX3_tell_X5_markAt : GoodIn wsX3_tell wsX5_markAt := goodIn_r _ [7, 8, 9, 16, 17, 18, 19] rfl (by decide +kernel)
set_option maxRecDepth 20000 in
theorem gX3_tell_X5_markAt : GoodIn wsX3_tell (wsV RX3 35 RX5 yX5_markAt wsX5_markAt) := goodIn_app (goodIn_of _ (by decide +kernel)) ggX3_tell_X5_markAt
set_option maxRecDepth 20000 in
theorem ggX3_tell_X5_amountAt : GoodIn wsX3_tell wsX5_amountAt := goodIn_r _ [13, 8, 14, 16, 17, 18, 19] rfl (by decide +kernel)
set_option maxRecDepth 20000 in
theorem gX3_tell_X5_amountAt : GoodIn wsX3_tell (wsV RX3 55 RX5 yX5_amountAt wsX5_amountAt) := goodIn_app (goodIn_of _ (by decide +kernel)) ggX3_tell_X5_amountAt
theorem dX3_tell_0 : decode cX3_tell 0 = .ok (.iload_n 1, 1) := by decide +kernel
theorem dX3_tell_1 : decode cX3_tell 1 = .ok (.ifCond .lt 14, 3) := by decide +kernel
theorem dX3_tell_4 : decode cX3_tell 4 = .ok (.iload_n 1, 1) := by decide +kernel
theorem dX3_tell_5 : decode cX3_tell 5 = .ok (.aload_n 0, 1) := by decide +kernel
theorem dX3_tell_6 : decode cX3_tell 6 = .ok (.getfield 14, 3) := by decide +kernel
theorem dX3_tell_9 : decode cX3_tell 9 = .ok (.getfield 28, 3) := by decide +kernel
theorem dX3_tell_12 : decode cX3_tell 12 = .ok (.if_icmp .lt 6, 3) := by decide +kernel
theorem dX3_tell_15 : decode cX3_tell 15 = .ok (.ldc 54, 2) := by decide +kernel
theorem dX3_tell_17 : decode cX3_tell 17 = .ok (.ireturn, 1) := by decide +kernel
theorem dX3_tell_18 : decode cX3_tell 18 = .ok (.iload_n 2, 1) := by decide +kernel
theorem dX3_tell_19 : decode cX3_tell 19 = .ok (.ifCond .ne 14, 3) := by decide +kernel
theorem dX3_tell_22 : decode cX3_tell 22 = .ok (.aload_n 0, 1) := by decide +kernel
theorem dX3_tell_23 : decode cX3_tell 23 = .ok (.getfield 14, 3) := by decide +kernel
theorem dX3_tell_26 : decode cX3_tell 26 = .ok (.iload_n 1, 1) := by decide +kernel
theorem dX3_tell_27 : decode cX3_tell 27 = .ok (.invokevirtual 35, 3) := by decide +kernel
theorem dX3_tell_30 : decode cX3_tell 30 = .ok (.goto 11, 3) := by decide +kernel
theorem dX3_tell_33 : decode cX3_tell 33 = .ok (.aload_n 0, 1) := by decide +kernel
theorem dX3_tell_34 : decode cX3_tell 34 = .ok (.getfield 14, 3) := by decide +kernel
theorem dX3_tell_37 : decode cX3_tell 37 = .ok (.iload_n 1, 1) := by decide +kernel
theorem dX3_tell_38 : decode cX3_tell 38 = .ok (.invokevirtual 55, 3) := by decide +kernel
theorem dX3_tell_41 : decode cX3_tell 41 = .ok (.ireturn, 1) := by decide +kernel
theorem dX4_init_0 : decode cX4_init 0 = .ok (.aload_n 0, 1) := by decide +kernel
theorem dX4_init_1 : decode cX4_init 1 = .ok (.invokespecial 3, 3) := by decide +kernel
theorem dX4_init_4 : decode cX4_init 4 = .ok (.aload_n 0, 1) := by decide +kernel
theorem dX4_init_5 : decode cX4_init 5 = .ok (.bipush 60, 2) := by decide +kernel
theorem dX4_init_7 : decode cX4_init 7 = .ok (.newarray .char, 2) := by decide +kernel
theorem dX4_init_9 : decode cX4_init 9 = .ok (.putfield 9, 3) := by decide +kernel
theorem dX4_init_12 : decode cX4_init 12 = .ok (.return_, 1) := by decide +kernel
theorem dX5_init_0 : decode cX5_init 0 = .ok (.aload_n 0, 1) := by decide +kernel
theorem dX5_init_1 : decode cX5_init 1 = .ok (.invokespecial 1, 3) := by decide +kernel
theorem dX5_init_4 : decode cX5_init 4 = .ok (.iconst 0, 1) := by decide +kernel
theorem dX5_init_5 : decode cX5_init 5 = .ok (.iload_n 1, 1) := by decide +kernel
theorem dX5_init_6 : decode cX5_init 6 = .ok (.invokestatic 7, 3) := by decide +kernel
theorem dX5_init_9 : decode cX5_init 9 = .ok (.istore_n 2, 1) := by decide +kernel
theorem dX5_init_10 : decode cX5_init 10 = .ok (.aload_n 0, 1) := by decide +kernel
theorem dX5_init_11 : decode cX5_init 11 = .ok (.iload_n 2, 1) := by decide +kernel
theorem dX5_init_12 : decode cX5_init 12 = .ok (.newarray .int, 2) := by decide +kernel
theorem dX5_init_14 : decode cX5_init 14 = .ok (.putfield 13, 3) := by decide +kernel
theorem dX5_init_17 : decode cX5_init 17 = .ok (.aload_n 0, 1) := by decide +kernel
theorem dX5_init_18 : decode cX5_init 18 = .ok (.iload_n 2, 1) := by decide +kernel
theorem dX5_init_19 : decode cX5_init 19 = .ok (.newarray .int, 2) := by decide +kernel
theorem dX5_init_21 : decode cX5_init 21 = .ok (.putfield 19, 3) := by decide +kernel
theorem dX5_init_24 : decode cX5_init 24 = .ok (.return_, 1) := by decide +kernel
theorem dX5_copyFrom_0 : decode cX5_copyFrom 0 = .ok (.aload_n 0, 1) := by decide +kernel
theorem dX5_copyFrom_1 : decode cX5_copyFrom 1 = .ok (.aload_n 1, 1) := by decide +kernel
theorem dX5_copyFrom_2 : decode cX5_copyFrom 2 = .ok (.getfield 22, 3) := by decide +kernel
theorem dX5_copyFrom_5 : decode cX5_copyFrom 5 = .ok (.aload_n 0, 1) := by decide +kernel
theorem dX5_copyFrom_6 : decode cX5_copyFrom 6 = .ok (.getfield 13, 3) := by decide +kernel
theorem dX5_copyFrom_9 : decode cX5_copyFrom 9 = .ok (.arraylength, 1) := by decide +kernel
theorem dX5_copyFrom_10 : decode cX5_copyFrom 10 = .ok (.invokestatic 26, 3) := by decide +kernel
theorem dX5_copyFrom_13 : decode cX5_copyFrom 13 = .ok (.putfield 22, 3) := by decide +kernel
theorem dX5_copyFrom_16 : decode cX5_copyFrom 16 = .ok (.aload_n 0, 1) := by decide +kernel
theorem dX5_copyFrom_17 : decode cX5_copyFrom 17 = .ok (.aload_n 1, 1) := by decide +kernel
theorem dX5_copyFrom_18 : decode cX5_copyFrom 18 = .ok (.getfield 29, 3) := by decide +kernel
theorem dX5_copyFrom_21 : decode cX5_copyFrom 21 = .ok (.putfield 29, 3) := by decide +kernel
theorem dX5_copyFrom_24 : decode cX5_copyFrom 24 = .ok (.aload_n 1, 1) := by decide +kernel
theorem dX5_copyFrom_25 : decode cX5_copyFrom 25 = .ok (.getfield 13, 3) := by decide +kernel
theorem dX5_copyFrom_28 : decode cX5_copyFrom 28 = .ok (.iconst 0, 1) := by decide +kernel
theorem dX5_copyFrom_29 : decode cX5_copyFrom 29 = .ok (.aload_n 0, 1) := by decide +kernel
theorem dX5_copyFrom_30 : decode cX5_copyFrom 30 = .ok (.getfield 13, 3) := by decide +kernel
theorem dX5_copyFrom_33 : decode cX5_copyFrom 33 = .ok (.iconst 0, 1) := by decide +kernel
theorem dX5_copyFrom_34 : decode cX5_copyFrom 34 = .ok (.aload_n 0, 1) := by decide +kernel
theorem dX5_copyFrom_35 : decode cX5_copyFrom 35 = .ok (.getfield 22, 3) := by decide +kernel
theorem dX5_copyFrom_38 : decode cX5_copyFrom 38 = .ok (.invokestatic 32, 3) := by decide +kernel
theorem dX5_copyFrom_41 : decode cX5_copyFrom 41 = .ok (.aload_n 1, 1) := by decide +kernel
theorem dX5_copyFrom_42 : decode cX5_copyFrom 42 = .ok (.getfield 19, 3) := by decide +kernel
theorem dX5_copyFrom_45 : decode cX5_copyFrom 45 = .ok (.iconst 0, 1) := by decide +kernel
theorem dX5_copyFrom_46 : decode cX5_copyFrom 46 = .ok (.aload_n 0, 1) := by decide +kernel
theorem dX5_copyFrom_47 : decode cX5_copyFrom 47 = .ok (.getfield 19, 3) := by decide +kernel
theorem dX5_copyFrom_50 : decode cX5_copyFrom 50 = .ok (.iconst 0, 1) := by decide +kernel
theorem dX5_copyFrom_51 : decode cX5_copyFrom 51 = .ok (.aload_n 0, 1) := by decide +kernel
theorem dX5_copyFrom_52 : decode cX5_copyFrom 52 = .ok (.getfield 22, 3) := by decide +kernel
theorem dX5_copyFrom_55 : decode cX5_copyFrom 55 = .ok (.invokestatic 32, 3) := by decide +kernel
theorem dX5_copyFrom_58 : decode cX5_copyFrom 58 = .ok (.return_, 1) := by decide +kernel
theorem dX5_clear_0 : decode cX5_clear 0 = .ok (.aload_n 0, 1) := by decide +kernel
theorem dX5_clear_1 : decode cX5_clear 1 = .ok (.iconst 0, 1) := by decide +kernel
theorem dX5_clear_2 : decode cX5_clear 2 = .ok (.putfield 22, 3) := by decide +kernel
theorem dX5_clear_5 : decode cX5_clear 5 = .ok (.aload_n 0, 1) := by decide +kernel
theorem dX5_clear_6 : decode cX5_clear 6 = .ok (.iconst 0, 1) := by decide +kernel
theorem dX5_clear_7 : decode cX5_clear 7 = .ok (.putfield 29, 3) := by decide +kernel
theorem dX5_clear_10 : decode cX5_clear 10 = .ok (.return_, 1) := by decide +kernel
theorem dX5_append_0 : decode cX5_append 0 = .ok (.aload_n 0, 1) := by decide +kernel
theorem dX5_append_1 : decode cX5_append 1 = .ok (.getfield 22, 3) := by decide +kernel
theorem dX5_append_4 : decode cX5_append 4 = .ok (.aload_n 0, 1) := by decide +kernel
theorem dX5_append_5 : decode cX5_append 5 = .ok (.getfield 13, 3) := by decide +kernel
theorem dX5_append_8 : decode cX5_append 8 = .ok (.arraylength, 1) := by decide +kernel
theorem dX5_append_9 : decode cX5_append 9 = .ok (.if_icmp .ge 43, 3) := by decide +kernel
theorem dX5_append_12 : decode cX5_append 12 = .ok (.aload_n 0, 1) := by decide +kernel
theorem dX5_append_13 : decode cX5_append 13 = .ok (.getfield 13, 3) := by decide +kernel
theorem dX5_append_16 : decode cX5_append 16 = .ok (.aload_n 0, 1) := by decide +kernel
theorem dX5_append_17 : decode cX5_append 17 = .ok (.getfield 22, 3) := by decide +kernel
theorem dX5_append_20 : decode cX5_append 20 = .ok (.iload_n 1, 1) := by decide +kernel
theorem dX5_append_21 : decode cX5_append 21 = .ok (.iastore, 1) := by decide +kernel
theorem dX5_append_22 : decode cX5_append 22 = .ok (.aload_n 0, 1) := by decide +kernel
theorem dX5_append_23 : decode cX5_append 23 = .ok (.getfield 19, 3) := by decide +kernel
theorem dX5_append_26 : decode cX5_append 26 = .ok (.aload_n 0, 1) := by decide +kernel
theorem dX5_append_27 : decode cX5_append 27 = .ok (.getfield 22, 3) := by decide +kernel
theorem dX5_append_30 : decode cX5_append 30 = .ok (.iload_n 2, 1) := by decide +kernel
theorem dX5_append_31 : decode cX5_append 31 = .ok (.iastore, 1) := by decide +kernel
theorem dX5_append_32 : decode cX5_append 32 = .ok (.aload_n 0, 1) := by decide +kernel
theorem dX5_append_33 : decode cX5_append 33 = .ok (.dup, 1) := by decide +kernel
theorem dX5_append_34 : decode cX5_append 34 = .ok (.getfield 22, 3) := by decide +kernel
theorem dX5_append_37 : decode cX5_append 37 = .ok (.iconst 1, 1) := by decide +kernel
theorem dX5_append_38 : decode cX5_append 38 = .ok (.iadd, 1) := by decide +kernel
theorem dX5_append_39 : decode cX5_append 39 = .ok (.putfield 22, 3) := by decide +kernel
theorem dX5_append_42 : decode cX5_append 42 = .ok (.aload_n 0, 1) := by decide +kernel
theorem dX5_append_43 : decode cX5_append 43 = .ok (.dup, 1) := by decide +kernel
theorem dX5_append_44 : decode cX5_append 44 = .ok (.getfield 29, 3) := by decide +kernel
theorem dX5_append_47 : decode cX5_append 47 = .ok (.iload_n 1, 1) := by decide +kernel
theorem dX5_append_48 : decode cX5_append 48 = .ok (.iadd, 1) := by decide +kernel
theorem dX5_append_49 : decode cX5_append 49 = .ok (.putfield 29, 3) := by decide +kernel
theorem dX5_append_52 : decode cX5_append 52 = .ok (.return_, 1) := by decide +kernel
theorem dX5_addToLast_0 : decode cX5_addToLast 0 = .ok (.aload_n 0, 1) := by decide +kernel
theorem dX5_addToLast_1 : decode cX5_addToLast 1 = .ok (.getfield 22, 3) := by decide +kernel
theorem dX5_addToLast_4 : decode cX5_addToLast 4 = .ok (.ifCond .le 28, 3) := by decide +kernel
theorem dX5_addToLast_7 : decode cX5_addToLast 7 = .ok (.aload_n 0, 1) := by decide +kernel
theorem dX5_addToLast_8 : decode cX5_addToLast 8 = .ok (.getfield 13, 3) := by decide +kernel
theorem dX5_addToLast_11 : decode cX5_addToLast 11 = .ok (.aload_n 0, 1) := by decide +kernel
theorem dX5_addToLast_12 : decode cX5_addToLast 12 = .ok (.getfield 22, 3) := by decide +kernel
theorem dX5_addToLast_15 : decode cX5_addToLast 15 = .ok (.iconst 1, 1) := by decide +kernel
theorem dX5_addToLast_16 : decode cX5_addToLast 16 = .ok (.isub, 1) := by decide +kernel
theorem dX5_addToLast_17 : decode cX5_addToLast 17 = .ok (.dup2, 1) := by decide +kernel
theorem dX5_addToLast_18 : decode cX5_addToLast 18 = .ok (.iaload, 1) := by decide +kernel
theorem dX5_addToLast_19 : decode cX5_addToLast 19 = .ok (.iload_n 1, 1) := by decide +kernel
theorem dX5_addToLast_20 : decode cX5_addToLast 20 = .ok (.iadd, 1) := by decide +kernel
theorem dX5_addToLast_21 : decode cX5_addToLast 21 = .ok (.iastore, 1) := by decide +kernel
theorem dX5_addToLast_22 : decode cX5_addToLast 22 = .ok (.aload_n 0, 1) := by decide +kernel
theorem dX5_addToLast_23 : decode cX5_addToLast 23 = .ok (.dup, 1) := by decide +kernel
theorem dX5_addToLast_24 : decode cX5_addToLast 24 = .ok (.getfield 29, 3) := by decide +kernel
theorem dX5_addToLast_27 : decode cX5_addToLast 27 = .ok (.iload_n 1, 1) := by decide +kernel
theorem dX5_addToLast_28 : decode cX5_addToLast 28 = .ok (.iadd, 1) := by decide +kernel
theorem dX5_addToLast_29 : decode cX5_addToLast 29 = .ok (.putfield 29, 3) := by decide +kernel
theorem dX5_addToLast_32 : decode cX5_addToLast 32 = .ok (.return_, 1) := by decide +kernel
set_option maxRecDepth 20000 in
theorem ggX5_letOut_X5_append : GoodIn wsX5_letOut wsX5_append := goodIn_r _ [13, 1, 2, 7, 8, 22, 23, 24, 25] rfl (by decide +kernel)
set_option maxRecDepth 20000 in
theorem gX5_letOut_X5_append : GoodIn wsX5_letOut (wsV RX5 38 RX5 yX5_append wsX5_append) := goodIn_app (goodIn_of _ (by decide +kernel)) ggX5_letOut_X5_append
set_option maxRecDepth 20000 in
theorem ggX5_letOut_X5_dropFirst : GoodIn wsX5_letOut wsX5_dropFirst := goodIn_r _ [17, 1, 2, 18, 19, 20, 21, 7, 22, 23, 24, 25] rfl (by decide +kernel)
set_option maxRecDepth 20000 in
theorem gX5_letOut_X5_dropFirst : GoodIn wsX5_letOut (wsV RX5 42 RX5 yX5_dropFirst wsX5_dropFirst) := goodIn_app (goodIn_of _ (by decide +kernel)) ggX5_letOut_X5_dropFirst
theorem dX5_letOut_0 : decode cX5_letOut 0 = .ok (.iload_n 1, 1) := by decide +kernel
theorem dX5_letOut_1 : decode cX5_letOut 1 = .ok (.istore 4, 2) := by decide +kernel
theorem dX5_letOut_3 : decode cX5_letOut 3 = .ok (.iconst 0, 1) := by decide +kernel
theorem dX5_letOut_4 : decode cX5_letOut 4 = .ok (.istore 5, 2) := by decide +kernel
theorem dX5_letOut_6 : decode cX5_letOut 6 = .ok (.iconst 0, 1) := by decide +kernel
theorem dX5_letOut_7 : decode cX5_letOut 7 = .ok (.istore 6, 2) := by decide +kernel
theorem dX5_letOut_9 : decode cX5_letOut 9 = .ok (.iload 6, 2) := by decide +kernel
theorem dX5_letOut_11 : decode cX5_letOut 11 = .ok (.aload_n 0, 1) := by decide +kernel
theorem dX5_letOut_12 : decode cX5_letOut 12 = .ok (.getfield 22, 3) := by decide +kernel
theorem dX5_letOut_15 : decode cX5_letOut 15 = .ok (.if_icmp .ge 75, 3) := by decide +kernel
theorem dX5_letOut_18 : decode cX5_letOut 18 = .ok (.iload 4, 2) := by decide +kernel
theorem dX5_letOut_20 : decode cX5_letOut 20 = .ok (.ifCond .le 70, 3) := by decide +kernel
theorem dX5_letOut_23 : decode cX5_letOut 23 = .ok (.iload 4, 2) := by decide +kernel
theorem dX5_letOut_25 : decode cX5_letOut 25 = .ok (.aload_n 0, 1) := by decide +kernel
theorem dX5_letOut_26 : decode cX5_letOut 26 = .ok (.getfield 13, 3) := by decide +kernel
theorem dX5_letOut_29 : decode cX5_letOut 29 = .ok (.iload 6, 2) := by decide +kernel
theorem dX5_letOut_31 : decode cX5_letOut 31 = .ok (.iaload, 1) := by decide +kernel
theorem dX5_letOut_32 : decode cX5_letOut 32 = .ok (.invokestatic 26, 3) := by decide +kernel
theorem dX5_letOut_35 : decode cX5_letOut 35 = .ok (.istore 7, 2) := by decide +kernel
theorem dX5_letOut_37 : decode cX5_letOut 37 = .ok (.aload_n 3, 1) := by decide +kernel
theorem dX5_letOut_38 : decode cX5_letOut 38 = .ok (.iload 7, 2) := by decide +kernel
theorem dX5_letOut_40 : decode cX5_letOut 40 = .ok (.aload_n 0, 1) := by decide +kernel
theorem dX5_letOut_41 : decode cX5_letOut 41 = .ok (.getfield 19, 3) := by decide +kernel
theorem dX5_letOut_44 : decode cX5_letOut 44 = .ok (.iload 6, 2) := by decide +kernel
theorem dX5_letOut_46 : decode cX5_letOut 46 = .ok (.iaload, 1) := by decide +kernel
theorem dX5_letOut_47 : decode cX5_letOut 47 = .ok (.iload_n 2, 1) := by decide +kernel
theorem dX5_letOut_48 : decode cX5_letOut 48 = .ok (.ior, 1) := by decide +kernel
theorem dX5_letOut_49 : decode cX5_letOut 49 = .ok (.invokevirtual 38, 3) := by decide +kernel
theorem dX5_letOut_52 : decode cX5_letOut 52 = .ok (.aload_n 0, 1) := by decide +kernel
theorem dX5_letOut_53 : decode cX5_letOut 53 = .ok (.getfield 13, 3) := by decide +kernel
theorem dX5_letOut_56 : decode cX5_letOut 56 = .ok (.iload 6, 2) := by decide +kernel
theorem dX5_letOut_58 : decode cX5_letOut 58 = .ok (.dup2, 1) := by decide +kernel
theorem dX5_letOut_59 : decode cX5_letOut 59 = .ok (.iaload, 1) := by decide +kernel
theorem dX5_letOut_60 : decode cX5_letOut 60 = .ok (.iload 7, 2) := by decide +kernel
theorem dX5_letOut_62 : decode cX5_letOut 62 = .ok (.isub, 1) := by decide +kernel
theorem dX5_letOut_63 : decode cX5_letOut 63 = .ok (.iastore, 1) := by decide +kernel
theorem dX5_letOut_64 : decode cX5_letOut 64 = .ok (.iload 4, 2) := by decide +kernel
theorem dX5_letOut_66 : decode cX5_letOut 66 = .ok (.iload 7, 2) := by decide +kernel
theorem dX5_letOut_68 : decode cX5_letOut 68 = .ok (.isub, 1) := by decide +kernel
theorem dX5_letOut_69 : decode cX5_letOut 69 = .ok (.istore 4, 2) := by decide +kernel
theorem dX5_letOut_71 : decode cX5_letOut 71 = .ok (.aload_n 0, 1) := by decide +kernel
theorem dX5_letOut_72 : decode cX5_letOut 72 = .ok (.getfield 13, 3) := by decide +kernel
theorem dX5_letOut_75 : decode cX5_letOut 75 = .ok (.iload 6, 2) := by decide +kernel
theorem dX5_letOut_77 : decode cX5_letOut 77 = .ok (.iaload, 1) := by decide +kernel
theorem dX5_letOut_78 : decode cX5_letOut 78 = .ok (.ifCond .ne 6, 3) := by decide +kernel
theorem dX5_letOut_81 : decode cX5_letOut 81 = .ok (.iinc 5 1, 3) := by decide +kernel
theorem dX5_letOut_84 : decode cX5_letOut 84 = .ok (.iinc 6 1, 3) := by decide +kernel
theorem dX5_letOut_87 : decode cX5_letOut 87 = .ok (.goto (-78), 3) := by decide +kernel
theorem dX5_letOut_90 : decode cX5_letOut 90 = .ok (.aload_n 0, 1) := by decide +kernel
theorem dX5_letOut_91 : decode cX5_letOut 91 = .ok (.dup, 1) := by decide +kernel
theorem dX5_letOut_92 : decode cX5_letOut 92 = .ok (.getfield 29, 3) := by decide +kernel
theorem dX5_letOut_95 : decode cX5_letOut 95 = .ok (.iload_n 1, 1) := by decide +kernel
theorem dX5_letOut_96 : decode cX5_letOut 96 = .ok (.iload 4, 2) := by decide +kernel
theorem dX5_letOut_98 : decode cX5_letOut 98 = .ok (.isub, 1) := by decide +kernel
theorem dX5_letOut_99 : decode cX5_letOut 99 = .ok (.isub, 1) := by decide +kernel
theorem dX5_letOut_100 : decode cX5_letOut 100 = .ok (.putfield 29, 3) := by decide +kernel
theorem dX5_letOut_103 : decode cX5_letOut 103 = .ok (.aload_n 0, 1) := by decide +kernel
theorem dX5_letOut_104 : decode cX5_letOut 104 = .ok (.iload 5, 2) := by decide +kernel
theorem dX5_letOut_106 : decode cX5_letOut 106 = .ok (.invokevirtual 42, 3) := by decide +kernel
theorem dX5_letOut_109 : decode cX5_letOut 109 = .ok (.return_, 1) := by decide +kernel
theorem dX5_dropFirst_0 : decode cX5_dropFirst 0 = .ok (.aload_n 0, 1) := by decide +kernel
theorem dX5_dropFirst_1 : decode cX5_dropFirst 1 = .ok (.dup, 1) := by decide +kernel
theorem dX5_dropFirst_2 : decode cX5_dropFirst 2 = .ok (.getfield 22, 3) := by decide +kernel
theorem dX5_dropFirst_5 : decode cX5_dropFirst 5 = .ok (.iload_n 1, 1) := by decide +kernel
theorem dX5_dropFirst_6 : decode cX5_dropFirst 6 = .ok (.isub, 1) := by decide +kernel
theorem dX5_dropFirst_7 : decode cX5_dropFirst 7 = .ok (.putfield 22, 3) := by decide +kernel
theorem dX5_dropFirst_10 : decode cX5_dropFirst 10 = .ok (.aload_n 0, 1) := by decide +kernel
theorem dX5_dropFirst_11 : decode cX5_dropFirst 11 = .ok (.getfield 13, 3) := by decide +kernel
theorem dX5_dropFirst_14 : decode cX5_dropFirst 14 = .ok (.iload_n 1, 1) := by decide +kernel
theorem dX5_dropFirst_15 : decode cX5_dropFirst 15 = .ok (.aload_n 0, 1) := by decide +kernel
theorem dX5_dropFirst_16 : decode cX5_dropFirst 16 = .ok (.getfield 13, 3) := by decide +kernel
theorem dX5_dropFirst_19 : decode cX5_dropFirst 19 = .ok (.iconst 0, 1) := by decide +kernel
theorem dX5_dropFirst_20 : decode cX5_dropFirst 20 = .ok (.aload_n 0, 1) := by decide +kernel
theorem dX5_dropFirst_21 : decode cX5_dropFirst 21 = .ok (.getfield 22, 3) := by decide +kernel
theorem dX5_dropFirst_24 : decode cX5_dropFirst 24 = .ok (.invokestatic 32, 3) := by decide +kernel
theorem dX5_dropFirst_27 : decode cX5_dropFirst 27 = .ok (.aload_n 0, 1) := by decide +kernel
theorem dX5_dropFirst_28 : decode cX5_dropFirst 28 = .ok (.getfield 19, 3) := by decide +kernel
theorem dX5_dropFirst_31 : decode cX5_dropFirst 31 = .ok (.iload_n 1, 1) := by decide +kernel
theorem dX5_dropFirst_32 : decode cX5_dropFirst 32 = .ok (.aload_n 0, 1) := by decide +kernel
theorem dX5_dropFirst_33 : decode cX5_dropFirst 33 = .ok (.getfield 19, 3) := by decide +kernel
theorem dX5_dropFirst_36 : decode cX5_dropFirst 36 = .ok (.iconst 0, 1) := by decide +kernel
theorem dX5_dropFirst_37 : decode cX5_dropFirst 37 = .ok (.aload_n 0, 1) := by decide +kernel
theorem dX5_dropFirst_38 : decode cX5_dropFirst 38 = .ok (.getfield 22, 3) := by decide +kernel
theorem dX5_dropFirst_41 : decode cX5_dropFirst 41 = .ok (.invokestatic 32, 3) := by decide +kernel
theorem dX5_dropFirst_44 : decode cX5_dropFirst 44 = .ok (.return_, 1) := by decide +kernel
theorem dX5_amountAt_0 : decode cX5_amountAt 0 = .ok (.iload_n 1, 1) := by decide +kernel
theorem dX5_amountAt_1 : decode cX5_amountAt 1 = .ok (.ifCond .lt 11, 3) := by decide +kernel
theorem dX5_amountAt_4 : decode cX5_amountAt 4 = .ok (.iload_n 1, 1) := by decide +kernel
theorem dX5_amountAt_5 : decode cX5_amountAt 5 = .ok (.aload_n 0, 1) := by decide +kernel
theorem dX5_amountAt_6 : decode cX5_amountAt 6 = .ok (.getfield 22, 3) := by decide +kernel
theorem dX5_amountAt_9 : decode cX5_amountAt 9 = .ok (.if_icmp .lt 7, 3) := by decide +kernel
theorem dX5_amountAt_12 : decode cX5_amountAt 12 = .ok (.iconst 0, 1) := by decide +kernel
theorem dX5_amountAt_13 : decode cX5_amountAt 13 = .ok (.goto 9, 3) := by decide +kernel
theorem dX5_amountAt_16 : decode cX5_amountAt 16 = .ok (.aload_n 0, 1) := by decide +kernel
theorem dX5_amountAt_17 : decode cX5_amountAt 17 = .ok (.getfield 13, 3) := by decide +kernel
theorem dX5_amountAt_20 : decode cX5_amountAt 20 = .ok (.iload_n 1, 1) := by decide +kernel
theorem dX5_amountAt_21 : decode cX5_amountAt 21 = .ok (.iaload, 1) := by decide +kernel
theorem dX5_amountAt_22 : decode cX5_amountAt 22 = .ok (.ireturn, 1) := by decide +kernel
theorem dX5_markAt_0 : decode cX5_markAt 0 = .ok (.iload_n 1, 1) := by decide +kernel
theorem dX5_markAt_1 : decode cX5_markAt 1 = .ok (.ifCond .lt 11, 3) := by decide +kernel
theorem dX5_markAt_4 : decode cX5_markAt 4 = .ok (.iload_n 1, 1) := by decide +kernel
theorem dX5_markAt_5 : decode cX5_markAt 5 = .ok (.aload_n 0, 1) := by decide +kernel
theorem dX5_markAt_6 : decode cX5_markAt 6 = .ok (.getfield 22, 3) := by decide +kernel
theorem dX5_markAt_9 : decode cX5_markAt 9 = .ok (.if_icmp .lt 7, 3) := by decide +kernel
theorem dX5_markAt_12 : decode cX5_markAt 12 = .ok (.iconst 0, 1) := by decide +kernel
theorem dX5_markAt_13 : decode cX5_markAt 13 = .ok (.goto 9, 3) := by decide +kernel
theorem dX5_markAt_16 : decode cX5_markAt 16 = .ok (.aload_n 0, 1) := by decide +kernel
theorem dX5_markAt_17 : decode cX5_markAt 17 = .ok (.getfield 19, 3) := by decide +kernel
theorem dX5_markAt_20 : decode cX5_markAt 20 = .ok (.iload_n 1, 1) := by decide +kernel
theorem dX5_markAt_21 : decode cX5_markAt 21 = .ok (.iaload, 1) := by decide +kernel
theorem dX5_markAt_22 : decode cX5_markAt 22 = .ok (.ireturn, 1) := by decide +kernel
theorem dX5_isMostly_0 : decode cX5_isMostly 0 = .ok (.iconst 0, 1) := by decide +kernel
theorem dX5_isMostly_1 : decode cX5_isMostly 1 = .ok (.istore_n 2, 1) := by decide +kernel
theorem dX5_isMostly_2 : decode cX5_isMostly 2 = .ok (.iconst 0, 1) := by decide +kernel
theorem dX5_isMostly_3 : decode cX5_isMostly 3 = .ok (.istore_n 3, 1) := by decide +kernel
theorem dX5_isMostly_4 : decode cX5_isMostly 4 = .ok (.iload_n 3, 1) := by decide +kernel
theorem dX5_isMostly_5 : decode cX5_isMostly 5 = .ok (.aload_n 0, 1) := by decide +kernel
theorem dX5_isMostly_6 : decode cX5_isMostly 6 = .ok (.getfield 22, 3) := by decide +kernel
theorem dX5_isMostly_9 : decode cX5_isMostly 9 = .ok (.if_icmp .ge 33, 3) := by decide +kernel
theorem dX5_isMostly_12 : decode cX5_isMostly 12 = .ok (.iload_n 2, 1) := by decide +kernel
theorem dX5_isMostly_13 : decode cX5_isMostly 13 = .ok (.aload_n 0, 1) := by decide +kernel
theorem dX5_isMostly_14 : decode cX5_isMostly 14 = .ok (.getfield 19, 3) := by decide +kernel
theorem dX5_isMostly_17 : decode cX5_isMostly 17 = .ok (.iload_n 3, 1) := by decide +kernel
theorem dX5_isMostly_18 : decode cX5_isMostly 18 = .ok (.iaload, 1) := by decide +kernel
theorem dX5_isMostly_19 : decode cX5_isMostly 19 = .ok (.iload_n 1, 1) := by decide +kernel
theorem dX5_isMostly_20 : decode cX5_isMostly 20 = .ok (.iand, 1) := by decide +kernel
theorem dX5_isMostly_21 : decode cX5_isMostly 21 = .ok (.ifCond .eq 12, 3) := by decide +kernel
theorem dX5_isMostly_24 : decode cX5_isMostly 24 = .ok (.aload_n 0, 1) := by decide +kernel
theorem dX5_isMostly_25 : decode cX5_isMostly 25 = .ok (.getfield 13, 3) := by decide +kernel
theorem dX5_isMostly_28 : decode cX5_isMostly 28 = .ok (.iload_n 3, 1) := by decide +kernel
theorem dX5_isMostly_29 : decode cX5_isMostly 29 = .ok (.iaload, 1) := by decide +kernel
theorem dX5_isMostly_30 : decode cX5_isMostly 30 = .ok (.goto 4, 3) := by decide +kernel
theorem dX5_isMostly_33 : decode cX5_isMostly 33 = .ok (.iconst 0, 1) := by decide +kernel
theorem dX5_isMostly_34 : decode cX5_isMostly 34 = .ok (.iadd, 1) := by decide +kernel
theorem dX5_isMostly_35 : decode cX5_isMostly 35 = .ok (.istore_n 2, 1) := by decide +kernel
theorem dX5_isMostly_36 : decode cX5_isMostly 36 = .ok (.iinc 3 1, 3) := by decide +kernel
theorem dX5_isMostly_39 : decode cX5_isMostly 39 = .ok (.goto (-35), 3) := by decide +kernel
theorem dX5_isMostly_42 : decode cX5_isMostly 42 = .ok (.iload_n 2, 1) := by decide +kernel
theorem dX5_isMostly_43 : decode cX5_isMostly 43 = .ok (.aload_n 0, 1) := by decide +kernel
theorem dX5_isMostly_44 : decode cX5_isMostly 44 = .ok (.getfield 29, 3) := by decide +kernel
theorem dX5_isMostly_47 : decode cX5_isMostly 47 = .ok (.iload_n 2, 1) := by decide +kernel
theorem dX5_isMostly_48 : decode cX5_isMostly 48 = .ok (.isub, 1) := by decide +kernel
theorem dX5_isMostly_49 : decode cX5_isMostly 49 = .ok (.if_icmp .le 7, 3) := by decide +kernel
theorem dX5_isMostly_52 : decode cX5_isMostly 52 = .ok (.iconst 1, 1) := by decide +kernel
theorem dX5_isMostly_53 : decode cX5_isMostly 53 = .ok (.goto 4, 3) := by decide +kernel
theorem dX5_isMostly_56 : decode cX5_isMostly 56 = .ok (.iconst 0, 1) := by decide +kernel
theorem dX5_isMostly_57 : decode cX5_isMostly 57 = .ok (.ireturn, 1) := by decide +kernel
theorem dX6_init_0 : decode cX6_init 0 = .ok (.aload_n 0, 1) := by decide +kernel
theorem dX6_init_1 : decode cX6_init 1 = .ok (.invokespecial 3, 3) := by decide +kernel
theorem dX6_init_4 : decode cX6_init 4 = .ok (.aload_n 0, 1) := by decide +kernel
theorem dX6_init_5 : decode cX6_init 5 = .ok (.bipush 96, 2) := by decide +kernel
theorem dX6_init_7 : decode cX6_init 7 = .ok (.newarray .int, 2) := by decide +kernel
theorem dX6_init_9 : decode cX6_init 9 = .ok (.putfield 11, 3) := by decide +kernel
theorem dX6_init_12 : decode cX6_init 12 = .ok (.return_, 1) := by decide +kernel
theorem dX6_copyFrom_0 : decode cX6_copyFrom 0 = .ok (.aload_n 1, 1) := by decide +kernel
theorem dX6_copyFrom_1 : decode cX6_copyFrom 1 = .ok (.getfield 11, 3) := by decide +kernel
theorem dX6_copyFrom_4 : decode cX6_copyFrom 4 = .ok (.iconst 0, 1) := by decide +kernel
theorem dX6_copyFrom_5 : decode cX6_copyFrom 5 = .ok (.aload_n 0, 1) := by decide +kernel
theorem dX6_copyFrom_6 : decode cX6_copyFrom 6 = .ok (.getfield 11, 3) := by decide +kernel
theorem dX6_copyFrom_9 : decode cX6_copyFrom 9 = .ok (.iconst 0, 1) := by decide +kernel
theorem dX6_copyFrom_10 : decode cX6_copyFrom 10 = .ok (.aload_n 0, 1) := by decide +kernel
theorem dX6_copyFrom_11 : decode cX6_copyFrom 11 = .ok (.getfield 11, 3) := by decide +kernel
theorem dX6_copyFrom_14 : decode cX6_copyFrom 14 = .ok (.arraylength, 1) := by decide +kernel
theorem dX6_copyFrom_15 : decode cX6_copyFrom 15 = .ok (.invokestatic 15, 3) := by decide +kernel
theorem dX6_copyFrom_18 : decode cX6_copyFrom 18 = .ok (.aload_n 0, 1) := by decide +kernel
theorem dX6_copyFrom_19 : decode cX6_copyFrom 19 = .ok (.aload_n 1, 1) := by decide +kernel
theorem dX6_copyFrom_20 : decode cX6_copyFrom 20 = .ok (.getfield 21, 3) := by decide +kernel
theorem dX6_copyFrom_23 : decode cX6_copyFrom 23 = .ok (.putfield 21, 3) := by decide +kernel
theorem dX6_copyFrom_26 : decode cX6_copyFrom 26 = .ok (.aload_n 0, 1) := by decide +kernel
theorem dX6_copyFrom_27 : decode cX6_copyFrom 27 = .ok (.aload_n 1, 1) := by decide +kernel
theorem dX6_copyFrom_28 : decode cX6_copyFrom 28 = .ok (.getfield 25, 3) := by decide +kernel
theorem dX6_copyFrom_31 : decode cX6_copyFrom 31 = .ok (.putfield 25, 3) := by decide +kernel
theorem dX6_copyFrom_34 : decode cX6_copyFrom 34 = .ok (.return_, 1) := by decide +kernel
theorem dX6_add_0 : decode cX6_add 0 = .ok (.aload_n 0, 1) := by decide +kernel
theorem dX6_add_1 : decode cX6_add 1 = .ok (.getfield 11, 3) := by decide +kernel
theorem dX6_add_4 : decode cX6_add 4 = .ok (.iconst 0, 1) := by decide +kernel
theorem dX6_add_5 : decode cX6_add 5 = .ok (.aload_n 0, 1) := by decide +kernel
theorem dX6_add_6 : decode cX6_add 6 = .ok (.getfield 11, 3) := by decide +kernel
theorem dX6_add_9 : decode cX6_add 9 = .ok (.bipush 8, 2) := by decide +kernel
theorem dX6_add_11 : decode cX6_add 11 = .ok (.aload_n 0, 1) := by decide +kernel
theorem dX6_add_12 : decode cX6_add 12 = .ok (.getfield 11, 3) := by decide +kernel
theorem dX6_add_15 : decode cX6_add 15 = .ok (.arraylength, 1) := by decide +kernel
theorem dX6_add_16 : decode cX6_add 16 = .ok (.bipush 8, 2) := by decide +kernel
theorem dX6_add_18 : decode cX6_add 18 = .ok (.isub, 1) := by decide +kernel
theorem dX6_add_19 : decode cX6_add 19 = .ok (.invokestatic 15, 3) := by decide +kernel
theorem dX6_add_22 : decode cX6_add 22 = .ok (.aload_n 0, 1) := by decide +kernel
theorem dX6_add_23 : decode cX6_add 23 = .ok (.getfield 11, 3) := by decide +kernel
theorem dX6_add_26 : decode cX6_add 26 = .ok (.iconst 0, 1) := by decide +kernel
theorem dX6_add_27 : decode cX6_add 27 = .ok (.aload_n 0, 1) := by decide +kernel
theorem dX6_add_28 : decode cX6_add 28 = .ok (.getfield 25, 3) := by decide +kernel
theorem dX6_add_31 : decode cX6_add 31 = .ok (.iastore, 1) := by decide +kernel
theorem dX6_add_32 : decode cX6_add 32 = .ok (.aload_n 0, 1) := by decide +kernel
theorem dX6_add_33 : decode cX6_add 33 = .ok (.getfield 11, 3) := by decide +kernel
theorem dX6_add_36 : decode cX6_add 36 = .ok (.iconst 1, 1) := by decide +kernel
theorem dX6_add_37 : decode cX6_add 37 = .ok (.iload_n 1, 1) := by decide +kernel
theorem dX6_add_38 : decode cX6_add 38 = .ok (.iastore, 1) := by decide +kernel
theorem dX6_add_39 : decode cX6_add 39 = .ok (.aload_n 0, 1) := by decide +kernel
theorem dX6_add_40 : decode cX6_add 40 = .ok (.getfield 11, 3) := by decide +kernel
theorem dX6_add_43 : decode cX6_add 43 = .ok (.iconst 2, 1) := by decide +kernel
theorem dX6_add_44 : decode cX6_add 44 = .ok (.iload_n 2, 1) := by decide +kernel
theorem dX6_add_45 : decode cX6_add 45 = .ok (.iastore, 1) := by decide +kernel
theorem dX6_add_46 : decode cX6_add 46 = .ok (.aload_n 0, 1) := by decide +kernel
theorem dX6_add_47 : decode cX6_add 47 = .ok (.getfield 11, 3) := by decide +kernel
theorem dX6_add_50 : decode cX6_add 50 = .ok (.iconst 3, 1) := by decide +kernel
theorem dX6_add_51 : decode cX6_add 51 = .ok (.iload_n 3, 1) := by decide +kernel
theorem dX6_add_52 : decode cX6_add 52 = .ok (.iastore, 1) := by decide +kernel
theorem dX6_add_53 : decode cX6_add 53 = .ok (.aload_n 0, 1) := by decide +kernel
theorem dX6_add_54 : decode cX6_add 54 = .ok (.getfield 11, 3) := by decide +kernel
theorem dX6_add_57 : decode cX6_add 57 = .ok (.iconst 4, 1) := by decide +kernel
theorem dX6_add_58 : decode cX6_add 58 = .ok (.iload 4, 2) := by decide +kernel
theorem dX6_add_60 : decode cX6_add 60 = .ok (.iastore, 1) := by decide +kernel
theorem dX6_add_61 : decode cX6_add 61 = .ok (.aload_n 0, 1) := by decide +kernel
theorem dX6_add_62 : decode cX6_add 62 = .ok (.getfield 11, 3) := by decide +kernel
theorem dX6_add_65 : decode cX6_add 65 = .ok (.bipush 6, 2) := by decide +kernel
theorem dX6_add_67 : decode cX6_add 67 = .ok (.iload 5, 2) := by decide +kernel
theorem dX6_add_69 : decode cX6_add 69 = .ok (.iastore, 1) := by decide +kernel
theorem dX6_add_70 : decode cX6_add 70 = .ok (.aload_n 0, 1) := by decide +kernel
theorem dX6_add_71 : decode cX6_add 71 = .ok (.getfield 11, 3) := by decide +kernel
theorem dX6_add_74 : decode cX6_add 74 = .ok (.bipush 7, 2) := by decide +kernel
theorem dX6_add_76 : decode cX6_add 76 = .ok (.iload 6, 2) := by decide +kernel
theorem dX6_add_78 : decode cX6_add 78 = .ok (.iastore, 1) := by decide +kernel
theorem dX6_add_79 : decode cX6_add 79 = .ok (.aload_n 0, 1) := by decide +kernel
theorem dX6_add_80 : decode cX6_add 80 = .ok (.bipush 12, 2) := by decide +kernel
theorem dX6_add_82 : decode cX6_add 82 = .ok (.aload_n 0, 1) := by decide +kernel
theorem dX6_add_83 : decode cX6_add 83 = .ok (.getfield 21, 3) := by decide +kernel
theorem dX6_add_86 : decode cX6_add 86 = .ok (.iconst 1, 1) := by decide +kernel
theorem dX6_add_87 : decode cX6_add 87 = .ok (.iadd, 1) := by decide +kernel
theorem dX6_add_88 : decode cX6_add 88 = .ok (.invokestatic 28, 3) := by decide +kernel
theorem dX6_add_91 : decode cX6_add 91 = .ok (.putfield 21, 3) := by decide +kernel
theorem dX6_add_94 : decode cX6_add 94 = .ok (.aload_n 0, 1) := by decide +kernel
theorem dX6_add_95 : decode cX6_add 95 = .ok (.dup, 1) := by decide +kernel
theorem dX6_add_96 : decode cX6_add 96 = .ok (.getfield 25, 3) := by decide +kernel
theorem dX6_add_99 : decode cX6_add 99 = .ok (.iconst 1, 1) := by decide +kernel
theorem dX6_add_100 : decode cX6_add 100 = .ok (.iadd, 1) := by decide +kernel
theorem dX6_add_101 : decode cX6_add 101 = .ok (.putfield 25, 3) := by decide +kernel
theorem dX6_add_104 : decode cX6_add 104 = .ok (.return_, 1) := by decide +kernel
theorem dX6_latestTime_0 : decode cX6_latestTime 0 = .ok (.aload_n 0, 1) := by decide +kernel
theorem dX6_latestTime_1 : decode cX6_latestTime 1 = .ok (.getfield 11, 3) := by decide +kernel
theorem dX6_latestTime_4 : decode cX6_latestTime 4 = .ok (.iconst 1, 1) := by decide +kernel
theorem dX6_latestTime_5 : decode cX6_latestTime 5 = .ok (.iaload, 1) := by decide +kernel
theorem dX6_latestTime_6 : decode cX6_latestTime 6 = .ok (.ireturn, 1) := by decide +kernel
set_option maxRecDepth 20000 in
theorem ggX6_tell_X6_awayFrom : GoodIn wsX6_tell wsX6_awayFrom := goodIn_r _ [8, 3, 9, 10, 11, 12, 13, 14, 15] rfl (by decide +kernel)
set_option maxRecDepth 20000 in
theorem gX6_tell_X6_awayFrom : GoodIn wsX6_tell (wsV RX6 35 RX6 yX6_awayFrom wsX6_awayFrom) := goodIn_app (goodIn_of _ (by decide +kernel)) ggX6_tell_X6_awayFrom
theorem dX6_tell_0 : decode cX6_tell 0 = .ok (.iload_n 1, 1) := by decide +kernel
theorem dX6_tell_1 : decode cX6_tell 1 = .ok (.ifCond .lt 21, 3) := by decide +kernel
theorem dX6_tell_4 : decode cX6_tell 4 = .ok (.iload_n 1, 1) := by decide +kernel
theorem dX6_tell_5 : decode cX6_tell 5 = .ok (.aload_n 0, 1) := by decide +kernel
theorem dX6_tell_6 : decode cX6_tell 6 = .ok (.getfield 21, 3) := by decide +kernel
theorem dX6_tell_9 : decode cX6_tell 9 = .ok (.if_icmp .ge 13, 3) := by decide +kernel
theorem dX6_tell_12 : decode cX6_tell 12 = .ok (.iload_n 2, 1) := by decide +kernel
theorem dX6_tell_13 : decode cX6_tell 13 = .ok (.ifCond .lt 9, 3) := by decide +kernel
theorem dX6_tell_16 : decode cX6_tell 16 = .ok (.iload_n 2, 1) := by decide +kernel
theorem dX6_tell_17 : decode cX6_tell 17 = .ok (.bipush 8, 2) := by decide +kernel
theorem dX6_tell_19 : decode cX6_tell 19 = .ok (.if_icmp .lt 6, 3) := by decide +kernel
theorem dX6_tell_22 : decode cX6_tell 22 = .ok (.ldc 34, 2) := by decide +kernel
theorem dX6_tell_24 : decode cX6_tell 24 = .ok (.ireturn, 1) := by decide +kernel
theorem dX6_tell_25 : decode cX6_tell 25 = .ok (.iload_n 2, 1) := by decide +kernel
theorem dX6_tell_26 : decode cX6_tell 26 = .ok (.iconst 5, 1) := by decide +kernel
theorem dX6_tell_27 : decode cX6_tell 27 = .ok (.if_icmp .ne 12, 3) := by decide +kernel
theorem dX6_tell_30 : decode cX6_tell 30 = .ok (.aload_n 0, 1) := by decide +kernel
theorem dX6_tell_31 : decode cX6_tell 31 = .ok (.iload_n 3, 1) := by decide +kernel
theorem dX6_tell_32 : decode cX6_tell 32 = .ok (.iload_n 1, 1) := by decide +kernel
theorem dX6_tell_33 : decode cX6_tell 33 = .ok (.invokevirtual 35, 3) := by decide +kernel
theorem dX6_tell_36 : decode cX6_tell 36 = .ok (.goto 14, 3) := by decide +kernel
theorem dX6_tell_39 : decode cX6_tell 39 = .ok (.aload_n 0, 1) := by decide +kernel
theorem dX6_tell_40 : decode cX6_tell 40 = .ok (.getfield 11, 3) := by decide +kernel
theorem dX6_tell_43 : decode cX6_tell 43 = .ok (.iload_n 1, 1) := by decide +kernel
theorem dX6_tell_44 : decode cX6_tell 44 = .ok (.bipush 8, 2) := by decide +kernel
theorem dX6_tell_46 : decode cX6_tell 46 = .ok (.imul, 1) := by decide +kernel
theorem dX6_tell_47 : decode cX6_tell 47 = .ok (.iload_n 2, 1) := by decide +kernel
theorem dX6_tell_48 : decode cX6_tell 48 = .ok (.iadd, 1) := by decide +kernel
theorem dX6_tell_49 : decode cX6_tell 49 = .ok (.iaload, 1) := by decide +kernel
theorem dX6_tell_50 : decode cX6_tell 50 = .ok (.ireturn, 1) := by decide +kernel
theorem dX6_awayFrom_0 : decode cX6_awayFrom 0 = .ok (.aload_n 0, 1) := by decide +kernel
theorem dX6_awayFrom_1 : decode cX6_awayFrom 1 = .ok (.getfield 11, 3) := by decide +kernel
theorem dX6_awayFrom_4 : decode cX6_awayFrom 4 = .ok (.iload_n 2, 1) := by decide +kernel
theorem dX6_awayFrom_5 : decode cX6_awayFrom 5 = .ok (.bipush 8, 2) := by decide +kernel
theorem dX6_awayFrom_7 : decode cX6_awayFrom 7 = .ok (.imul, 1) := by decide +kernel
theorem dX6_awayFrom_8 : decode cX6_awayFrom 8 = .ok (.iconst 1, 1) := by decide +kernel
theorem dX6_awayFrom_9 : decode cX6_awayFrom 9 = .ok (.iadd, 1) := by decide +kernel
theorem dX6_awayFrom_10 : decode cX6_awayFrom 10 = .ok (.iaload, 1) := by decide +kernel
theorem dX6_awayFrom_11 : decode cX6_awayFrom 11 = .ok (.iload_n 1, 1) := by decide +kernel
theorem dX6_awayFrom_12 : decode cX6_awayFrom 12 = .ok (.isub, 1) := by decide +kernel
theorem dX6_awayFrom_13 : decode cX6_awayFrom 13 = .ok (.invokestatic 38, 3) := by decide +kernel
theorem dX6_awayFrom_16 : decode cX6_awayFrom 16 = .ok (.ireturn, 1) := by decide +kernel
set_option maxRecDepth 20000 in
theorem ggX7_init_X2_init : GoodIn wsX7_init wsX2_init := goodIn_r _ [18, 19, 2, 3, 20, 13, 14, 21, 22, 23, 24, 25, 26, 27, 28, 29, 30, 31, 32, 33, 34, 35, 36, 37, 38, 39, 40, 41, 42, 43, 44, 45, 46, 47, 48, 49, 50, 51, 52, 53, 54, 55, 56, 57, 58, 59, 60, 61, 62, 63, 64, 65, 66, 67, 68, 69, 70, 71, 96, 97, 98, 99, 100, 101, 102, 103, 104, 105, 106, 107, 108, 77, 78, 79, 80, 81, 109, 110, 111, 112, 113, 114, 115, 116, 117, 118, 119, 120] rfl (by decide +kernel)
set_option maxRecDepth 20000 in
theorem gX7_init_X2_init_n9 : GoodIn wsX7_init (wsX2_init) := ggX7_init_X2_init
set_option maxRecDepth 20000 in
theorem ggX7_init_X4_init : GoodIn wsX7_init wsX4_init := goodIn_r _ [73, 74, 2, 3, 75, 76, 86, 87, 88, 89, 90, 91, 92, 93, 94, 95] rfl (by decide +kernel)
set_option maxRecDepth 20000 in
theorem gX7_init_X4_init_n18 : GoodIn wsX7_init (wsX4_init) := ggX7_init_X4_init
set_option maxRecDepth 20000 in
theorem ggX7_init_X1_init : GoodIn wsX7_init wsX1_init := goodIn_r _ [26, 27, 2, 3, 28, 29, 30, 31, 32, 33, 34, 35, 36, 37, 38, 39, 40, 41, 42, 43, 44, 45, 46, 47, 48, 49, 50, 51, 52, 53, 54, 55, 56, 57, 58, 59, 60, 61, 62, 63, 64, 65, 66, 67, 68, 69, 70, 71, 109, 96, 97, 98, 99, 100, 101, 102, 103, 104, 105, 106, 107, 108, 110, 111, 112, 113, 114, 115, 116, 117, 118, 119, 120] rfl (by decide +kernel)
set_option maxRecDepth 20000 in
theorem gX7_init_X1_init_n25 : GoodIn wsX7_init (wsX1_init) := ggX7_init_X1_init
theorem dX7_init_0 : decode cX7_init 0 = .ok (.aload_n 0, 1) := by decide +kernel
theorem dX7_init_1 : decode cX7_init 1 = .ok (.invokespecial 1, 3) := by decide +kernel
theorem dX7_init_4 : decode cX7_init 4 = .ok (.aload_n 0, 1) := by decide +kernel
theorem dX7_init_5 : decode cX7_init 5 = .ok (.new 7, 3) := by decide +kernel
theorem dX7_init_8 : decode cX7_init 8 = .ok (.dup, 1) := by decide +kernel
theorem dX7_init_9 : decode cX7_init 9 = .ok (.invokespecial 9, 3) := by decide +kernel
theorem dX7_init_12 : decode cX7_init 12 = .ok (.putfield 10, 3) := by decide +kernel
theorem dX7_init_15 : decode cX7_init 15 = .ok (.aload_n 0, 1) := by decide +kernel
theorem dX7_init_16 : decode cX7_init 16 = .ok (.new 16, 3) := by decide +kernel
theorem dX7_init_19 : decode cX7_init 19 = .ok (.dup, 1) := by decide +kernel
theorem dX7_init_20 : decode cX7_init 20 = .ok (.invokespecial 18, 3) := by decide +kernel
theorem dX7_init_23 : decode cX7_init 23 = .ok (.putfield 19, 3) := by decide +kernel
theorem dX7_init_26 : decode cX7_init 26 = .ok (.aload_n 0, 1) := by decide +kernel
theorem dX7_init_27 : decode cX7_init 27 = .ok (.new 23, 3) := by decide +kernel
theorem dX7_init_30 : decode cX7_init 30 = .ok (.dup, 1) := by decide +kernel
theorem dX7_init_31 : decode cX7_init 31 = .ok (.invokespecial 25, 3) := by decide +kernel
theorem dX7_init_34 : decode cX7_init 34 = .ok (.putfield 26, 3) := by decide +kernel
theorem dX7_init_37 : decode cX7_init 37 = .ok (.aload_n 0, 1) := by decide +kernel
theorem dX7_init_38 : decode cX7_init 38 = .ok (.new 23, 3) := by decide +kernel
theorem dX7_init_41 : decode cX7_init 41 = .ok (.dup, 1) := by decide +kernel
theorem dX7_init_42 : decode cX7_init 42 = .ok (.invokespecial 25, 3) := by decide +kernel
theorem dX7_init_45 : decode cX7_init 45 = .ok (.putfield 30, 3) := by decide +kernel
theorem dX7_init_48 : decode cX7_init 48 = .ok (.return_, 1) := by decide +kernel
set_option maxRecDepth 20000 in
theorem ggX7_fill_X7_spareLikeNow : GoodIn wsX7_fill wsX7_spareLikeNow := goodIn_r _ [5, 6, 7, 8, 9, 10, 11, 12, 13, 14, 15, 16, 17, 18, 19, 20, 21, 22, 23, 24, 25, 26, 27, 28, 29, 30, 31, 32, 33, 34, 35, 36, 37, 38, 39, 40, 41, 42, 43, 44, 45, 46, 47, 48, 49, 50, 51, 52, 53, 54, 55, 56, 57, 58, 59, 60, 61, 62, 63, 64, 65, 66, 67, 68, 121, 122, 123, 124, 125, 126, 127, 128, 129, 130, 131, 132, 133, 134, 135, 136, 137, 138, 139, 140, 141, 142, 143, 144, 145, 146, 147, 148, 149] rfl (by decide +kernel)
set_option maxRecDepth 20000 in
theorem gX7_fill_X7_spareLikeNow : GoodIn wsX7_fill (wsV RX7 33 RX7 yX7_spareLikeNow wsX7_spareLikeNow) := goodIn_app (goodIn_of _ (by decide +kernel)) ggX7_fill_X7_spareLikeNow
set_option maxRecDepth 20000 in
theorem ggX7_fill_X1_fillIn : GoodIn wsX7_fill wsX1_fillIn := goodIn_r _ [72, 73, 13, 74, 25, 75, 4, 76, 77, 78, 79, 33, 80, 35, 81, 82, 83, 84, 85, 86, 87, 39, 88, 41, 49, 89, 90, 91, 92, 93, 94, 95, 96, 42, 47, 97, 98, 99, 100, 101, 102, 103, 104, 125, 126, 127, 128, 129, 130, 131, 132, 133, 134, 135, 136, 137, 138, 139, 140, 141, 142] rfl (by decide +kernel)
set_option maxRecDepth 20000 in
theorem gX7_fill_X1_fillIn : GoodIn wsX7_fill (wsV RX7 37 RX1 yX1_fillIn wsX1_fillIn) := goodIn_app (goodIn_of _ (by decide +kernel)) ggX7_fill_X1_fillIn
set_option maxRecDepth 20000 in
theorem ggX7_fill_X7_keepIfDone : GoodIn wsX7_fill wsX7_keepIfDone := goodIn_r _ [108, 7, 6, 109, 110, 111, 112, 113, 114, 115, 116, 117, 118, 119, 120, 44, 45, 46, 121, 122, 123, 124, 150, 151, 152, 153, 154] rfl (by decide +kernel)
set_option maxRecDepth 20000 in
theorem gX7_fill_X7_keepIfDone : GoodIn wsX7_fill (wsV RX7 41 RX7 yX7_keepIfDone wsX7_keepIfDone) := goodIn_app (goodIn_of _ (by decide +kernel)) ggX7_fill_X7_keepIfDone
theorem dX7_fill_0 : decode cX7_fill 0 = .ok (.aload_n 0, 1) := by decide +kernel
theorem dX7_fill_1 : decode cX7_fill 1 = .ok (.aload_n 0, 1) := by decide +kernel
theorem dX7_fill_2 : decode cX7_fill 2 = .ok (.invokevirtual 33, 3) := by decide +kernel
theorem dX7_fill_5 : decode cX7_fill 5 = .ok (.iload_n 1, 1) := by decide +kernel
theorem dX7_fill_6 : decode cX7_fill 6 = .ok (.iload_n 2, 1) := by decide +kernel
theorem dX7_fill_7 : decode cX7_fill 7 = .ok (.invokevirtual 37, 3) := by decide +kernel
theorem dX7_fill_10 : decode cX7_fill 10 = .ok (.invokevirtual 41, 3) := by decide +kernel
theorem dX7_fill_13 : decode cX7_fill 13 = .ok (.ireturn, 1) := by decide +kernel
set_option maxRecDepth 20000 in
theorem ggX7_grind_X7_spareLikeNow : GoodIn wsX7_grind wsX7_spareLikeNow := goodIn_r _ [5, 6, 7, 8, 9, 10, 11, 12, 13, 14, 15, 16, 17, 18, 19, 20, 21, 22, 23, 24, 25, 26, 27, 28, 29, 30, 31, 32, 33, 34, 35, 36, 37, 38, 39, 40, 41, 42, 43, 44, 45, 46, 47, 48, 49, 50, 51, 52, 53, 54, 55, 56, 57, 58, 59, 60, 61, 62, 63, 64, 65, 66, 67, 68, 148, 149, 150, 151, 152, 153, 154, 155, 156, 157, 158, 159, 160, 161, 162, 163, 164, 165, 166, 167, 168, 169, 170, 171, 172, 173, 174, 175, 176] rfl (by decide +kernel)
set_option maxRecDepth 20000 in
theorem gX7_grind_X7_spareLikeNow : GoodIn wsX7_grind (wsV RX7 33 RX7 yX7_spareLikeNow wsX7_spareLikeNow) := goodIn_app (goodIn_of _ (by decide +kernel)) ggX7_grind_X7_spareLikeNow
set_option maxRecDepth 20000 in
theorem ggX7_grind_X1_grindBy : GoodIn wsX7_grind wsX1_grindBy := goodIn_r _ [72, 73, 13, 74, 16, 19, 75, 76, 45, 77, 17, 78, 26, 79, 4, 80, 81, 82, 83, 33, 84, 35, 85, 86, 87, 11, 88, 14, 15, 89, 90, 91, 53, 92, 55, 93, 94, 95, 96, 56, 97, 98, 99, 100, 101, 102, 103, 104, 105, 106, 39, 107, 41, 42, 43, 44, 46, 49, 47, 108, 109, 110, 111, 112, 113, 114, 115, 48, 21, 22, 23, 116, 117, 118, 119, 120, 57, 121, 122, 123, 124, 125, 24, 126, 127, 128, 129, 130, 131, 152, 153, 154, 155, 156, 157, 158, 159, 160, 161, 162, 163, 164, 166, 167, 168, 169, 165, 170, 171, 172, 173] rfl (by decide +kernel)
set_option maxRecDepth 20000 in
theorem gX7_grind_X1_grindBy : GoodIn wsX7_grind (wsV RX7 45 RX1 yX1_grindBy wsX1_grindBy) := goodIn_app (goodIn_of _ (by decide +kernel)) ggX7_grind_X1_grindBy
set_option maxRecDepth 20000 in
theorem ggX7_grind_X7_keepIfDone : GoodIn wsX7_grind wsX7_keepIfDone := goodIn_r _ [135, 7, 6, 136, 137, 138, 139, 140, 141, 142, 143, 144, 145, 146, 147, 44, 45, 46, 148, 149, 150, 151, 177, 178, 179, 180, 181] rfl (by decide +kernel)
set_option maxRecDepth 20000 in
theorem gX7_grind_X7_keepIfDone : GoodIn wsX7_grind (wsV RX7 41 RX7 yX7_keepIfDone wsX7_keepIfDone) := goodIn_app (goodIn_of _ (by decide +kernel)) ggX7_grind_X7_keepIfDone
theorem dX7_grind_0 : decode cX7_grind 0 = .ok (.aload_n 0, 1) := by decide +kernel
theorem dX7_grind_1 : decode cX7_grind 1 = .ok (.aload_n 0, 1) := by decide +kernel
theorem dX7_grind_2 : decode cX7_grind 2 = .ok (.invokevirtual 33, 3) := by decide +kernel
theorem dX7_grind_5 : decode cX7_grind 5 = .ok (.iload_n 1, 1) := by decide +kernel
theorem dX7_grind_6 : decode cX7_grind 6 = .ok (.iload_n 2, 1) := by decide +kernel
theorem dX7_grind_7 : decode cX7_grind 7 = .ok (.invokevirtual 45, 3) := by decide +kernel
theorem dX7_grind_10 : decode cX7_grind 10 = .ok (.invokevirtual 41, 3) := by decide +kernel
theorem dX7_grind_13 : decode cX7_grind 13 = .ok (.ireturn, 1) := by decide +kernel
set_option maxRecDepth 20000 in
theorem ggX7_dial_X7_spareLikeNow : GoodIn wsX7_dial wsX7_spareLikeNow := goodIn_r _ [5, 6, 7, 8, 9, 10, 11, 12, 13, 14, 15, 16, 17, 18, 19, 20, 21, 22, 23, 24, 25, 26, 27, 28, 29, 30, 31, 32, 33, 34, 35, 36, 37, 38, 39, 40, 41, 42, 43, 44, 45, 46, 47, 48, 49, 50, 51, 52, 53, 54, 55, 56, 57, 58, 59, 60, 61, 62, 63, 64, 65, 66, 67, 68, 96, 97, 98, 99, 100, 101, 102, 103, 104, 105, 106, 107, 108, 109, 110, 111, 112, 113, 114, 115, 116, 117, 118, 119, 120, 121, 122, 123, 124] rfl (by decide +kernel)
set_option maxRecDepth 20000 in
theorem gX7_dial_X7_spareLikeNow : GoodIn wsX7_dial (wsV RX7 33 RX7 yX7_spareLikeNow wsX7_spareLikeNow) := goodIn_app (goodIn_of _ (by decide +kernel)) ggX7_dial_X7_spareLikeNow
set_option maxRecDepth 20000 in
theorem ggX7_dial_X1_turnDial : GoodIn wsX7_dial wsX1_turnDial := goodIn_r _ [72, 73, 74, 4, 75, 76, 77, 78, 11, 79, 14, 15, 118, 119, 120, 121, 100, 101, 102, 103, 104, 105, 106, 107, 108, 109, 110, 111, 112] rfl (by decide +kernel)
set_option maxRecDepth 20000 in
theorem gX7_dial_X1_turnDial : GoodIn wsX7_dial (wsV RX7 48 RX1 yX1_turnDial wsX1_turnDial) := goodIn_app (goodIn_of _ (by decide +kernel)) ggX7_dial_X1_turnDial
set_option maxRecDepth 20000 in
theorem ggX7_dial_X7_keepIfDone : GoodIn wsX7_dial wsX7_keepIfDone := goodIn_r _ [83, 7, 6, 84, 85, 86, 87, 88, 89, 90, 91, 92, 93, 94, 95, 44, 45, 46, 96, 97, 98, 99, 125, 126, 127, 128, 129] rfl (by decide +kernel)
set_option maxRecDepth 20000 in
theorem gX7_dial_X7_keepIfDone : GoodIn wsX7_dial (wsV RX7 41 RX7 yX7_keepIfDone wsX7_keepIfDone) := goodIn_app (goodIn_of _ (by decide +kernel)) ggX7_dial_X7_keepIfDone
theorem dX7_dial_0 : decode cX7_dial 0 = .ok (.aload_n 0, 1) := by decide +kernel
theorem dX7_dial_1 : decode cX7_dial 1 = .ok (.aload_n 0, 1) := by decide +kernel
theorem dX7_dial_2 : decode cX7_dial 2 = .ok (.invokevirtual 33, 3) := by decide +kernel
theorem dX7_dial_5 : decode cX7_dial 5 = .ok (.iload_n 1, 1) := by decide +kernel
theorem dX7_dial_6 : decode cX7_dial 6 = .ok (.iload_n 2, 1) := by decide +kernel
theorem dX7_dial_7 : decode cX7_dial 7 = .ok (.invokevirtual 48, 3) := by decide +kernel
theorem dX7_dial_10 : decode cX7_dial 10 = .ok (.invokevirtual 41, 3) := by decide +kernel
theorem dX7_dial_13 : decode cX7_dial 13 = .ok (.ireturn, 1) := by decide +kernel
set_option maxRecDepth 20000 in
theorem ggX7_rest_X7_spareLikeNow : GoodIn wsX7_rest wsX7_spareLikeNow := goodIn_r _ [5, 6, 7, 8, 9, 10, 11, 12, 13, 14, 15, 16, 17, 18, 19, 20, 21, 22, 23, 24, 25, 26, 27, 28, 29, 30, 31, 32, 33, 34, 35, 36, 37, 38, 39, 40, 41, 42, 43, 44, 45, 46, 47, 48, 49, 50, 51, 52, 53, 54, 55, 56, 57, 58, 59, 60, 61, 62, 63, 64, 65, 66, 67, 68, 100, 101, 102, 103, 104, 105, 106, 107, 108, 109, 110, 111, 112, 113, 114, 115, 116, 117, 118, 119, 120, 121, 122, 123, 124, 125, 126, 127, 128] rfl (by decide +kernel)
set_option maxRecDepth 20000 in
theorem gX7_rest_X7_spareLikeNow : GoodIn wsX7_rest (wsV RX7 33 RX7 yX7_spareLikeNow wsX7_spareLikeNow) := goodIn_app (goodIn_of _ (by decide +kernel)) ggX7_rest_X7_spareLikeNow
set_option maxRecDepth 20000 in
theorem ggX7_rest_X1_letPass : GoodIn wsX7_rest wsX1_letPass := goodIn_r _ [72, 73, 14, 15, 74, 75, 76, 11, 77, 24, 78, 79, 80, 53, 81, 56, 82, 4, 83, 104, 105, 106, 107, 108, 109, 110, 111, 112, 113, 114, 115, 116, 122, 123, 124, 125] rfl (by decide +kernel)
set_option maxRecDepth 20000 in
theorem gX7_rest_X1_letPass : GoodIn wsX7_rest (wsV RX7 51 RX1 yX1_letPass wsX1_letPass) := goodIn_app (goodIn_of _ (by decide +kernel)) ggX7_rest_X1_letPass
set_option maxRecDepth 20000 in
theorem ggX7_rest_X7_keepIfDone : GoodIn wsX7_rest wsX7_keepIfDone := goodIn_r _ [87, 7, 6, 88, 89, 90, 91, 92, 93, 94, 95, 96, 97, 98, 99, 44, 45, 46, 100, 101, 102, 103, 129, 130, 131, 132, 133] rfl (by decide +kernel)
set_option maxRecDepth 20000 in
theorem gX7_rest_X7_keepIfDone : GoodIn wsX7_rest (wsV RX7 41 RX7 yX7_keepIfDone wsX7_keepIfDone) := goodIn_app (goodIn_of _ (by decide +kernel)) ggX7_rest_X7_keepIfDone
theorem dX7_rest_0 : decode cX7_rest 0 = .ok (.aload_n 0, 1) := by decide +kernel
theorem dX7_rest_1 : decode cX7_rest 1 = .ok (.aload_n 0, 1) := by decide +kernel
theorem dX7_rest_2 : decode cX7_rest 2 = .ok (.invokevirtual 33, 3) := by decide +kernel
theorem dX7_rest_5 : decode cX7_rest 5 = .ok (.iload_n 1, 1) := by decide +kernel
theorem dX7_rest_6 : decode cX7_rest 6 = .ok (.invokevirtual 51, 3) := by decide +kernel
theorem dX7_rest_9 : decode cX7_rest 9 = .ok (.invokevirtual 41, 3) := by decide +kernel
theorem dX7_rest_12 : decode cX7_rest 12 = .ok (.ireturn, 1) := by decide +kernel
set_option maxRecDepth 20000 in
theorem ggX7_shot_X7_spareLikeNow : GoodIn wsX7_shot wsX7_spareLikeNow := goodIn_r _ [5, 6, 7, 8, 9, 10, 11, 12, 13, 14, 15, 16, 17, 18, 19, 20, 21, 22, 23, 24, 25, 26, 27, 28, 29, 30, 31, 32, 33, 34, 35, 36, 37, 38, 39, 40, 41, 42, 43, 44, 45, 46, 47, 48, 49, 50, 51, 52, 53, 54, 55, 56, 57, 58, 59, 60, 61, 62, 63, 64, 65, 66, 67, 68, 158, 159, 160, 161, 162, 163, 164, 165, 166, 167, 168, 169, 170, 171, 172, 173, 174, 175, 176, 177, 178, 179, 180, 181, 182, 183, 184, 185, 186] rfl (by decide +kernel)
set_option maxRecDepth 20000 in
theorem gX7_shot_X7_spareLikeNow : GoodIn wsX7_shot (wsV RX7 33 RX7 yX7_spareLikeNow wsX7_spareLikeNow) := goodIn_app (goodIn_of _ (by decide +kernel)) ggX7_shot_X7_spareLikeNow
set_option maxRecDepth 20000 in
theorem ggX7_shot_X1_makeShot : GoodIn wsX7_shot wsX1_makeShot := goodIn_r _ [72, 17, 18, 24, 27, 73, 74, 75, 11, 76, 77, 78, 79, 80, 39, 81, 41, 42, 82, 83, 84, 85, 49, 86, 87, 88, 89, 90, 4, 91, 92, 93, 94, 95, 19, 96, 97, 98, 99, 100, 101, 102, 103, 47, 104, 105, 106, 63, 107, 65, 66, 21, 22, 23, 68, 67, 108, 44, 45, 46, 109, 110, 111, 112, 113, 114, 115, 116, 14, 15, 117, 118, 119, 120, 121, 122, 123, 29, 124, 125, 126, 53, 127, 55, 128, 129, 130, 131, 58, 132, 133, 134, 135, 136, 137, 138, 139, 56, 140, 141, 162, 163, 164, 165, 166, 167, 168, 169, 170, 171, 172, 173, 174, 176, 177, 178, 179, 184, 185, 186, 180, 181, 182, 183] rfl (by decide +kernel)
set_option maxRecDepth 20000 in
theorem gX7_shot_X1_makeShot : GoodIn wsX7_shot (wsV RX7 54 RX1 yX1_makeShot wsX1_makeShot) := goodIn_app (goodIn_of _ (by decide +kernel)) ggX7_shot_X1_makeShot
set_option maxRecDepth 20000 in
theorem ggX7_shot_X7_keepIfDone : GoodIn wsX7_shot wsX7_keepIfDone := goodIn_r _ [145, 7, 6, 146, 147, 148, 149, 150, 151, 152, 153, 154, 155, 156, 157, 44, 45, 46, 158, 159, 160, 161, 187, 188, 189, 190, 191] rfl (by decide +kernel)
set_option maxRecDepth 20000 in
theorem gX7_shot_X7_keepIfDone : GoodIn wsX7_shot (wsV RX7 41 RX7 yX7_keepIfDone wsX7_keepIfDone) := goodIn_app (goodIn_of _ (by decide +kernel)) ggX7_shot_X7_keepIfDone
theorem dX7_shot_0 : decode cX7_shot 0 = .ok (.aload_n 0, 1) := by decide +kernel
theorem dX7_shot_1 : decode cX7_shot 1 = .ok (.aload_n 0, 1) := by decide +kernel
theorem dX7_shot_2 : decode cX7_shot 2 = .ok (.invokevirtual 33, 3) := by decide +kernel
theorem dX7_shot_5 : decode cX7_shot 5 = .ok (.invokevirtual 54, 3) := by decide +kernel
theorem dX7_shot_8 : decode cX7_shot 8 = .ok (.invokevirtual 41, 3) := by decide +kernel
theorem dX7_shot_11 : decode cX7_shot 11 = .ok (.ireturn, 1) := by decide +kernel
set_option maxRecDepth 20000 in
theorem ggX7_purge_X7_spareLikeNow : GoodIn wsX7_purge wsX7_spareLikeNow := goodIn_r _ [5, 6, 7, 8, 9, 10, 11, 12, 13, 14, 15, 16, 17, 18, 19, 20, 21, 22, 23, 24, 25, 26, 27, 28, 29, 30, 31, 32, 33, 34, 35, 36, 37, 38, 39, 40, 41, 42, 43, 44, 45, 46, 47, 48, 49, 50, 51, 52, 53, 54, 55, 56, 57, 58, 59, 60, 61, 62, 63, 64, 65, 66, 67, 68, 93, 94, 95, 96, 97, 98, 99, 100, 101, 102, 103, 104, 105, 106, 107, 108, 109, 110, 111, 112, 113, 114, 115, 116, 117, 118, 119, 120, 121] rfl (by decide +kernel)
set_option maxRecDepth 20000 in
theorem gX7_purge_X7_spareLikeNow : GoodIn wsX7_purge (wsV RX7 33 RX7 yX7_spareLikeNow wsX7_spareLikeNow) := goodIn_app (goodIn_of _ (by decide +kernel)) ggX7_purge_X7_spareLikeNow
set_option maxRecDepth 20000 in
theorem ggX7_purge_X1_emptyChute : GoodIn wsX7_purge wsX1_emptyChute := goodIn_r _ [72, 16, 28, 73, 74, 75, 39, 76, 41, 47, 97, 98, 99, 100, 101, 102, 103, 104, 105, 106, 107, 108, 109, 111, 112, 113, 114] rfl (by decide +kernel)
set_option maxRecDepth 20000 in
theorem gX7_purge_X1_emptyChute : GoodIn wsX7_purge (wsV RX7 58 RX1 yX1_emptyChute wsX1_emptyChute) := goodIn_app (goodIn_of _ (by decide +kernel)) ggX7_purge_X1_emptyChute
set_option maxRecDepth 20000 in
theorem ggX7_purge_X7_keepIfDone : GoodIn wsX7_purge wsX7_keepIfDone := goodIn_r _ [80, 7, 6, 81, 82, 83, 84, 85, 86, 87, 88, 89, 90, 91, 92, 44, 45, 46, 93, 94, 95, 96, 122, 123, 124, 125, 126] rfl (by decide +kernel)
set_option maxRecDepth 20000 in
theorem gX7_purge_X7_keepIfDone : GoodIn wsX7_purge (wsV RX7 41 RX7 yX7_keepIfDone wsX7_keepIfDone) := goodIn_app (goodIn_of _ (by decide +kernel)) ggX7_purge_X7_keepIfDone
theorem dX7_purge_0 : decode cX7_purge 0 = .ok (.aload_n 0, 1) := by decide +kernel
theorem dX7_purge_1 : decode cX7_purge 1 = .ok (.aload_n 0, 1) := by decide +kernel
theorem dX7_purge_2 : decode cX7_purge 2 = .ok (.invokevirtual 33, 3) := by decide +kernel
theorem dX7_purge_5 : decode cX7_purge 5 = .ok (.invokevirtual 58, 3) := by decide +kernel
theorem dX7_purge_8 : decode cX7_purge 8 = .ok (.invokevirtual 41, 3) := by decide +kernel
theorem dX7_purge_11 : decode cX7_purge 11 = .ok (.ireturn, 1) := by decide +kernel
set_option maxRecDepth 20000 in
theorem ggX7_correct_X7_spareLikeNow : GoodIn wsX7_correct wsX7_spareLikeNow := goodIn_r _ [5, 6, 7, 8, 9, 10, 11, 12, 13, 14, 15, 16, 17, 18, 19, 20, 21, 22, 23, 24, 25, 26, 27, 28, 29, 30, 31, 32, 33, 34, 35, 36, 37, 38, 39, 40, 41, 42, 43, 44, 45, 46, 47, 48, 49, 50, 51, 52, 53, 54, 55, 56, 57, 58, 59, 60, 61, 62, 63, 64, 65, 66, 67, 68, 109, 110, 111, 112, 113, 114, 115, 116, 117, 118, 119, 120, 121, 122, 123, 124, 125, 126, 127, 128, 129, 130, 131, 132, 133, 134, 135, 136, 137] rfl (by decide +kernel)
set_option maxRecDepth 20000 in
theorem gX7_correct_X7_spareLikeNow : GoodIn wsX7_correct (wsV RX7 33 RX7 yX7_spareLikeNow wsX7_spareLikeNow) := goodIn_app (goodIn_of _ (by decide +kernel)) ggX7_correct_X7_spareLikeNow
set_option maxRecDepth 20000 in
theorem ggX7_correct_X1_correctByLatest : GoodIn wsX7_correct wsX1_correctByLatest := goodIn_r _ [72, 73, 18, 74, 19, 75, 4, 76, 77, 78, 79, 11, 80, 14, 15, 81, 82, 83, 63, 84, 65, 85, 86, 87, 53, 88, 55, 89, 90, 45, 91, 92, 44, 46, 58, 113, 114, 115, 116, 117, 118, 119, 120, 121, 122, 123, 124, 125, 135, 136, 137, 131, 132, 133, 134] rfl (by decide +kernel)
set_option maxRecDepth 20000 in
theorem gX7_correct_X1_correctByLatest : GoodIn wsX7_correct (wsV RX7 61 RX1 yX1_correctByLatest wsX1_correctByLatest) := goodIn_app (goodIn_of _ (by decide +kernel)) ggX7_correct_X1_correctByLatest
set_option maxRecDepth 20000 in
theorem ggX7_correct_X7_keepIfDone : GoodIn wsX7_correct wsX7_keepIfDone := goodIn_r _ [96, 7, 6, 97, 98, 99, 100, 101, 102, 103, 104, 105, 106, 107, 108, 44, 45, 46, 109, 110, 111, 112, 138, 139, 140, 141, 142] rfl (by decide +kernel)
set_option maxRecDepth 20000 in
theorem gX7_correct_X7_keepIfDone : GoodIn wsX7_correct (wsV RX7 41 RX7 yX7_keepIfDone wsX7_keepIfDone) := goodIn_app (goodIn_of _ (by decide +kernel)) ggX7_correct_X7_keepIfDone
theorem dX7_correct_0 : decode cX7_correct 0 = .ok (.aload_n 0, 1) := by decide +kernel
theorem dX7_correct_1 : decode cX7_correct 1 = .ok (.aload_n 0, 1) := by decide +kernel
theorem dX7_correct_2 : decode cX7_correct 2 = .ok (.invokevirtual 33, 3) := by decide +kernel
theorem dX7_correct_5 : decode cX7_correct 5 = .ok (.iload_n 1, 1) := by decide +kernel
theorem dX7_correct_6 : decode cX7_correct 6 = .ok (.invokevirtual 61, 3) := by decide +kernel
theorem dX7_correct_9 : decode cX7_correct 9 = .ok (.invokevirtual 41, 3) := by decide +kernel
theorem dX7_correct_12 : decode cX7_correct 12 = .ok (.ireturn, 1) := by decide +kernel
set_option maxRecDepth 20000 in
theorem ggX7_set_X7_spareLikeNow : GoodIn wsX7_set wsX7_spareLikeNow := goodIn_r _ [5, 6, 7, 8, 9, 10, 11, 12, 13, 14, 15, 16, 17, 18, 19, 20, 21, 22, 23, 24, 25, 26, 27, 28, 29, 30, 31, 32, 33, 34, 35, 36, 37, 38, 39, 40, 41, 42, 43, 44, 45, 46, 47, 48, 49, 50, 51, 52, 53, 54, 55, 56, 57, 58, 59, 60, 61, 62, 63, 64, 65, 66, 67, 68, 90, 91, 92, 93, 94, 95, 96, 97, 98, 99, 100, 101, 102, 103, 104, 105, 106, 107, 108, 109, 110, 111, 112, 113, 114, 115, 116, 117, 118] rfl (by decide +kernel)
set_option maxRecDepth 20000 in
theorem gX7_set_X7_spareLikeNow : GoodIn wsX7_set (wsV RX7 33 RX7 yX7_spareLikeNow wsX7_spareLikeNow) := goodIn_app (goodIn_of _ (by decide +kernel)) ggX7_set_X7_spareLikeNow
set_option maxRecDepth 20000 in
theorem ggX7_set_X1_changeSetting : GoodIn wsX7_set wsX1_changeSetting := goodIn_r _ [72, 19, 73, 94, 95, 96, 97, 98, 99, 100, 101, 102, 103, 104, 105, 106] rfl (by decide +kernel)
set_option maxRecDepth 20000 in
theorem gX7_set_X1_changeSetting : GoodIn wsX7_set (wsV RX7 64 RX1 yX1_changeSetting wsX1_changeSetting) := goodIn_app (goodIn_of _ (by decide +kernel)) ggX7_set_X1_changeSetting
set_option maxRecDepth 20000 in
theorem ggX7_set_X7_keepIfDone : GoodIn wsX7_set wsX7_keepIfDone := goodIn_r _ [77, 7, 6, 78, 79, 80, 81, 82, 83, 84, 85, 86, 87, 88, 89, 44, 45, 46, 90, 91, 92, 93, 119, 120, 121, 122, 123] rfl (by decide +kernel)
set_option maxRecDepth 20000 in
theorem gX7_set_X7_keepIfDone : GoodIn wsX7_set (wsV RX7 41 RX7 yX7_keepIfDone wsX7_keepIfDone) := goodIn_app (goodIn_of _ (by decide +kernel)) ggX7_set_X7_keepIfDone
theorem dX7_set_0 : decode cX7_set 0 = .ok (.aload_n 0, 1) := by decide +kernel
theorem dX7_set_1 : decode cX7_set 1 = .ok (.aload_n 0, 1) := by decide +kernel
theorem dX7_set_2 : decode cX7_set 2 = .ok (.invokevirtual 33, 3) := by decide +kernel
theorem dX7_set_5 : decode cX7_set 5 = .ok (.iload_n 1, 1) := by decide +kernel
theorem dX7_set_6 : decode cX7_set 6 = .ok (.iload_n 2, 1) := by decide +kernel
theorem dX7_set_7 : decode cX7_set 7 = .ok (.invokevirtual 64, 3) := by decide +kernel
theorem dX7_set_10 : decode cX7_set 10 = .ok (.invokevirtual 41, 3) := by decide +kernel
theorem dX7_set_13 : decode cX7_set 13 = .ok (.ireturn, 1) := by decide +kernel
set_option maxRecDepth 20000 in
theorem ggX7_burrOf_X7_isZeroOrOne : GoodIn wsX7_burrOf wsX7_isZeroOrOne := goodIn_r _ [6] rfl (by decide +kernel)
set_option maxRecDepth 20000 in
theorem gX7_burrOf_X7_isZeroOrOne : GoodIn wsX7_burrOf (va_wsS RX7 67 yX7_isZeroOrOne wsX7_isZeroOrOne) := goodIn_app (goodIn_of _ (by decide +kernel)) ggX7_burrOf_X7_isZeroOrOne
set_option maxRecDepth 20000 in
theorem ggX7_burrOf_X1_burrNumbered : GoodIn wsX7_burrOf wsX1_burrNumbered := goodIn_r _ [11, 12, 13, 39, 40, 41, 42, 43, 44, 45, 46, 47, 48, 49, 50, 51] rfl (by decide +kernel)
set_option maxRecDepth 20000 in
theorem gX7_burrOf_X1_burrNumbered : GoodIn wsX7_burrOf (wsV RX7 72 RX1 yX1_burrNumbered wsX1_burrNumbered) := goodIn_app (goodIn_of _ (by decide +kernel)) ggX7_burrOf_X1_burrNumbered
set_option maxRecDepth 20000 in
theorem ggX7_burrOf_X0_tell : GoodIn wsX7_burrOf wsX0_tell := goodIn_r _ [18, 19, 20, 21, 22, 23, 24, 25, 17, 26, 27, 28, 29, 30, 31, 32, 33, 34, 52, 53, 54, 55] rfl (by decide +kernel)
set_option maxRecDepth 20000 in
theorem gX7_burrOf_X0_tell : GoodIn wsX7_burrOf (wsV RX7 76 RX0 yX0_tell wsX0_tell) := goodIn_app (goodIn_of _ (by decide +kernel)) ggX7_burrOf_X0_tell
theorem dX7_burrOf_0 : decode cX7_burrOf 0 = .ok (.iload_n 1, 1) := by decide +kernel
theorem dX7_burrOf_1 : decode cX7_burrOf 1 = .ok (.invokestatic 67, 3) := by decide +kernel
theorem dX7_burrOf_4 : decode cX7_burrOf 4 = .ok (.ifCond .eq 12, 3) := by decide +kernel
theorem dX7_burrOf_7 : decode cX7_burrOf 7 = .ok (.iload_n 2, 1) := by decide +kernel
theorem dX7_burrOf_8 : decode cX7_burrOf 8 = .ok (.ifCond .lt 8, 3) := by decide +kernel
theorem dX7_burrOf_11 : decode cX7_burrOf 11 = .ok (.iload_n 2, 1) := by decide +kernel
theorem dX7_burrOf_12 : decode cX7_burrOf 12 = .ok (.iconst 4, 1) := by decide +kernel
theorem dX7_burrOf_13 : decode cX7_burrOf 13 = .ok (.if_icmp .le 6, 3) := by decide +kernel
theorem dX7_burrOf_16 : decode cX7_burrOf 16 = .ok (.ldc 71, 2) := by decide +kernel
theorem dX7_burrOf_18 : decode cX7_burrOf 18 = .ok (.ireturn, 1) := by decide +kernel
theorem dX7_burrOf_19 : decode cX7_burrOf 19 = .ok (.aload_n 0, 1) := by decide +kernel
theorem dX7_burrOf_20 : decode cX7_burrOf 20 = .ok (.getfield 26, 3) := by decide +kernel
theorem dX7_burrOf_23 : decode cX7_burrOf 23 = .ok (.iload_n 1, 1) := by decide +kernel
theorem dX7_burrOf_24 : decode cX7_burrOf 24 = .ok (.invokevirtual 72, 3) := by decide +kernel
theorem dX7_burrOf_27 : decode cX7_burrOf 27 = .ok (.iload_n 2, 1) := by decide +kernel
theorem dX7_burrOf_28 : decode cX7_burrOf 28 = .ok (.invokevirtual 76, 3) := by decide +kernel
theorem dX7_burrOf_31 : decode cX7_burrOf 31 = .ok (.ireturn, 1) := by decide +kernel
set_option maxRecDepth 20000 in
theorem ggX7_lotOf_X3_tell : GoodIn wsX7_lotOf wsX3_tell := goodIn_r _ [7, 8, 9, 10, 11, 12, 13, 14, 15, 16, 17, 18, 19, 20, 21, 39, 40, 41, 42, 43] rfl (by decide +kernel)
set_option maxRecDepth 20000 in
theorem gX7_lotOf_X3_tell : GoodIn wsX7_lotOf (wsV RX7 85 RX3 yX3_tell wsX3_tell) := goodIn_app (goodIn_of _ (by decide +kernel)) ggX7_lotOf_X3_tell
theorem dX7_lotOf_0 : decode cX7_lotOf 0 = .ok (.iload_n 1, 1) := by decide +kernel
theorem dX7_lotOf_1 : decode cX7_lotOf 1 = .ok (.ifCond .lt 12, 3) := by decide +kernel
theorem dX7_lotOf_4 : decode cX7_lotOf 4 = .ok (.iload_n 2, 1) := by decide +kernel
theorem dX7_lotOf_5 : decode cX7_lotOf 5 = .ok (.ifCond .lt 8, 3) := by decide +kernel
theorem dX7_lotOf_8 : decode cX7_lotOf 8 = .ok (.iload_n 2, 1) := by decide +kernel
theorem dX7_lotOf_9 : decode cX7_lotOf 9 = .ok (.iconst 1, 1) := by decide +kernel
theorem dX7_lotOf_10 : decode cX7_lotOf 10 = .ok (.if_icmp .le 6, 3) := by decide +kernel
theorem dX7_lotOf_13 : decode cX7_lotOf 13 = .ok (.ldc 71, 2) := by decide +kernel
theorem dX7_lotOf_15 : decode cX7_lotOf 15 = .ok (.ireturn, 1) := by decide +kernel
theorem dX7_lotOf_16 : decode cX7_lotOf 16 = .ok (.aload_n 0, 1) := by decide +kernel
theorem dX7_lotOf_17 : decode cX7_lotOf 17 = .ok (.getfield 26, 3) := by decide +kernel
theorem dX7_lotOf_20 : decode cX7_lotOf 20 = .ok (.getfield 81, 3) := by decide +kernel
theorem dX7_lotOf_23 : decode cX7_lotOf 23 = .ok (.iload_n 1, 1) := by decide +kernel
theorem dX7_lotOf_24 : decode cX7_lotOf 24 = .ok (.iload_n 2, 1) := by decide +kernel
theorem dX7_lotOf_25 : decode cX7_lotOf 25 = .ok (.invokevirtual 85, 3) := by decide +kernel
theorem dX7_lotOf_28 : decode cX7_lotOf 28 = .ok (.ireturn, 1) := by decide +kernel
set_option maxRecDepth 20000 in
theorem ggX7_portionOf_X7_isZeroOrOne : GoodIn wsX7_portionOf wsX7_isZeroOrOne := goodIn_r _ [6] rfl (by decide +kernel)
set_option maxRecDepth 20000 in
theorem gX7_portionOf_X7_isZeroOrOne : GoodIn wsX7_portionOf (va_wsS RX7 67 yX7_isZeroOrOne wsX7_isZeroOrOne) := goodIn_app (goodIn_of _ (by decide +kernel)) ggX7_portionOf_X7_isZeroOrOne
set_option maxRecDepth 20000 in
theorem ggX7_portionOf_X1_tellPortion : GoodIn wsX7_portionOf wsX1_tellPortion := goodIn_r _ [11, 12, 13, 14, 15, 16, 17, 18, 19, 20, 21, 22, 23, 24, 25, 5, 26, 27, 28, 29, 30, 31, 32, 33, 10, 34, 35, 36, 37, 38, 39, 40, 41, 59, 60, 61, 62, 46, 47, 48, 49, 50, 51, 52, 53, 54, 55, 56, 57, 58] rfl (by decide +kernel)
set_option maxRecDepth 20000 in
theorem gX7_portionOf_X1_tellPortion : GoodIn wsX7_portionOf (wsV RX7 96 RX1 yX1_tellPortion wsX1_tellPortion) := goodIn_app (goodIn_of _ (by decide +kernel)) ggX7_portionOf_X1_tellPortion
theorem dX7_portionOf_0 : decode cX7_portionOf 0 = .ok (.iload_n 1, 1) := by decide +kernel
theorem dX7_portionOf_1 : decode cX7_portionOf 1 = .ok (.invokestatic 67, 3) := by decide +kernel
theorem dX7_portionOf_4 : decode cX7_portionOf 4 = .ok (.ifCond .eq 16, 3) := by decide +kernel
theorem dX7_portionOf_7 : decode cX7_portionOf 7 = .ok (.iload_n 2, 1) := by decide +kernel
theorem dX7_portionOf_8 : decode cX7_portionOf 8 = .ok (.ifCond .lt 12, 3) := by decide +kernel
theorem dX7_portionOf_11 : decode cX7_portionOf 11 = .ok (.iload_n 3, 1) := by decide +kernel
theorem dX7_portionOf_12 : decode cX7_portionOf 12 = .ok (.ifCond .lt 8, 3) := by decide +kernel
theorem dX7_portionOf_15 : decode cX7_portionOf 15 = .ok (.iload_n 3, 1) := by decide +kernel
theorem dX7_portionOf_16 : decode cX7_portionOf 16 = .ok (.iconst 4, 1) := by decide +kernel
theorem dX7_portionOf_17 : decode cX7_portionOf 17 = .ok (.if_icmp .le 6, 3) := by decide +kernel
theorem dX7_portionOf_20 : decode cX7_portionOf 20 = .ok (.ldc 71, 2) := by decide +kernel
theorem dX7_portionOf_22 : decode cX7_portionOf 22 = .ok (.ireturn, 1) := by decide +kernel
theorem dX7_portionOf_23 : decode cX7_portionOf 23 = .ok (.aload_n 0, 1) := by decide +kernel
theorem dX7_portionOf_24 : decode cX7_portionOf 24 = .ok (.getfield 26, 3) := by decide +kernel
theorem dX7_portionOf_27 : decode cX7_portionOf 27 = .ok (.iload_n 1, 1) := by decide +kernel
theorem dX7_portionOf_28 : decode cX7_portionOf 28 = .ok (.ifCond .ne 13, 3) := by decide +kernel
theorem dX7_portionOf_31 : decode cX7_portionOf 31 = .ok (.aload_n 0, 1) := by decide +kernel
theorem dX7_portionOf_32 : decode cX7_portionOf 32 = .ok (.getfield 26, 3) := by decide +kernel
theorem dX7_portionOf_35 : decode cX7_portionOf 35 = .ok (.getfield 89, 3) := by decide +kernel
theorem dX7_portionOf_38 : decode cX7_portionOf 38 = .ok (.goto 10, 3) := by decide +kernel
theorem dX7_portionOf_41 : decode cX7_portionOf 41 = .ok (.aload_n 0, 1) := by decide +kernel
theorem dX7_portionOf_42 : decode cX7_portionOf 42 = .ok (.getfield 26, 3) := by decide +kernel
theorem dX7_portionOf_45 : decode cX7_portionOf 45 = .ok (.getfield 93, 3) := by decide +kernel
theorem dX7_portionOf_48 : decode cX7_portionOf 48 = .ok (.iload_n 2, 1) := by decide +kernel
theorem dX7_portionOf_49 : decode cX7_portionOf 49 = .ok (.iload_n 3, 1) := by decide +kernel
theorem dX7_portionOf_50 : decode cX7_portionOf 50 = .ok (.invokevirtual 96, 3) := by decide +kernel
theorem dX7_portionOf_53 : decode cX7_portionOf 53 = .ok (.ireturn, 1) := by decide +kernel
set_option maxRecDepth 20000 in
theorem ggX7_shotOf_X6_tell : GoodIn wsX7_shotOf wsX6_tell := goodIn_r _ [7, 8, 9, 10, 11, 12, 13, 6, 14, 15, 16, 17, 18, 36, 37, 38] rfl (by decide +kernel)
set_option maxRecDepth 20000 in
theorem gX7_shotOf_X6_tell : GoodIn wsX7_shotOf (wsV RX7 108 RX6 yX6_tell wsX6_tell) := goodIn_app (goodIn_of _ (by decide +kernel)) ggX7_shotOf_X6_tell
theorem dX7_shotOf_0 : decode cX7_shotOf 0 = .ok (.iload_n 1, 1) := by decide +kernel
theorem dX7_shotOf_1 : decode cX7_shotOf 1 = .ok (.ifCond .lt 13, 3) := by decide +kernel
theorem dX7_shotOf_4 : decode cX7_shotOf 4 = .ok (.iload_n 2, 1) := by decide +kernel
theorem dX7_shotOf_5 : decode cX7_shotOf 5 = .ok (.ifCond .lt 9, 3) := by decide +kernel
theorem dX7_shotOf_8 : decode cX7_shotOf 8 = .ok (.iload_n 2, 1) := by decide +kernel
theorem dX7_shotOf_9 : decode cX7_shotOf 9 = .ok (.bipush 7, 2) := by decide +kernel
theorem dX7_shotOf_11 : decode cX7_shotOf 11 = .ok (.if_icmp .le 6, 3) := by decide +kernel
theorem dX7_shotOf_14 : decode cX7_shotOf 14 = .ok (.ldc 71, 2) := by decide +kernel
theorem dX7_shotOf_16 : decode cX7_shotOf 16 = .ok (.ireturn, 1) := by decide +kernel
theorem dX7_shotOf_17 : decode cX7_shotOf 17 = .ok (.aload_n 0, 1) := by decide +kernel
theorem dX7_shotOf_18 : decode cX7_shotOf 18 = .ok (.getfield 26, 3) := by decide +kernel
theorem dX7_shotOf_21 : decode cX7_shotOf 21 = .ok (.getfield 100, 3) := by decide +kernel
theorem dX7_shotOf_24 : decode cX7_shotOf 24 = .ok (.iload_n 1, 1) := by decide +kernel
theorem dX7_shotOf_25 : decode cX7_shotOf 25 = .ok (.iload_n 2, 1) := by decide +kernel
theorem dX7_shotOf_26 : decode cX7_shotOf 26 = .ok (.aload_n 0, 1) := by decide +kernel
theorem dX7_shotOf_27 : decode cX7_shotOf 27 = .ok (.getfield 26, 3) := by decide +kernel
theorem dX7_shotOf_30 : decode cX7_shotOf 30 = .ok (.getfield 104, 3) := by decide +kernel
theorem dX7_shotOf_33 : decode cX7_shotOf 33 = .ok (.iconst 0, 1) := by decide +kernel
theorem dX7_shotOf_34 : decode cX7_shotOf 34 = .ok (.iaload, 1) := by decide +kernel
theorem dX7_shotOf_35 : decode cX7_shotOf 35 = .ok (.invokevirtual 108, 3) := by decide +kernel
theorem dX7_shotOf_38 : decode cX7_shotOf 38 = .ok (.ireturn, 1) := by decide +kernel
set_option maxRecDepth 20000 in
theorem ggX7_count_X1_tell : GoodIn wsX7_count wsX1_tell := goodIn_r _ [8, 9, 10, 11, 12, 13, 14, 15, 16, 17, 18, 19, 20, 21, 22, 23, 24, 25, 26, 27, 7, 28, 29, 30, 50, 51, 52, 53, 54, 55, 56, 57, 58, 59, 60, 61, 62, 63, 64, 65, 66, 67, 68, 69, 70] rfl (by decide +kernel)
set_option maxRecDepth 20000 in
theorem gX7_count_X1_tell : GoodIn wsX7_count (wsV RX7 136 RX1 yX1_tell wsX1_tell) := goodIn_app (goodIn_of _ (by decide +kernel)) ggX7_count_X1_tell
theorem dX7_count_0 : decode cX7_count 0 = .ok (.iload_n 1, 1) := by decide +kernel
theorem dX7_count_1 : decode cX7_count 1 = .ok (.lookupswitch 43 #[(10, 27), (11, 35)], 27) := by decide +kernel
theorem dX7_count_28 : decode cX7_count 28 = .ok (.aload_n 0, 1) := by decide +kernel
theorem dX7_count_29 : decode cX7_count 29 = .ok (.getfield 10, 3) := by decide +kernel
theorem dX7_count_32 : decode cX7_count 32 = .ok (.getfield 129, 3) := by decide +kernel
theorem dX7_count_35 : decode cX7_count 35 = .ok (.ireturn, 1) := by decide +kernel
theorem dX7_count_36 : decode cX7_count 36 = .ok (.aload_n 0, 1) := by decide +kernel
theorem dX7_count_37 : decode cX7_count 37 = .ok (.getfield 19, 3) := by decide +kernel
theorem dX7_count_40 : decode cX7_count 40 = .ok (.getfield 133, 3) := by decide +kernel
theorem dX7_count_43 : decode cX7_count 43 = .ok (.ireturn, 1) := by decide +kernel
theorem dX7_count_44 : decode cX7_count 44 = .ok (.aload_n 0, 1) := by decide +kernel
theorem dX7_count_45 : decode cX7_count 45 = .ok (.getfield 26, 3) := by decide +kernel
theorem dX7_count_48 : decode cX7_count 48 = .ok (.iload_n 1, 1) := by decide +kernel
theorem dX7_count_49 : decode cX7_count 49 = .ok (.invokevirtual 136, 3) := by decide +kernel
theorem dX7_count_52 : decode cX7_count 52 = .ok (.ireturn, 1) := by decide +kernel
set_option maxRecDepth 20000 in
theorem ggX7_spareLikeNow_X1_copyFrom : GoodIn wsX7_spareLikeNow wsX1_copyFrom := goodIn_r _ [7, 8, 9, 10, 11, 12, 13, 14, 15, 16, 17, 18, 19, 20, 21, 22, 23, 24, 25, 26, 27, 28, 29, 30, 31, 32, 33, 34, 35, 36, 37, 38, 39, 40, 41, 42, 43, 44, 45, 46, 47, 48, 49, 50, 51, 52, 53, 54, 55, 56, 57, 58, 59, 60, 61, 62, 63, 68, 69, 70, 71, 72, 73, 74, 75, 76, 77, 78, 79, 80, 81, 82, 83, 84, 85, 86, 87, 88, 89, 90, 91, 92] rfl (by decide +kernel)
set_option maxRecDepth 20000 in
theorem gX7_spareLikeNow_X1_copyFrom : GoodIn wsX7_spareLikeNow (wsV RX7 160 RX1 yX1_copyFrom wsX1_copyFrom) := goodIn_app (goodIn_of _ (by decide +kernel)) ggX7_spareLikeNow_X1_copyFrom
theorem dX7_spareLikeNow_0 : decode cX7_spareLikeNow 0 = .ok (.aload_n 0, 1) := by decide +kernel
theorem dX7_spareLikeNow_1 : decode cX7_spareLikeNow 1 = .ok (.getfield 30, 3) := by decide +kernel
theorem dX7_spareLikeNow_4 : decode cX7_spareLikeNow 4 = .ok (.aload_n 0, 1) := by decide +kernel
theorem dX7_spareLikeNow_5 : decode cX7_spareLikeNow 5 = .ok (.getfield 26, 3) := by decide +kernel
theorem dX7_spareLikeNow_8 : decode cX7_spareLikeNow 8 = .ok (.invokevirtual 160, 3) := by decide +kernel
theorem dX7_spareLikeNow_11 : decode cX7_spareLikeNow 11 = .ok (.aload_n 0, 1) := by decide +kernel
theorem dX7_spareLikeNow_12 : decode cX7_spareLikeNow 12 = .ok (.getfield 30, 3) := by decide +kernel
theorem dX7_spareLikeNow_15 : decode cX7_spareLikeNow 15 = .ok (.areturn, 1) := by decide +kernel
set_option maxRecDepth 20000 in
theorem ggX7_keepIfDone_X2_add : GoodIn wsX7_keepIfDone wsX2_add := goodIn_r _ [8, 9, 10, 11, 12, 13, 14, 15, 16, 17, 22, 23, 24, 25, 26] rfl (by decide +kernel)
set_option maxRecDepth 20000 in
theorem gX7_keepIfDone_X2_add : GoodIn wsX7_keepIfDone (wsV RX7 163 RX2 yX2_add wsX2_add) := goodIn_app (goodIn_of _ (by decide +kernel)) ggX7_keepIfDone_X2_add
theorem dX7_keepIfDone_0 : decode cX7_keepIfDone 0 = .ok (.iload_n 1, 1) := by decide +kernel
theorem dX7_keepIfDone_1 : decode cX7_keepIfDone 1 = .ok (.ifCond .ge 5, 3) := by decide +kernel
theorem dX7_keepIfDone_4 : decode cX7_keepIfDone 4 = .ok (.iload_n 1, 1) := by decide +kernel
theorem dX7_keepIfDone_5 : decode cX7_keepIfDone 5 = .ok (.ireturn, 1) := by decide +kernel
theorem dX7_keepIfDone_6 : decode cX7_keepIfDone 6 = .ok (.aload_n 0, 1) := by decide +kernel
theorem dX7_keepIfDone_7 : decode cX7_keepIfDone 7 = .ok (.getfield 26, 3) := by decide +kernel
theorem dX7_keepIfDone_10 : decode cX7_keepIfDone 10 = .ok (.astore_n 2, 1) := by decide +kernel
theorem dX7_keepIfDone_11 : decode cX7_keepIfDone 11 = .ok (.aload_n 0, 1) := by decide +kernel
theorem dX7_keepIfDone_12 : decode cX7_keepIfDone 12 = .ok (.aload_n 0, 1) := by decide +kernel
theorem dX7_keepIfDone_13 : decode cX7_keepIfDone 13 = .ok (.getfield 30, 3) := by decide +kernel
theorem dX7_keepIfDone_16 : decode cX7_keepIfDone 16 = .ok (.putfield 26, 3) := by decide +kernel
theorem dX7_keepIfDone_19 : decode cX7_keepIfDone 19 = .ok (.aload_n 0, 1) := by decide +kernel
theorem dX7_keepIfDone_20 : decode cX7_keepIfDone 20 = .ok (.aload_n 0, 1) := by decide +kernel
theorem dX7_keepIfDone_21 : decode cX7_keepIfDone 21 = .ok (.getfield 10, 3) := by decide +kernel
theorem dX7_keepIfDone_24 : decode cX7_keepIfDone 24 = .ok (.aload_n 2, 1) := by decide +kernel
theorem dX7_keepIfDone_25 : decode cX7_keepIfDone 25 = .ok (.invokevirtual 163, 3) := by decide +kernel
theorem dX7_keepIfDone_28 : decode cX7_keepIfDone 28 = .ok (.putfield 30, 3) := by decide +kernel
theorem dX7_keepIfDone_31 : decode cX7_keepIfDone 31 = .ok (.iload_n 1, 1) := by decide +kernel
theorem dX7_keepIfDone_32 : decode cX7_keepIfDone 32 = .ok (.ireturn, 1) := by decide +kernel
theorem dX7_isZeroOrOne_0 : decode cX7_isZeroOrOne 0 = .ok (.iload_n 0, 1) := by decide +kernel
theorem dX7_isZeroOrOne_1 : decode cX7_isZeroOrOne 1 = .ok (.ifCond .eq 8, 3) := by decide +kernel
theorem dX7_isZeroOrOne_4 : decode cX7_isZeroOrOne 4 = .ok (.iload_n 0, 1) := by decide +kernel
theorem dX7_isZeroOrOne_5 : decode cX7_isZeroOrOne 5 = .ok (.iconst 1, 1) := by decide +kernel
theorem dX7_isZeroOrOne_6 : decode cX7_isZeroOrOne 6 = .ok (.if_icmp .ne 7, 3) := by decide +kernel
theorem dX7_isZeroOrOne_9 : decode cX7_isZeroOrOne 9 = .ok (.iconst 1, 1) := by decide +kernel
theorem dX7_isZeroOrOne_10 : decode cX7_isZeroOrOne 10 = .ok (.goto 4, 3) := by decide +kernel
theorem dX7_isZeroOrOne_13 : decode cX7_isZeroOrOne 13 = .ok (.iconst 0, 1) := by decide +kernel
theorem dX7_isZeroOrOne_14 : decode cX7_isZeroOrOne 14 = .ok (.ireturn, 1) := by decide +kernel
theorem dX7_fallOf_0 : decode cX7_fallOf 0 = .ok (.iload_n 0, 1) := by decide +kernel
theorem dX7_fallOf_1 : decode cX7_fallOf 1 = .ok (.iconst 1, 1) := by decide +kernel
theorem dX7_fallOf_2 : decode cX7_fallOf 2 = .ok (.if_icmp .ge 5, 3) := by decide +kernel
theorem dX7_fallOf_5 : decode cX7_fallOf 5 = .ok (.iconst 0, 1) := by decide +kernel
theorem dX7_fallOf_6 : decode cX7_fallOf 6 = .ok (.ireturn, 1) := by decide +kernel
theorem dX7_fallOf_7 : decode cX7_fallOf 7 = .ok (.iload_n 0, 1) := by decide +kernel
theorem dX7_fallOf_8 : decode cX7_fallOf 8 = .ok (.bipush 16, 2) := by decide +kernel
theorem dX7_fallOf_10 : decode cX7_fallOf 10 = .ok (.if_icmp .ge 7, 3) := by decide +kernel
theorem dX7_fallOf_13 : decode cX7_fallOf 13 = .ok (.iconst 1, 1) := by decide +kernel
theorem dX7_fallOf_14 : decode cX7_fallOf 14 = .ok (.goto 7, 3) := by decide +kernel
theorem dX7_fallOf_17 : decode cX7_fallOf 17 = .ok (.iload_n 0, 1) := by decide +kernel
theorem dX7_fallOf_18 : decode cX7_fallOf 18 = .ok (.bipush 16, 2) := by decide +kernel
theorem dX7_fallOf_20 : decode cX7_fallOf 20 = .ok (.idiv, 1) := by decide +kernel
theorem dX7_fallOf_21 : decode cX7_fallOf 21 = .ok (.ireturn, 1) := by decide +kernel
theorem dX7_flowOf_0 : decode cX7_flowOf 0 = .ok (.iload_n 1, 1) := by decide +kernel
theorem dX7_flowOf_1 : decode cX7_flowOf 1 = .ok (.bipush 10, 2) := by decide +kernel
theorem dX7_flowOf_3 : decode cX7_flowOf 3 = .ok (.if_icmp .ge 7, 3) := by decide +kernel
theorem dX7_flowOf_6 : decode cX7_flowOf 6 = .ok (.iconst 0, 1) := by decide +kernel
theorem dX7_flowOf_7 : decode cX7_flowOf 7 = .ok (.goto 10, 3) := by decide +kernel
theorem dX7_flowOf_10 : decode cX7_flowOf 10 = .ok (.iload_n 0, 1) := by decide +kernel
theorem dX7_flowOf_11 : decode cX7_flowOf 11 = .ok (.sipush 1000, 3) := by decide +kernel
theorem dX7_flowOf_14 : decode cX7_flowOf 14 = .ok (.imul, 1) := by decide +kernel
theorem dX7_flowOf_15 : decode cX7_flowOf 15 = .ok (.iload_n 1, 1) := by decide +kernel
theorem dX7_flowOf_16 : decode cX7_flowOf 16 = .ok (.idiv, 1) := by decide +kernel
theorem dX7_flowOf_17 : decode cX7_flowOf 17 = .ok (.ireturn, 1) := by decide +kernel
theorem dX7_markOf_0 : decode cX7_markOf 0 = .ok (.iload_n 2, 1) := by decide +kernel
theorem dX7_markOf_1 : decode cX7_markOf 1 = .ok (.iconst 2, 1) := by decide +kernel
theorem dX7_markOf_2 : decode cX7_markOf 2 = .ok (.ishl, 1) := by decide +kernel
theorem dX7_markOf_3 : decode cX7_markOf 3 = .ok (.iload_n 1, 1) := by decide +kernel
theorem dX7_markOf_4 : decode cX7_markOf 4 = .ok (.ifCond .ne 7, 3) := by decide +kernel
theorem dX7_markOf_7 : decode cX7_markOf 7 = .ok (.iconst 0, 1) := by decide +kernel
theorem dX7_markOf_8 : decode cX7_markOf 8 = .ok (.goto 4, 3) := by decide +kernel
theorem dX7_markOf_11 : decode cX7_markOf 11 = .ok (.iconst 2, 1) := by decide +kernel
theorem dX7_markOf_12 : decode cX7_markOf 12 = .ok (.ior, 1) := by decide +kernel
theorem dX7_markOf_13 : decode cX7_markOf 13 = .ok (.iload_n 0, 1) := by decide +kernel
theorem dX7_markOf_14 : decode cX7_markOf 14 = .ok (.ifCond .ne 7, 3) := by decide +kernel
theorem dX7_markOf_17 : decode cX7_markOf 17 = .ok (.iconst 0, 1) := by decide +kernel
theorem dX7_markOf_18 : decode cX7_markOf 18 = .ok (.goto 4, 3) := by decide +kernel
theorem dX7_markOf_21 : decode cX7_markOf 21 = .ok (.iconst 1, 1) := by decide +kernel
theorem dX7_markOf_22 : decode cX7_markOf 22 = .ok (.ior, 1) := by decide +kernel
theorem dX7_markOf_23 : decode cX7_markOf 23 = .ok (.ireturn, 1) := by decide +kernel
theorem dX7_kindOfMark_0 : decode cX7_kindOfMark 0 = .ok (.iload_n 0, 1) := by decide +kernel
theorem dX7_kindOfMark_1 : decode cX7_kindOfMark 1 = .ok (.iconst 1, 1) := by decide +kernel
theorem dX7_kindOfMark_2 : decode cX7_kindOfMark 2 = .ok (.iand, 1) := by decide +kernel
theorem dX7_kindOfMark_3 : decode cX7_kindOfMark 3 = .ok (.ireturn, 1) := by decide +kernel
theorem dX7_burrOfMark_0 : decode cX7_burrOfMark 0 = .ok (.iload_n 0, 1) := by decide +kernel
theorem dX7_burrOfMark_1 : decode cX7_burrOfMark 1 = .ok (.iconst 2, 1) := by decide +kernel
theorem dX7_burrOfMark_2 : decode cX7_burrOfMark 2 = .ok (.iand, 1) := by decide +kernel
theorem dX7_burrOfMark_3 : decode cX7_burrOfMark 3 = .ok (.iconst 1, 1) := by decide +kernel
theorem dX7_burrOfMark_4 : decode cX7_burrOfMark 4 = .ok (.ishr, 1) := by decide +kernel
theorem dX7_burrOfMark_5 : decode cX7_burrOfMark 5 = .ok (.ireturn, 1) := by decide +kernel
theorem dX7_gapOfMark_0 : decode cX7_gapOfMark 0 = .ok (.iload_n 0, 1) := by decide +kernel
theorem dX7_gapOfMark_1 : decode cX7_gapOfMark 1 = .ok (.iconst 2, 1) := by decide +kernel
theorem dX7_gapOfMark_2 : decode cX7_gapOfMark 2 = .ok (.ishr, 1) := by decide +kernel
theorem dX7_gapOfMark_3 : decode cX7_gapOfMark 3 = .ok (.ireturn, 1) := by decide +kernel
theorem dJ9_abs_0f7a4_0 : decode cJ9_abs_0f7a4 0 = .ok (.iload_n 0, 1) := by decide +kernel
theorem dJ9_abs_0f7a4_1 : decode cJ9_abs_0f7a4 1 = .ok (.ifCond .ge 8, 3) := by decide +kernel
theorem dJ9_abs_0f7a4_4 : decode cJ9_abs_0f7a4 4 = .ok (.iload_n 0, 1) := by decide +kernel
theorem dJ9_abs_0f7a4_5 : decode cJ9_abs_0f7a4 5 = .ok (.ineg, 1) := by decide +kernel
theorem dJ9_abs_0f7a4_6 : decode cJ9_abs_0f7a4 6 = .ok (.goto 4, 3) := by decide +kernel
theorem dJ9_abs_0f7a4_9 : decode cJ9_abs_0f7a4 9 = .ok (.iload_n 0, 1) := by decide +kernel
theorem dJ9_abs_0f7a4_10 : decode cJ9_abs_0f7a4 10 = .ok (.ireturn, 1) := by decide +kernel
theorem dJ9_max_7cf53_0 : decode cJ9_max_7cf53 0 = .ok (.iload_n 0, 1) := by decide +kernel
theorem dJ9_max_7cf53_1 : decode cJ9_max_7cf53 1 = .ok (.iload_n 1, 1) := by decide +kernel
theorem dJ9_max_7cf53_2 : decode cJ9_max_7cf53 2 = .ok (.if_icmp .lt 7, 3) := by decide +kernel
theorem dJ9_max_7cf53_5 : decode cJ9_max_7cf53 5 = .ok (.iload_n 0, 1) := by decide +kernel
theorem dJ9_max_7cf53_6 : decode cJ9_max_7cf53 6 = .ok (.goto 4, 3) := by decide +kernel
theorem dJ9_max_7cf53_9 : decode cJ9_max_7cf53 9 = .ok (.iload_n 1, 1) := by decide +kernel
theorem dJ9_max_7cf53_10 : decode cJ9_max_7cf53 10 = .ok (.ireturn, 1) := by decide +kernel
theorem dJ9_min_7cf53_0 : decode cJ9_min_7cf53 0 = .ok (.iload_n 0, 1) := by decide +kernel
theorem dJ9_min_7cf53_1 : decode cJ9_min_7cf53 1 = .ok (.iload_n 1, 1) := by decide +kernel
theorem dJ9_min_7cf53_2 : decode cJ9_min_7cf53 2 = .ok (.if_icmp .gt 7, 3) := by decide +kernel
theorem dJ9_min_7cf53_5 : decode cJ9_min_7cf53 5 = .ok (.iload_n 0, 1) := by decide +kernel
theorem dJ9_min_7cf53_6 : decode cJ9_min_7cf53 6 = .ok (.goto 4, 3) := by decide +kernel
theorem dJ9_min_7cf53_9 : decode cJ9_min_7cf53 9 = .ok (.iload_n 1, 1) := by decide +kernel
theorem dJ9_min_7cf53_10 : decode cJ9_min_7cf53 10 = .ok (.ireturn, 1) := by decide +kernel
