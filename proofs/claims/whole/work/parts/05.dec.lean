theorem dX2_reckonDoubt_57 : decode cX2_reckonDoubt 57 = .ok (.iload_n 3, 1) := by decide +kernel
theorem dX2_reckonDoubt_58 : decode cX2_reckonDoubt 58 = .ok (.istore_n 2, 1) := by decide +kernel
theorem dX2_reckonDoubt_59 : decode cX2_reckonDoubt 59 = .ok (.iinc 3 1, 3) := by decide +kernel
theorem dX2_reckonDoubt_62 : decode cX2_reckonDoubt 62 = .ok (.goto (-47), 3) := by decide +kernel
theorem dX2_reckonDoubt_65 : decode cX2_reckonDoubt 65 = .ok (.aload_n 0, 1) := by decide +kernel
theorem dX2_reckonDoubt_66 : decode cX2_reckonDoubt 66 = .ok (.aload_n 0, 1) := by decide +kernel
theorem dX2_reckonDoubt_67 : decode cX2_reckonDoubt 67 = .ok (.iload_n 1, 1) := by decide +kernel
theorem dX2_reckonDoubt_68 : decode cX2_reckonDoubt 68 = .ok (.iload_n 2, 1) := by decide +kernel
theorem dX2_reckonDoubt_69 : decode cX2_reckonDoubt 69 = .ok (.invokevirtual 42, 3) := by decide +kernel
theorem dX2_reckonDoubt_72 : decode cX2_reckonDoubt 72 = .ok (.aload_n 0, 1) := by decide +kernel
theorem dX2_reckonDoubt_73 : decode cX2_reckonDoubt 73 = .ok (.iload_n 2, 1) := by decide +kernel
theorem dX2_reckonDoubt_74 : decode cX2_reckonDoubt 74 = .ok (.iload_n 1, 1) := by decide +kernel
theorem dX2_reckonDoubt_75 : decode cX2_reckonDoubt 75 = .ok (.invokevirtual 42, 3) := by decide +kernel
theorem dX2_reckonDoubt_78 : decode cX2_reckonDoubt 78 = .ok (.lsub, 1) := by decide +kernel
theorem dX2_reckonDoubt_79 : decode cX2_reckonDoubt 79 = .ok (.aload_n 0, 1) := by decide +kernel
theorem dX2_reckonDoubt_80 : decode cX2_reckonDoubt 80 = .ok (.getfield 16, 3) := by decide +kernel
theorem dX2_reckonDoubt_83 : decode cX2_reckonDoubt 83 = .ok (.iload_n 1, 1) := by decide +kernel
theorem dX2_reckonDoubt_84 : decode cX2_reckonDoubt 84 = .ok (.iaload, 1) := by decide +kernel
theorem dX2_reckonDoubt_85 : decode cX2_reckonDoubt 85 = .ok (.i2l, 1) := by decide +kernel
theorem dX2_reckonDoubt_86 : decode cX2_reckonDoubt 86 = .ok (.aload_n 0, 1) := by decide +kernel
theorem dX2_reckonDoubt_87 : decode cX2_reckonDoubt 87 = .ok (.getfield 16, 3) := by decide +kernel
theorem dX2_reckonDoubt_90 : decode cX2_reckonDoubt 90 = .ok (.iload_n 2, 1) := by decide +kernel
theorem dX2_reckonDoubt_91 : decode cX2_reckonDoubt 91 = .ok (.iaload, 1) := by decide +kernel
theorem dX2_reckonDoubt_92 : decode cX2_reckonDoubt 92 = .ok (.i2l, 1) := by decide +kernel
theorem dX2_reckonDoubt_93 : decode cX2_reckonDoubt 93 = .ok (.lmul, 1) := by decide +kernel
theorem dX2_reckonDoubt_94 : decode cX2_reckonDoubt 94 = .ok (.invokevirtual 36, 3) := by decide +kernel
theorem dX2_reckonDoubt_97 : decode cX2_reckonDoubt 97 = .ok (.iconst 1, 1) := by decide +kernel
theorem dX2_reckonDoubt_98 : decode cX2_reckonDoubt 98 = .ok (.ireturn, 1) := by decide +kernel
theorem dX2_cross_0 : decode cX2_cross 0 = .ok (.aload_n 0, 1) := by decide +kernel
theorem dX2_cross_1 : decode cX2_cross 1 = .ok (.getfield 13, 3) := by decide +kernel
theorem dX2_cross_4 : decode cX2_cross 4 = .ok (.iload_n 1, 1) := by decide +kernel
theorem dX2_cross_5 : decode cX2_cross 5 = .ok (.iaload, 1) := by decide +kernel
theorem dX2_cross_6 : decode cX2_cross 6 = .ok (.i2l, 1) := by decide +kernel
theorem dX2_cross_7 : decode cX2_cross 7 = .ok (.aload_n 0, 1) := by decide +kernel
theorem dX2_cross_8 : decode cX2_cross 8 = .ok (.getfield 16, 3) := by decide +kernel
theorem dX2_cross_11 : decode cX2_cross 11 = .ok (.iload_n 2, 1) := by decide +kernel
theorem dX2_cross_12 : decode cX2_cross 12 = .ok (.iaload, 1) := by decide +kernel
theorem dX2_cross_13 : decode cX2_cross 13 = .ok (.i2l, 1) := by decide +kernel
theorem dX2_cross_14 : decode cX2_cross 14 = .ok (.lmul, 1) := by decide +kernel
theorem dX2_cross_15 : decode cX2_cross 15 = .ok (.lreturn, 1) := by decide +kernel
set_option maxRecDepth 20000 in
theorem ggX2_reduce_X2_commonDivisor : GoodIn wsX2_reduce wsX2_commonDivisor := goodIn_r _ [6] (by decide +kernel) (by decide +kernel)
set_option maxRecDepth 20000 in
theorem gX2_reduce_X2_commonDivisor : GoodIn wsX2_reduce (va_wsS RX2 46 yX2_commonDivisor wsX2_commonDivisor) := goodIn_app (goodIn_of _ (by decide +kernel)) ggX2_reduce_X2_commonDivisor
theorem dX2_reduce_0 : decode cX2_reduce 0 = .ok (.lload_n 1, 1) := by decide +kernel
theorem dX2_reduce_1 : decode cX2_reduce 1 = .ok (.lload_n 3, 1) := by decide +kernel
theorem dX2_reduce_2 : decode cX2_reduce 2 = .ok (.invokestatic 46, 3) := by decide +kernel
theorem dX2_reduce_5 : decode cX2_reduce 5 = .ok (.lstore 5, 2) := by decide +kernel
theorem dX2_reduce_7 : decode cX2_reduce 7 = .ok (.lload 5, 2) := by decide +kernel
theorem dX2_reduce_9 : decode cX2_reduce 9 = .ok (.lconst 1, 1) := by decide +kernel
theorem dX2_reduce_10 : decode cX2_reduce 10 = .ok (.lcmp, 1) := by decide +kernel
theorem dX2_reduce_11 : decode cX2_reduce 11 = .ok (.ifCond .ge 4, 3) := by decide +kernel
theorem dX2_reduce_14 : decode cX2_reduce 14 = .ok (.return_, 1) := by decide +kernel
theorem dX2_reduce_15 : decode cX2_reduce 15 = .ok (.aload_n 0, 1) := by decide +kernel
theorem dX2_reduce_16 : decode cX2_reduce 16 = .ok (.lload_n 1, 1) := by decide +kernel
theorem dX2_reduce_17 : decode cX2_reduce 17 = .ok (.lload 5, 2) := by decide +kernel
theorem dX2_reduce_19 : decode cX2_reduce 19 = .ok (.ldiv, 1) := by decide +kernel
theorem dX2_reduce_20 : decode cX2_reduce 20 = .ok (.putfield 23, 3) := by decide +kernel
theorem dX2_reduce_23 : decode cX2_reduce 23 = .ok (.aload_n 0, 1) := by decide +kernel
theorem dX2_reduce_24 : decode cX2_reduce 24 = .ok (.lload_n 3, 1) := by decide +kernel
theorem dX2_reduce_25 : decode cX2_reduce 25 = .ok (.lload 5, 2) := by decide +kernel
theorem dX2_reduce_27 : decode cX2_reduce 27 = .ok (.ldiv, 1) := by decide +kernel
theorem dX2_reduce_28 : decode cX2_reduce 28 = .ok (.putfield 27, 3) := by decide +kernel
theorem dX2_reduce_31 : decode cX2_reduce 31 = .ok (.return_, 1) := by decide +kernel
theorem dX2_commonDivisor_0 : decode cX2_commonDivisor 0 = .ok (.lload_n 0, 1) := by decide +kernel
theorem dX2_commonDivisor_1 : decode cX2_commonDivisor 1 = .ok (.lstore 4, 2) := by decide +kernel
theorem dX2_commonDivisor_3 : decode cX2_commonDivisor 3 = .ok (.lload_n 2, 1) := by decide +kernel
theorem dX2_commonDivisor_4 : decode cX2_commonDivisor 4 = .ok (.lstore 6, 2) := by decide +kernel
theorem dX2_commonDivisor_6 : decode cX2_commonDivisor 6 = .ok (.iconst 0, 1) := by decide +kernel
theorem dX2_commonDivisor_7 : decode cX2_commonDivisor 7 = .ok (.istore 8, 2) := by decide +kernel
theorem dX2_commonDivisor_9 : decode cX2_commonDivisor 9 = .ok (.iload 8, 2) := by decide +kernel
theorem dX2_commonDivisor_11 : decode cX2_commonDivisor 11 = .ok (.bipush 100, 2) := by decide +kernel
theorem dX2_commonDivisor_13 : decode cX2_commonDivisor 13 = .ok (.if_icmp .ge 31, 3) := by decide +kernel
theorem dX2_commonDivisor_16 : decode cX2_commonDivisor 16 = .ok (.lload 6, 2) := by decide +kernel
theorem dX2_commonDivisor_18 : decode cX2_commonDivisor 18 = .ok (.lconst 0, 1) := by decide +kernel
theorem dX2_commonDivisor_19 : decode cX2_commonDivisor 19 = .ok (.lcmp, 1) := by decide +kernel
theorem dX2_commonDivisor_20 : decode cX2_commonDivisor 20 = .ok (.ifCond .le 24, 3) := by decide +kernel
theorem dX2_commonDivisor_23 : decode cX2_commonDivisor 23 = .ok (.lload 4, 2) := by decide +kernel
theorem dX2_commonDivisor_25 : decode cX2_commonDivisor 25 = .ok (.lload 6, 2) := by decide +kernel
theorem dX2_commonDivisor_27 : decode cX2_commonDivisor 27 = .ok (.lrem, 1) := by decide +kernel
theorem dX2_commonDivisor_28 : decode cX2_commonDivisor 28 = .ok (.lstore 9, 2) := by decide +kernel
theorem dX2_commonDivisor_30 : decode cX2_commonDivisor 30 = .ok (.lload 6, 2) := by decide +kernel
theorem dX2_commonDivisor_32 : decode cX2_commonDivisor 32 = .ok (.lstore 4, 2) := by decide +kernel
theorem dX2_commonDivisor_34 : decode cX2_commonDivisor 34 = .ok (.lload 9, 2) := by decide +kernel
theorem dX2_commonDivisor_36 : decode cX2_commonDivisor 36 = .ok (.lstore 6, 2) := by decide +kernel
theorem dX2_commonDivisor_38 : decode cX2_commonDivisor 38 = .ok (.iinc 8 1, 3) := by decide +kernel
theorem dX2_commonDivisor_41 : decode cX2_commonDivisor 41 = .ok (.goto (-32), 3) := by decide +kernel
theorem dX2_commonDivisor_44 : decode cX2_commonDivisor 44 = .ok (.lload 4, 2) := by decide +kernel
theorem dX2_commonDivisor_46 : decode cX2_commonDivisor 46 = .ok (.lreturn, 1) := by decide +kernel
theorem dX3_init_0 : decode cX3_init 0 = .ok (.aload_n 0, 1) := by decide +kernel
theorem dX3_init_1 : decode cX3_init 1 = .ok (.invokespecial 1, 3) := by decide +kernel
theorem dX3_init_4 : decode cX3_init 4 = .ok (.aload_n 0, 1) := by decide +kernel
theorem dX3_init_5 : decode cX3_init 5 = .ok (.bipush 10, 2) := by decide +kernel
theorem dX3_init_7 : decode cX3_init 7 = .ok (.newarray .int, 2) := by decide +kernel
theorem dX3_init_9 : decode cX3_init 9 = .ok (.putfield 9, 3) := by decide +kernel
theorem dX3_init_12 : decode cX3_init 12 = .ok (.aload_n 0, 1) := by decide +kernel
theorem dX3_init_13 : decode cX3_init 13 = .ok (.bipush 10, 2) := by decide +kernel
theorem dX3_init_15 : decode cX3_init 15 = .ok (.newarray .int, 2) := by decide +kernel
theorem dX3_init_17 : decode cX3_init 17 = .ok (.putfield 13, 3) := by decide +kernel
theorem dX3_init_20 : decode cX3_init 20 = .ok (.aload_n 0, 1) := by decide +kernel
theorem dX3_init_21 : decode cX3_init 21 = .ok (.bipush 10, 2) := by decide +kernel
theorem dX3_init_23 : decode cX3_init 23 = .ok (.newarray .int, 2) := by decide +kernel
theorem dX3_init_25 : decode cX3_init 25 = .ok (.putfield 16, 3) := by decide +kernel
theorem dX3_init_28 : decode cX3_init 28 = .ok (.aload_n 0, 1) := by decide +kernel
theorem dX3_init_29 : decode cX3_init 29 = .ok (.bipush 10, 2) := by decide +kernel
theorem dX3_init_31 : decode cX3_init 31 = .ok (.newarray .int, 2) := by decide +kernel
theorem dX3_init_33 : decode cX3_init 33 = .ok (.putfield 19, 3) := by decide +kernel
theorem dX3_init_36 : decode cX3_init 36 = .ok (.aload_n 0, 1) := by decide +kernel
theorem dX3_init_37 : decode cX3_init 37 = .ok (.bipush 10, 2) := by decide +kernel
theorem dX3_init_39 : decode cX3_init 39 = .ok (.newarray .int, 2) := by decide +kernel
theorem dX3_init_41 : decode cX3_init 41 = .ok (.putfield 22, 3) := by decide +kernel
theorem dX3_init_44 : decode cX3_init 44 = .ok (.aload_n 0, 1) := by decide +kernel
theorem dX3_init_45 : decode cX3_init 45 = .ok (.iconst 0, 1) := by decide +kernel
theorem dX3_init_46 : decode cX3_init 46 = .ok (.putfield 25, 3) := by decide +kernel
theorem dX3_init_49 : decode cX3_init 49 = .ok (.aload_n 0, 1) := by decide +kernel
theorem dX3_init_50 : decode cX3_init 50 = .ok (.lconst 0, 1) := by decide +kernel
theorem dX3_init_51 : decode cX3_init 51 = .ok (.putfield 29, 3) := by decide +kernel
theorem dX3_init_54 : decode cX3_init 54 = .ok (.aload_n 0, 1) := by decide +kernel
theorem dX3_init_55 : decode cX3_init 55 = .ok (.lconst 0, 1) := by decide +kernel
theorem dX3_init_56 : decode cX3_init 56 = .ok (.putfield 33, 3) := by decide +kernel
theorem dX3_init_59 : decode cX3_init 59 = .ok (.aload_n 0, 1) := by decide +kernel
theorem dX3_init_60 : decode cX3_init 60 = .ok (.iconst 0, 1) := by decide +kernel
theorem dX3_init_61 : decode cX3_init 61 = .ok (.putfield 36, 3) := by decide +kernel
theorem dX3_init_64 : decode cX3_init 64 = .ok (.return_, 1) := by decide +kernel
theorem dX3_add_0 : decode cX3_add 0 = .ok (.aload_n 0, 1) := by decide +kernel
theorem dX3_add_1 : decode cX3_add 1 = .ok (.getfield 9, 3) := by decide +kernel
theorem dX3_add_4 : decode cX3_add 4 = .ok (.aload_n 0, 1) := by decide +kernel
theorem dX3_add_5 : decode cX3_add 5 = .ok (.getfield 25, 3) := by decide +kernel
theorem dX3_add_8 : decode cX3_add 8 = .ok (.iload_n 1, 1) := by decide +kernel
theorem dX3_add_9 : decode cX3_add 9 = .ok (.iastore, 1) := by decide +kernel
theorem dX3_add_10 : decode cX3_add 10 = .ok (.aload_n 0, 1) := by decide +kernel
theorem dX3_add_11 : decode cX3_add 11 = .ok (.getfield 13, 3) := by decide +kernel
theorem dX3_add_14 : decode cX3_add 14 = .ok (.aload_n 0, 1) := by decide +kernel
theorem dX3_add_15 : decode cX3_add 15 = .ok (.getfield 25, 3) := by decide +kernel
theorem dX3_add_18 : decode cX3_add 18 = .ok (.iload_n 2, 1) := by decide +kernel
theorem dX3_add_19 : decode cX3_add 19 = .ok (.iastore, 1) := by decide +kernel
theorem dX3_add_20 : decode cX3_add 20 = .ok (.aload_n 0, 1) := by decide +kernel
theorem dX3_add_21 : decode cX3_add 21 = .ok (.getfield 16, 3) := by decide +kernel
theorem dX3_add_24 : decode cX3_add 24 = .ok (.aload_n 0, 1) := by decide +kernel
theorem dX3_add_25 : decode cX3_add 25 = .ok (.getfield 25, 3) := by decide +kernel
theorem dX3_add_28 : decode cX3_add 28 = .ok (.iload_n 3, 1) := by decide +kernel
theorem dX3_add_29 : decode cX3_add 29 = .ok (.iastore, 1) := by decide +kernel
theorem dX3_add_30 : decode cX3_add 30 = .ok (.aload_n 0, 1) := by decide +kernel
theorem dX3_add_31 : decode cX3_add 31 = .ok (.getfield 19, 3) := by decide +kernel
theorem dX3_add_34 : decode cX3_add 34 = .ok (.aload_n 0, 1) := by decide +kernel
theorem dX3_add_35 : decode cX3_add 35 = .ok (.getfield 25, 3) := by decide +kernel
theorem dX3_add_38 : decode cX3_add 38 = .ok (.iload 4, 2) := by decide +kernel
theorem dX3_add_40 : decode cX3_add 40 = .ok (.iastore, 1) := by decide +kernel
theorem dX3_add_41 : decode cX3_add 41 = .ok (.aload_n 0, 1) := by decide +kernel
theorem dX3_add_42 : decode cX3_add 42 = .ok (.getfield 22, 3) := by decide +kernel
theorem dX3_add_45 : decode cX3_add 45 = .ok (.aload_n 0, 1) := by decide +kernel
theorem dX3_add_46 : decode cX3_add 46 = .ok (.getfield 25, 3) := by decide +kernel
theorem dX3_add_49 : decode cX3_add 49 = .ok (.iload 5, 2) := by decide +kernel
theorem dX3_add_51 : decode cX3_add 51 = .ok (.iastore, 1) := by decide +kernel
theorem dX3_add_52 : decode cX3_add 52 = .ok (.aload_n 0, 1) := by decide +kernel
theorem dX3_add_53 : decode cX3_add 53 = .ok (.dup, 1) := by decide +kernel
theorem dX3_add_54 : decode cX3_add 54 = .ok (.getfield 25, 3) := by decide +kernel
theorem dX3_add_57 : decode cX3_add 57 = .ok (.dup_x1, 1) := by decide +kernel
theorem dX3_add_58 : decode cX3_add 58 = .ok (.iconst 1, 1) := by decide +kernel
theorem dX3_add_59 : decode cX3_add 59 = .ok (.iadd, 1) := by decide +kernel
theorem dX3_add_60 : decode cX3_add 60 = .ok (.putfield 25, 3) := by decide +kernel
theorem dX3_add_63 : decode cX3_add 63 = .ok (.ireturn, 1) := by decide +kernel
theorem dX3_told_0 : decode cX3_told 0 = .ok (.iload_n 1, 1) := by decide +kernel
theorem dX3_told_1 : decode cX3_told 1 = .ok (.ifCond .lt 15, 3) := by decide +kernel
theorem dX3_told_4 : decode cX3_told 4 = .ok (.iload_n 1, 1) := by decide +kernel
theorem dX3_told_5 : decode cX3_told 5 = .ok (.aload_n 0, 1) := by decide +kernel
theorem dX3_told_6 : decode cX3_told 6 = .ok (.getfield 25, 3) := by decide +kernel
theorem dX3_told_9 : decode cX3_told 9 = .ok (.if_icmp .ge 7, 3) := by decide +kernel
theorem dX3_told_12 : decode cX3_told 12 = .ok (.iconst 1, 1) := by decide +kernel
theorem dX3_told_13 : decode cX3_told 13 = .ok (.goto 4, 3) := by decide +kernel
theorem dX3_told_16 : decode cX3_told 16 = .ok (.iconst 0, 1) := by decide +kernel
theorem dX3_told_17 : decode cX3_told 17 = .ok (.ireturn, 1) := by decide +kernel
set_option maxRecDepth 20000 in
theorem ggX3_reckon_X0_meanings : GoodIn wsX3_reckon wsX0_meanings := goodIn_r _ [15, 16, 17, 18, 19, 20, 14, 21, 22, 23, 24, 25, 66, 67, 68, 69, 70, 71, 72, 73] (by decide +kernel) (by decide +kernel)
set_option maxRecDepth 20000 in
theorem gX3_reckon_X0_meanings : GoodIn wsX3_reckon (wsV RX3 40 RX0 yX0_meanings wsX0_meanings) := goodIn_app (goodIn_of _ (by decide +kernel)) ggX3_reckon_X0_meanings
set_option maxRecDepth 20000 in
theorem ggX3_reckon_X3_ruleFor : GoodIn wsX3_reckon wsX3_ruleFor := goodIn_r _ [30, 31, 3, 32, 33, 34, 14, 35, 16, 22, 23, 17, 36, 37, 38, 39, 24, 25, 53, 54, 55, 56, 57, 58, 59, 60, 61, 66, 67, 68, 69, 70, 71, 72, 73] (by decide +kernel) (by decide +kernel)
set_option maxRecDepth 20000 in
theorem gX3_reckon_X3_ruleFor : GoodIn wsX3_reckon (wsV RX3 46 RX3 yX3_ruleFor wsX3_ruleFor) := goodIn_app (goodIn_of _ (by decide +kernel)) ggX3_reckon_X3_ruleFor
set_option maxRecDepth 20000 in
theorem ggX3_reckon_X3_consider : GoodIn wsX3_reckon wsX3_consider := goodIn_r _ [43, 1, 44, 45, 46, 47, 48, 49, 50, 51, 52, 53, 54, 55, 56, 57, 58, 59, 60, 61] (by decide +kernel) (by decide +kernel)
set_option maxRecDepth 20000 in
theorem gX3_reckon_X3_consider : GoodIn wsX3_reckon (wsV RX3 61 RX3 yX3_consider wsX3_consider) := goodIn_app (goodIn_of _ (by decide +kernel)) ggX3_reckon_X3_consider
theorem dX3_reckon_0 : decode cX3_reckon 0 = .ok (.aload_n 0, 1) := by decide +kernel
theorem dX3_reckon_1 : decode cX3_reckon 1 = .ok (.iconst 0, 1) := by decide +kernel
theorem dX3_reckon_2 : decode cX3_reckon 2 = .ok (.putfield 36, 3) := by decide +kernel
theorem dX3_reckon_5 : decode cX3_reckon 5 = .ok (.aload 4, 2) := by decide +kernel
theorem dX3_reckon_7 : decode cX3_reckon 7 = .ok (.aload_n 0, 1) := by decide +kernel
theorem dX3_reckon_8 : decode cX3_reckon 8 = .ok (.getfield 13, 3) := by decide +kernel
theorem dX3_reckon_11 : decode cX3_reckon 11 = .ok (.iload_n 1, 1) := by decide +kernel
theorem dX3_reckon_12 : decode cX3_reckon 12 = .ok (.iaload, 1) := by decide +kernel
theorem dX3_reckon_13 : decode cX3_reckon 13 = .ok (.aload_n 0, 1) := by decide +kernel
theorem dX3_reckon_14 : decode cX3_reckon 14 = .ok (.getfield 9, 3) := by decide +kernel
theorem dX3_reckon_17 : decode cX3_reckon 17 = .ok (.iload_n 1, 1) := by decide +kernel
theorem dX3_reckon_18 : decode cX3_reckon 18 = .ok (.iaload, 1) := by decide +kernel
theorem dX3_reckon_19 : decode cX3_reckon 19 = .ok (.iload_n 2, 1) := by decide +kernel
theorem dX3_reckon_20 : decode cX3_reckon 20 = .ok (.invokevirtual 40, 3) := by decide +kernel
theorem dX3_reckon_23 : decode cX3_reckon 23 = .ok (.istore 5, 2) := by decide +kernel
theorem dX3_reckon_25 : decode cX3_reckon 25 = .ok (.aload_n 0, 1) := by decide +kernel
theorem dX3_reckon_26 : decode cX3_reckon 26 = .ok (.iload_n 1, 1) := by decide +kernel
theorem dX3_reckon_27 : decode cX3_reckon 27 = .ok (.iload_n 2, 1) := by decide +kernel
theorem dX3_reckon_28 : decode cX3_reckon 28 = .ok (.aload 4, 2) := by decide +kernel
theorem dX3_reckon_30 : decode cX3_reckon 30 = .ok (.invokevirtual 46, 3) := by decide +kernel
theorem dX3_reckon_33 : decode cX3_reckon 33 = .ok (.istore 6, 2) := by decide +kernel
theorem dX3_reckon_35 : decode cX3_reckon 35 = .ok (.iconst 0, 1) := by decide +kernel
theorem dX3_reckon_36 : decode cX3_reckon 36 = .ok (.istore 7, 2) := by decide +kernel
theorem dX3_reckon_38 : decode cX3_reckon 38 = .ok (.iload 7, 2) := by decide +kernel
theorem dX3_reckon_40 : decode cX3_reckon 40 = .ok (.aload_n 3, 1) := by decide +kernel
theorem dX3_reckon_41 : decode cX3_reckon 41 = .ok (.getfield 50, 3) := by decide +kernel
theorem dX3_reckon_44 : decode cX3_reckon 44 = .ok (.if_icmp .ge 115, 3) := by decide +kernel
theorem dX3_reckon_47 : decode cX3_reckon 47 = .ok (.iload 5, 2) := by decide +kernel
theorem dX3_reckon_49 : decode cX3_reckon 49 = .ok (.iload 7, 2) := by decide +kernel
theorem dX3_reckon_51 : decode cX3_reckon 51 = .ok (.ishr, 1) := by decide +kernel
theorem dX3_reckon_52 : decode cX3_reckon 52 = .ok (.iconst 1, 1) := by decide +kernel
theorem dX3_reckon_53 : decode cX3_reckon 53 = .ok (.iand, 1) := by decide +kernel
theorem dX3_reckon_54 : decode cX3_reckon 54 = .ok (.ifCond .ne 6, 3) := by decide +kernel
theorem dX3_reckon_57 : decode cX3_reckon 57 = .ok (.goto 96, 3) := by decide +kernel
theorem dX3_reckon_60 : decode cX3_reckon 60 = .ok (.aload_n 0, 1) := by decide +kernel
theorem dX3_reckon_61 : decode cX3_reckon 61 = .ok (.getfield 19, 3) := by decide +kernel
theorem dX3_reckon_64 : decode cX3_reckon 64 = .ok (.iload_n 1, 1) := by decide +kernel
theorem dX3_reckon_65 : decode cX3_reckon 65 = .ok (.iaload, 1) := by decide +kernel
theorem dX3_reckon_66 : decode cX3_reckon 66 = .ok (.i2l, 1) := by decide +kernel
theorem dX3_reckon_67 : decode cX3_reckon 67 = .ok (.aload_n 3, 1) := by decide +kernel
theorem dX3_reckon_68 : decode cX3_reckon 68 = .ok (.getfield 53, 3) := by decide +kernel
theorem dX3_reckon_71 : decode cX3_reckon 71 = .ok (.iload 7, 2) := by decide +kernel
theorem dX3_reckon_73 : decode cX3_reckon 73 = .ok (.iaload, 1) := by decide +kernel
theorem dX3_reckon_74 : decode cX3_reckon 74 = .ok (.i2l, 1) := by decide +kernel
theorem dX3_reckon_75 : decode cX3_reckon 75 = .ok (.lmul, 1) := by decide +kernel
theorem dX3_reckon_76 : decode cX3_reckon 76 = .ok (.lstore 8, 2) := by decide +kernel
theorem dX3_reckon_78 : decode cX3_reckon 78 = .ok (.aload_n 3, 1) := by decide +kernel
theorem dX3_reckon_79 : decode cX3_reckon 79 = .ok (.getfield 56, 3) := by decide +kernel
theorem dX3_reckon_82 : decode cX3_reckon 82 = .ok (.iload 7, 2) := by decide +kernel
theorem dX3_reckon_84 : decode cX3_reckon 84 = .ok (.iaload, 1) := by decide +kernel
theorem dX3_reckon_85 : decode cX3_reckon 85 = .ok (.iconst 1, 1) := by decide +kernel
theorem dX3_reckon_86 : decode cX3_reckon 86 = .ok (.if_icmp .ne 7, 3) := by decide +kernel
theorem dX3_reckon_89 : decode cX3_reckon 89 = .ok (.iconst 1, 1) := by decide +kernel
theorem dX3_reckon_90 : decode cX3_reckon 90 = .ok (.goto 4, 3) := by decide +kernel
theorem dX3_reckon_93 : decode cX3_reckon 93 = .ok (.iconst 0, 1) := by decide +kernel
theorem dX3_reckon_94 : decode cX3_reckon 94 = .ok (.istore 10, 2) := by decide +kernel
theorem dX3_reckon_96 : decode cX3_reckon 96 = .ok (.iload 10, 2) := by decide +kernel
theorem dX3_reckon_98 : decode cX3_reckon 98 = .ok (.ifCond .eq 9, 3) := by decide +kernel
theorem dX3_reckon_101 : decode cX3_reckon 101 = .ok (.iload 6, 2) := by decide +kernel
theorem dX3_reckon_103 : decode cX3_reckon 103 = .ok (.iconst 1, 1) := by decide +kernel
theorem dX3_reckon_104 : decode cX3_reckon 104 = .ok (.if_icmp .eq 13, 3) := by decide +kernel
theorem dX3_reckon_107 : decode cX3_reckon 107 = .ok (.aload_n 0, 1) := by decide +kernel
theorem dX3_reckon_108 : decode cX3_reckon 108 = .ok (.lload 8, 2) := by decide +kernel
theorem dX3_reckon_110 : decode cX3_reckon 110 = .ok (.ldc2_w 59, 3) := by decide +kernel
theorem dX3_reckon_113 : decode cX3_reckon 113 = .ok (.ldiv, 1) := by decide +kernel
theorem dX3_reckon_114 : decode cX3_reckon 114 = .ok (.invokevirtual 61, 3) := by decide +kernel
theorem dX3_reckon_117 : decode cX3_reckon 117 = .ok (.iload 10, 2) := by decide +kernel
theorem dX3_reckon_119 : decode cX3_reckon 119 = .ok (.ifCond .eq 34, 3) := by decide +kernel
theorem dX3_reckon_122 : decode cX3_reckon 122 = .ok (.iload 6, 2) := by decide +kernel
theorem dX3_reckon_124 : decode cX3_reckon 124 = .ok (.ifCond .eq 29, 3) := by decide +kernel
theorem dX3_reckon_127 : decode cX3_reckon 127 = .ok (.aload_n 0, 1) := by decide +kernel
theorem dX3_reckon_128 : decode cX3_reckon 128 = .ok (.lload 8, 2) := by decide +kernel
theorem dX3_reckon_130 : decode cX3_reckon 130 = .ok (.bipush 100, 2) := by decide +kernel
theorem dX3_reckon_132 : decode cX3_reckon 132 = .ok (.aload_n 3, 1) := by decide +kernel
theorem dX3_reckon_133 : decode cX3_reckon 133 = .ok (.getfield 65, 3) := by decide +kernel
theorem dX3_reckon_136 : decode cX3_reckon 136 = .ok (.iload 7, 2) := by decide +kernel
theorem dX3_reckon_138 : decode cX3_reckon 138 = .ok (.iaload, 1) := by decide +kernel
theorem dX3_reckon_139 : decode cX3_reckon 139 = .ok (.iadd, 1) := by decide +kernel
theorem dX3_reckon_140 : decode cX3_reckon 140 = .ok (.i2l, 1) := by decide +kernel
theorem dX3_reckon_141 : decode cX3_reckon 141 = .ok (.lmul, 1) := by decide +kernel
theorem dX3_reckon_142 : decode cX3_reckon 142 = .ok (.ldc2_w 68, 3) := by decide +kernel
theorem dX3_reckon_145 : decode cX3_reckon 145 = .ok (.ldiv, 1) := by decide +kernel
theorem dX3_reckon_146 : decode cX3_reckon 146 = .ok (.ldc2_w 59, 3) := by decide +kernel
theorem dX3_reckon_149 : decode cX3_reckon 149 = .ok (.ldiv, 1) := by decide +kernel
theorem dX3_reckon_150 : decode cX3_reckon 150 = .ok (.invokevirtual 61, 3) := by decide +kernel
theorem dX3_reckon_153 : decode cX3_reckon 153 = .ok (.iinc 7 1, 3) := by decide +kernel
theorem dX3_reckon_156 : decode cX3_reckon 156 = .ok (.goto (-118), 3) := by decide +kernel
theorem dX3_reckon_159 : decode cX3_reckon 159 = .ok (.aload_n 0, 1) := by decide +kernel
theorem dX3_reckon_160 : decode cX3_reckon 160 = .ok (.getfield 36, 3) := by decide +kernel
theorem dX3_reckon_163 : decode cX3_reckon 163 = .ok (.ireturn, 1) := by decide +kernel
set_option maxRecDepth 20000 in
theorem ggX3_ruleFor_X0_heaping : GoodIn wsX3_ruleFor wsX0_heaping := goodIn_r _ [7, 8, 9, 10, 11, 12, 13, 14, 6, 15, 16, 17, 27, 28, 29, 30, 31, 32, 33, 34] (by decide +kernel) (by decide +kernel)
set_option maxRecDepth 20000 in
theorem gX3_ruleFor_X0_heaping : GoodIn wsX3_ruleFor (wsV RX3 70 RX0 yX0_heaping wsX0_heaping) := goodIn_app (goodIn_of _ (by decide +kernel)) ggX3_ruleFor_X0_heaping
theorem dX3_ruleFor_0 : decode cX3_ruleFor 0 = .ok (.aload_n 0, 1) := by decide +kernel
theorem dX3_ruleFor_1 : decode cX3_ruleFor 1 = .ok (.getfield 22, 3) := by decide +kernel
theorem dX3_ruleFor_4 : decode cX3_ruleFor 4 = .ok (.iload_n 1, 1) := by decide +kernel
theorem dX3_ruleFor_5 : decode cX3_ruleFor 5 = .ok (.iaload, 1) := by decide +kernel
theorem dX3_ruleFor_6 : decode cX3_ruleFor 6 = .ok (.ifCond .ne 5, 3) := by decide +kernel
theorem dX3_ruleFor_9 : decode cX3_ruleFor 9 = .ok (.iconst 1, 1) := by decide +kernel
theorem dX3_ruleFor_10 : decode cX3_ruleFor 10 = .ok (.ireturn, 1) := by decide +kernel
theorem dX3_ruleFor_11 : decode cX3_ruleFor 11 = .ok (.aload_n 0, 1) := by decide +kernel
theorem dX3_ruleFor_12 : decode cX3_ruleFor 12 = .ok (.getfield 22, 3) := by decide +kernel
theorem dX3_ruleFor_15 : decode cX3_ruleFor 15 = .ok (.iload_n 1, 1) := by decide +kernel
theorem dX3_ruleFor_16 : decode cX3_ruleFor 16 = .ok (.iaload, 1) := by decide +kernel
theorem dX3_ruleFor_17 : decode cX3_ruleFor 17 = .ok (.iconst 1, 1) := by decide +kernel
theorem dX3_ruleFor_18 : decode cX3_ruleFor 18 = .ok (.if_icmp .ne 5, 3) := by decide +kernel
theorem dX3_ruleFor_21 : decode cX3_ruleFor 21 = .ok (.iconst 0, 1) := by decide +kernel
theorem dX3_ruleFor_22 : decode cX3_ruleFor 22 = .ok (.ireturn, 1) := by decide +kernel
theorem dX3_ruleFor_23 : decode cX3_ruleFor 23 = .ok (.aload_n 3, 1) := by decide +kernel
theorem dX3_ruleFor_24 : decode cX3_ruleFor 24 = .ok (.aload_n 0, 1) := by decide +kernel
theorem dX3_ruleFor_25 : decode cX3_ruleFor 25 = .ok (.getfield 9, 3) := by decide +kernel
theorem dX3_ruleFor_28 : decode cX3_ruleFor 28 = .ok (.iload_n 1, 1) := by decide +kernel
theorem dX3_ruleFor_29 : decode cX3_ruleFor 29 = .ok (.iaload, 1) := by decide +kernel
theorem dX3_ruleFor_30 : decode cX3_ruleFor 30 = .ok (.iload_n 2, 1) := by decide +kernel
theorem dX3_ruleFor_31 : decode cX3_ruleFor 31 = .ok (.invokevirtual 70, 3) := by decide +kernel
theorem dX3_ruleFor_34 : decode cX3_ruleFor 34 = .ok (.ireturn, 1) := by decide +kernel
theorem dX3_consider_0 : decode cX3_consider 0 = .ok (.aload_n 0, 1) := by decide +kernel
theorem dX3_consider_1 : decode cX3_consider 1 = .ok (.aload_n 0, 1) := by decide +kernel
theorem dX3_consider_2 : decode cX3_consider 2 = .ok (.getfield 36, 3) := by decide +kernel
theorem dX3_consider_5 : decode cX3_consider 5 = .ok (.ifCond .eq 14, 3) := by decide +kernel
theorem dX3_consider_8 : decode cX3_consider 8 = .ok (.aload_n 0, 1) := by decide +kernel
theorem dX3_consider_9 : decode cX3_consider 9 = .ok (.getfield 29, 3) := by decide +kernel
theorem dX3_consider_12 : decode cX3_consider 12 = .ok (.lload_n 1, 1) := by decide +kernel
theorem dX3_consider_13 : decode cX3_consider 13 = .ok (.invokestatic 74, 3) := by decide +kernel
theorem dX3_consider_16 : decode cX3_consider 16 = .ok (.goto 4, 3) := by decide +kernel
theorem dX3_consider_19 : decode cX3_consider 19 = .ok (.lload_n 1, 1) := by decide +kernel
theorem dX3_consider_20 : decode cX3_consider 20 = .ok (.putfield 29, 3) := by decide +kernel
theorem dX3_consider_23 : decode cX3_consider 23 = .ok (.aload_n 0, 1) := by decide +kernel
theorem dX3_consider_24 : decode cX3_consider 24 = .ok (.aload_n 0, 1) := by decide +kernel
theorem dX3_consider_25 : decode cX3_consider 25 = .ok (.getfield 36, 3) := by decide +kernel
theorem dX3_consider_28 : decode cX3_consider 28 = .ok (.ifCond .eq 14, 3) := by decide +kernel
theorem dX3_consider_31 : decode cX3_consider 31 = .ok (.aload_n 0, 1) := by decide +kernel
theorem dX3_consider_32 : decode cX3_consider 32 = .ok (.getfield 33, 3) := by decide +kernel
theorem dX3_consider_35 : decode cX3_consider 35 = .ok (.lload_n 1, 1) := by decide +kernel
theorem dX3_consider_36 : decode cX3_consider 36 = .ok (.invokestatic 80, 3) := by decide +kernel
theorem dX3_consider_39 : decode cX3_consider 39 = .ok (.goto 4, 3) := by decide +kernel
theorem dX3_consider_42 : decode cX3_consider 42 = .ok (.lload_n 1, 1) := by decide +kernel
theorem dX3_consider_43 : decode cX3_consider 43 = .ok (.putfield 33, 3) := by decide +kernel
theorem dX3_consider_46 : decode cX3_consider 46 = .ok (.aload_n 0, 1) := by decide +kernel
theorem dX3_consider_47 : decode cX3_consider 47 = .ok (.iconst 1, 1) := by decide +kernel
theorem dX3_consider_48 : decode cX3_consider 48 = .ok (.putfield 36, 3) := by decide +kernel
theorem dX3_consider_51 : decode cX3_consider 51 = .ok (.return_, 1) := by decide +kernel
theorem dX4_init_0 : decode cX4_init 0 = .ok (.aload_n 0, 1) := by decide +kernel
theorem dX4_init_1 : decode cX4_init 1 = .ok (.invokespecial 3, 3) := by decide +kernel
theorem dX4_init_4 : decode cX4_init 4 = .ok (.aload_n 0, 1) := by decide +kernel
theorem dX4_init_5 : decode cX4_init 5 = .ok (.iconst 0, 1) := by decide +kernel
theorem dX4_init_6 : decode cX4_init 6 = .ok (.putfield 9, 3) := by decide +kernel
theorem dX4_init_9 : decode cX4_init 9 = .ok (.aload_n 0, 1) := by decide +kernel
theorem dX4_init_10 : decode cX4_init 10 = .ok (.iconst 0, 1) := by decide +kernel
theorem dX4_init_11 : decode cX4_init 11 = .ok (.putfield 15, 3) := by decide +kernel
theorem dX4_init_14 : decode cX4_init 14 = .ok (.aload_n 0, 1) := by decide +kernel
theorem dX4_init_15 : decode cX4_init 15 = .ok (.bipush 12, 2) := by decide +kernel
theorem dX4_init_17 : decode cX4_init 17 = .ok (.newarray .int, 2) := by decide +kernel
theorem dX4_init_19 : decode cX4_init 19 = .ok (.putfield 18, 3) := by decide +kernel
theorem dX4_init_22 : decode cX4_init 22 = .ok (.aload_n 0, 1) := by decide +kernel
theorem dX4_init_23 : decode cX4_init 23 = .ok (.bipush 12, 2) := by decide +kernel
theorem dX4_init_25 : decode cX4_init 25 = .ok (.newarray .int, 2) := by decide +kernel
theorem dX4_init_27 : decode cX4_init 27 = .ok (.putfield 22, 3) := by decide +kernel
theorem dX4_init_30 : decode cX4_init 30 = .ok (.aload_n 0, 1) := by decide +kernel
theorem dX4_init_31 : decode cX4_init 31 = .ok (.bipush 12, 2) := by decide +kernel
theorem dX4_init_33 : decode cX4_init 33 = .ok (.newarray .int, 2) := by decide +kernel
theorem dX4_init_35 : decode cX4_init 35 = .ok (.putfield 25, 3) := by decide +kernel
theorem dX4_init_38 : decode cX4_init 38 = .ok (.aload_n 0, 1) := by decide +kernel
theorem dX4_init_39 : decode cX4_init 39 = .ok (.bipush 12, 2) := by decide +kernel
theorem dX4_init_41 : decode cX4_init 41 = .ok (.newarray .int, 2) := by decide +kernel
theorem dX4_init_43 : decode cX4_init 43 = .ok (.putfield 28, 3) := by decide +kernel
theorem dX4_init_46 : decode cX4_init 46 = .ok (.aload_n 0, 1) := by decide +kernel
theorem dX4_init_47 : decode cX4_init 47 = .ok (.bipush 12, 2) := by decide +kernel
theorem dX4_init_49 : decode cX4_init 49 = .ok (.newarray .int, 2) := by decide +kernel
theorem dX4_init_51 : decode cX4_init 51 = .ok (.putfield 31, 3) := by decide +kernel
theorem dX4_init_54 : decode cX4_init 54 = .ok (.aload_n 0, 1) := by decide +kernel
theorem dX4_init_55 : decode cX4_init 55 = .ok (.bipush 12, 2) := by decide +kernel
theorem dX4_init_57 : decode cX4_init 57 = .ok (.newarray .int, 2) := by decide +kernel
theorem dX4_init_59 : decode cX4_init 59 = .ok (.putfield 34, 3) := by decide +kernel
theorem dX4_init_62 : decode cX4_init 62 = .ok (.aload_n 0, 1) := by decide +kernel
theorem dX4_init_63 : decode cX4_init 63 = .ok (.bipush 12, 2) := by decide +kernel
theorem dX4_init_65 : decode cX4_init 65 = .ok (.newarray .int, 2) := by decide +kernel
theorem dX4_init_67 : decode cX4_init 67 = .ok (.putfield 37, 3) := by decide +kernel
theorem dX4_init_70 : decode cX4_init 70 = .ok (.aload_n 0, 1) := by decide +kernel
theorem dX4_init_71 : decode cX4_init 71 = .ok (.bipush 12, 2) := by decide +kernel
theorem dX4_init_73 : decode cX4_init 73 = .ok (.newarray .int, 2) := by decide +kernel
theorem dX4_init_75 : decode cX4_init 75 = .ok (.putfield 40, 3) := by decide +kernel
theorem dX4_init_78 : decode cX4_init 78 = .ok (.aload_n 0, 1) := by decide +kernel
theorem dX4_init_79 : decode cX4_init 79 = .ok (.bipush 12, 2) := by decide +kernel
theorem dX4_init_81 : decode cX4_init 81 = .ok (.newarray .int, 2) := by decide +kernel
theorem dX4_init_83 : decode cX4_init 83 = .ok (.putfield 43, 3) := by decide +kernel
theorem dX4_init_86 : decode cX4_init 86 = .ok (.aload_n 0, 1) := by decide +kernel
theorem dX4_init_87 : decode cX4_init 87 = .ok (.bipush 6, 2) := by decide +kernel
theorem dX4_init_89 : decode cX4_init 89 = .ok (.newarray .long, 2) := by decide +kernel
theorem dX4_init_91 : decode cX4_init 91 = .ok (.putfield 46, 3) := by decide +kernel
theorem dX4_init_94 : decode cX4_init 94 = .ok (.aload_n 0, 1) := by decide +kernel
theorem dX4_init_95 : decode cX4_init 95 = .ok (.bipush 6, 2) := by decide +kernel
theorem dX4_init_97 : decode cX4_init 97 = .ok (.newarray .long, 2) := by decide +kernel
theorem dX4_init_99 : decode cX4_init 99 = .ok (.putfield 50, 3) := by decide +kernel
theorem dX4_init_102 : decode cX4_init 102 = .ok (.return_, 1) := by decide +kernel
theorem dX4_add_0 : decode cX4_add 0 = .ok (.aload_n 0, 1) := by decide +kernel
theorem dX4_add_1 : decode cX4_add 1 = .ok (.getfield 18, 3) := by decide +kernel
theorem dX4_add_4 : decode cX4_add 4 = .ok (.aload_n 0, 1) := by decide +kernel
theorem dX4_add_5 : decode cX4_add 5 = .ok (.getfield 9, 3) := by decide +kernel
theorem dX4_add_8 : decode cX4_add 8 = .ok (.iload_n 1, 1) := by decide +kernel
theorem dX4_add_9 : decode cX4_add 9 = .ok (.iastore, 1) := by decide +kernel
theorem dX4_add_10 : decode cX4_add 10 = .ok (.aload_n 0, 1) := by decide +kernel
theorem dX4_add_11 : decode cX4_add 11 = .ok (.getfield 22, 3) := by decide +kernel
theorem dX4_add_14 : decode cX4_add 14 = .ok (.aload_n 0, 1) := by decide +kernel
theorem dX4_add_15 : decode cX4_add 15 = .ok (.getfield 9, 3) := by decide +kernel
theorem dX4_add_18 : decode cX4_add 18 = .ok (.iload_n 2, 1) := by decide +kernel
theorem dX4_add_19 : decode cX4_add 19 = .ok (.iastore, 1) := by decide +kernel
theorem dX4_add_20 : decode cX4_add 20 = .ok (.aload_n 0, 1) := by decide +kernel
theorem dX4_add_21 : decode cX4_add 21 = .ok (.getfield 25, 3) := by decide +kernel
theorem dX4_add_24 : decode cX4_add 24 = .ok (.aload_n 0, 1) := by decide +kernel
theorem dX4_add_25 : decode cX4_add 25 = .ok (.getfield 9, 3) := by decide +kernel
theorem dX4_add_28 : decode cX4_add 28 = .ok (.iload_n 3, 1) := by decide +kernel
theorem dX4_add_29 : decode cX4_add 29 = .ok (.iastore, 1) := by decide +kernel
theorem dX4_add_30 : decode cX4_add 30 = .ok (.aload_n 0, 1) := by decide +kernel
theorem dX4_add_31 : decode cX4_add 31 = .ok (.getfield 28, 3) := by decide +kernel
theorem dX4_add_34 : decode cX4_add 34 = .ok (.aload_n 0, 1) := by decide +kernel
theorem dX4_add_35 : decode cX4_add 35 = .ok (.getfield 9, 3) := by decide +kernel
theorem dX4_add_38 : decode cX4_add 38 = .ok (.iload 4, 2) := by decide +kernel
theorem dX4_add_40 : decode cX4_add 40 = .ok (.iastore, 1) := by decide +kernel
theorem dX4_add_41 : decode cX4_add 41 = .ok (.aload_n 0, 1) := by decide +kernel
theorem dX4_add_42 : decode cX4_add 42 = .ok (.getfield 31, 3) := by decide +kernel
theorem dX4_add_45 : decode cX4_add 45 = .ok (.aload_n 0, 1) := by decide +kernel
theorem dX4_add_46 : decode cX4_add 46 = .ok (.getfield 9, 3) := by decide +kernel
theorem dX4_add_49 : decode cX4_add 49 = .ok (.aload_n 0, 1) := by decide +kernel
theorem dX4_add_50 : decode cX4_add 50 = .ok (.getfield 15, 3) := by decide +kernel
theorem dX4_add_53 : decode cX4_add 53 = .ok (.iastore, 1) := by decide +kernel
theorem dX4_add_54 : decode cX4_add 54 = .ok (.aload_n 0, 1) := by decide +kernel
theorem dX4_add_55 : decode cX4_add 55 = .ok (.getfield 34, 3) := by decide +kernel
theorem dX4_add_58 : decode cX4_add 58 = .ok (.aload_n 0, 1) := by decide +kernel
theorem dX4_add_59 : decode cX4_add 59 = .ok (.getfield 9, 3) := by decide +kernel
theorem dX4_add_62 : decode cX4_add 62 = .ok (.iconst 0, 1) := by decide +kernel
theorem dX4_add_63 : decode cX4_add 63 = .ok (.iastore, 1) := by decide +kernel
theorem dX4_add_64 : decode cX4_add 64 = .ok (.aload_n 0, 1) := by decide +kernel
theorem dX4_add_65 : decode cX4_add 65 = .ok (.getfield 37, 3) := by decide +kernel
theorem dX4_add_68 : decode cX4_add 68 = .ok (.aload_n 0, 1) := by decide +kernel
theorem dX4_add_69 : decode cX4_add 69 = .ok (.getfield 9, 3) := by decide +kernel
theorem dX4_add_72 : decode cX4_add 72 = .ok (.iload 5, 2) := by decide +kernel
theorem dX4_add_74 : decode cX4_add 74 = .ok (.iastore, 1) := by decide +kernel
theorem dX4_add_75 : decode cX4_add 75 = .ok (.aload_n 0, 1) := by decide +kernel
theorem dX4_add_76 : decode cX4_add 76 = .ok (.getfield 40, 3) := by decide +kernel
theorem dX4_add_79 : decode cX4_add 79 = .ok (.aload_n 0, 1) := by decide +kernel
theorem dX4_add_80 : decode cX4_add 80 = .ok (.getfield 9, 3) := by decide +kernel
theorem dX4_add_83 : decode cX4_add 83 = .ok (.iconst 0, 1) := by decide +kernel
theorem dX4_add_84 : decode cX4_add 84 = .ok (.iastore, 1) := by decide +kernel
theorem dX4_add_85 : decode cX4_add 85 = .ok (.aload_n 0, 1) := by decide +kernel
theorem dX4_add_86 : decode cX4_add 86 = .ok (.getfield 43, 3) := by decide +kernel
theorem dX4_add_89 : decode cX4_add 89 = .ok (.aload_n 0, 1) := by decide +kernel
theorem dX4_add_90 : decode cX4_add 90 = .ok (.getfield 9, 3) := by decide +kernel
theorem dX4_add_93 : decode cX4_add 93 = .ok (.iconst 0, 1) := by decide +kernel
theorem dX4_add_94 : decode cX4_add 94 = .ok (.iastore, 1) := by decide +kernel
theorem dX4_add_95 : decode cX4_add 95 = .ok (.aload_n 0, 1) := by decide +kernel
theorem dX4_add_96 : decode cX4_add 96 = .ok (.dup, 1) := by decide +kernel
theorem dX4_add_97 : decode cX4_add 97 = .ok (.getfield 9, 3) := by decide +kernel
theorem dX4_add_100 : decode cX4_add 100 = .ok (.dup_x1, 1) := by decide +kernel
theorem dX4_add_101 : decode cX4_add 101 = .ok (.iconst 1, 1) := by decide +kernel
theorem dX4_add_102 : decode cX4_add 102 = .ok (.iadd, 1) := by decide +kernel
theorem dX4_add_103 : decode cX4_add 103 = .ok (.putfield 9, 3) := by decide +kernel
theorem dX4_add_106 : decode cX4_add 106 = .ok (.ireturn, 1) := by decide +kernel
theorem dX4_told_0 : decode cX4_told 0 = .ok (.iload_n 1, 1) := by decide +kernel
theorem dX4_told_1 : decode cX4_told 1 = .ok (.ifCond .lt 15, 3) := by decide +kernel
theorem dX4_told_4 : decode cX4_told 4 = .ok (.iload_n 1, 1) := by decide +kernel
theorem dX4_told_5 : decode cX4_told 5 = .ok (.aload_n 0, 1) := by decide +kernel
theorem dX4_told_6 : decode cX4_told 6 = .ok (.getfield 9, 3) := by decide +kernel
theorem dX4_told_9 : decode cX4_told 9 = .ok (.if_icmp .ge 7, 3) := by decide +kernel
theorem dX4_told_12 : decode cX4_told 12 = .ok (.iconst 1, 1) := by decide +kernel
theorem dX4_told_13 : decode cX4_told 13 = .ok (.goto 4, 3) := by decide +kernel
theorem dX4_told_16 : decode cX4_told 16 = .ok (.iconst 0, 1) := by decide +kernel
theorem dX4_told_17 : decode cX4_told 17 = .ok (.ireturn, 1) := by decide +kernel
theorem dX4_howManySeized_0 : decode cX4_howManySeized 0 = .ok (.iconst 0, 1) := by decide +kernel
theorem dX4_howManySeized_1 : decode cX4_howManySeized 1 = .ok (.istore_n 1, 1) := by decide +kernel
theorem dX4_howManySeized_2 : decode cX4_howManySeized 2 = .ok (.iconst 0, 1) := by decide +kernel
theorem dX4_howManySeized_3 : decode cX4_howManySeized 3 = .ok (.istore_n 2, 1) := by decide +kernel
theorem dX4_howManySeized_4 : decode cX4_howManySeized 4 = .ok (.iload_n 2, 1) := by decide +kernel
theorem dX4_howManySeized_5 : decode cX4_howManySeized 5 = .ok (.aload_n 0, 1) := by decide +kernel
theorem dX4_howManySeized_6 : decode cX4_howManySeized 6 = .ok (.getfield 9, 3) := by decide +kernel
theorem dX4_howManySeized_9 : decode cX4_howManySeized 9 = .ok (.if_icmp .ge 18, 3) := by decide +kernel
theorem dX4_howManySeized_12 : decode cX4_howManySeized 12 = .ok (.iload_n 1, 1) := by decide +kernel
theorem dX4_howManySeized_13 : decode cX4_howManySeized 13 = .ok (.aload_n 0, 1) := by decide +kernel
theorem dX4_howManySeized_14 : decode cX4_howManySeized 14 = .ok (.getfield 43, 3) := by decide +kernel
theorem dX4_howManySeized_17 : decode cX4_howManySeized 17 = .ok (.iload_n 2, 1) := by decide +kernel
theorem dX4_howManySeized_18 : decode cX4_howManySeized 18 = .ok (.iaload, 1) := by decide +kernel
theorem dX4_howManySeized_19 : decode cX4_howManySeized 19 = .ok (.iadd, 1) := by decide +kernel
theorem dX4_howManySeized_20 : decode cX4_howManySeized 20 = .ok (.istore_n 1, 1) := by decide +kernel
theorem dX4_howManySeized_21 : decode cX4_howManySeized 21 = .ok (.iinc 2 1, 3) := by decide +kernel
theorem dX4_howManySeized_24 : decode cX4_howManySeized 24 = .ok (.goto (-20), 3) := by decide +kernel
theorem dX4_howManySeized_27 : decode cX4_howManySeized 27 = .ok (.iload_n 1, 1) := by decide +kernel
theorem dX4_howManySeized_28 : decode cX4_howManySeized 28 = .ok (.ireturn, 1) := by decide +kernel
theorem dX4_offAfter_0 : decode cX4_offAfter 0 = .ok (.sipush (-500), 3) := by decide +kernel
theorem dX4_offAfter_3 : decode cX4_offAfter 3 = .ok (.aload_n 0, 1) := by decide +kernel
theorem dX4_offAfter_4 : decode cX4_offAfter 4 = .ok (.getfield 25, 3) := by decide +kernel
theorem dX4_offAfter_7 : decode cX4_offAfter 7 = .ok (.iload_n 1, 1) := by decide +kernel
theorem dX4_offAfter_8 : decode cX4_offAfter 8 = .ok (.iaload, 1) := by decide +kernel
theorem dX4_offAfter_9 : decode cX4_offAfter 9 = .ok (.aload_n 0, 1) := by decide +kernel
theorem dX4_offAfter_10 : decode cX4_offAfter 10 = .ok (.getfield 28, 3) := by decide +kernel
theorem dX4_offAfter_13 : decode cX4_offAfter 13 = .ok (.iload_n 1, 1) := by decide +kernel
theorem dX4_offAfter_14 : decode cX4_offAfter 14 = .ok (.iaload, 1) := by decide +kernel
theorem dX4_offAfter_15 : decode cX4_offAfter 15 = .ok (.iload_n 2, 1) := by decide +kernel
theorem dX4_offAfter_16 : decode cX4_offAfter 16 = .ok (.imul, 1) := by decide +kernel
theorem dX4_offAfter_17 : decode cX4_offAfter 17 = .ok (.isub, 1) := by decide +kernel
theorem dX4_offAfter_18 : decode cX4_offAfter 18 = .ok (.invokestatic 53, 3) := by decide +kernel
theorem dX4_offAfter_21 : decode cX4_offAfter 21 = .ok (.ireturn, 1) := by decide +kernel
set_option maxRecDepth 20000 in
theorem ggX4_shortIn_X4_offAfter : GoodIn wsX4_shortIn wsX4_offAfter := goodIn_r _ [9, 10, 11, 12, 13, 14, 15, 16, 17, 18, 19, 20, 21, 22, 23, 24, 25, 26, 27, 28] (by decide +kernel) (by decide +kernel)
set_option maxRecDepth 20000 in
theorem gX4_shortIn_X4_offAfter : GoodIn wsX4_shortIn (wsV RX4 64 RX4 yX4_offAfter wsX4_offAfter) := goodIn_app (goodIn_of _ (by decide +kernel)) ggX4_shortIn_X4_offAfter
theorem dX4_shortIn_0 : decode cX4_shortIn 0 = .ok (.aload_n 0, 1) := by decide +kernel
theorem dX4_shortIn_1 : decode cX4_shortIn 1 = .ok (.getfield 37, 3) := by decide +kernel
theorem dX4_shortIn_4 : decode cX4_shortIn 4 = .ok (.iload_n 1, 1) := by decide +kernel
theorem dX4_shortIn_5 : decode cX4_shortIn 5 = .ok (.iaload, 1) := by decide +kernel
theorem dX4_shortIn_6 : decode cX4_shortIn 6 = .ok (.i2l, 1) := by decide +kernel
theorem dX4_shortIn_7 : decode cX4_shortIn 7 = .ok (.aload_n 3, 1) := by decide +kernel
theorem dX4_shortIn_8 : decode cX4_shortIn 8 = .ok (.getfield 59, 3) := by decide +kernel
theorem dX4_shortIn_11 : decode cX4_shortIn 11 = .ok (.aload_n 0, 1) := by decide +kernel
theorem dX4_shortIn_12 : decode cX4_shortIn 12 = .ok (.getfield 18, 3) := by decide +kernel
theorem dX4_shortIn_15 : decode cX4_shortIn 15 = .ok (.iload_n 1, 1) := by decide +kernel
theorem dX4_shortIn_16 : decode cX4_shortIn 16 = .ok (.iaload, 1) := by decide +kernel
theorem dX4_shortIn_17 : decode cX4_shortIn 17 = .ok (.iaload, 1) := by decide +kernel
theorem dX4_shortIn_18 : decode cX4_shortIn 18 = .ok (.i2l, 1) := by decide +kernel
theorem dX4_shortIn_19 : decode cX4_shortIn 19 = .ok (.lmul, 1) := by decide +kernel
theorem dX4_shortIn_20 : decode cX4_shortIn 20 = .ok (.aload_n 0, 1) := by decide +kernel
theorem dX4_shortIn_21 : decode cX4_shortIn 21 = .ok (.iload_n 1, 1) := by decide +kernel
theorem dX4_shortIn_22 : decode cX4_shortIn 22 = .ok (.iload_n 2, 1) := by decide +kernel
theorem dX4_shortIn_23 : decode cX4_shortIn 23 = .ok (.invokevirtual 64, 3) := by decide +kernel
theorem dX4_shortIn_26 : decode cX4_shortIn 26 = .ok (.ineg, 1) := by decide +kernel
theorem dX4_shortIn_27 : decode cX4_shortIn 27 = .ok (.i2l, 1) := by decide +kernel
theorem dX4_shortIn_28 : decode cX4_shortIn 28 = .ok (.lmul, 1) := by decide +kernel
theorem dX4_shortIn_29 : decode cX4_shortIn 29 = .ok (.ldc2_w 67, 3) := by decide +kernel
theorem dX4_shortIn_32 : decode cX4_shortIn 32 = .ok (.ldiv, 1) := by decide +kernel
theorem dX4_shortIn_33 : decode cX4_shortIn 33 = .ok (.lreturn, 1) := by decide +kernel
set_option maxRecDepth 20000 in
theorem ggX4_isForfeit_X4_offAfter : GoodIn wsX4_isForfeit wsX4_offAfter := goodIn_r _ [11, 12, 13, 14, 15, 3, 16, 40, 41, 42, 43, 44, 45, 46, 47, 48, 49, 50, 51, 52] (by decide +kernel) (by decide +kernel)
set_option maxRecDepth 20000 in
theorem gX4_isForfeit_X4_offAfter : GoodIn wsX4_isForfeit (wsV RX4 64 RX4 yX4_offAfter wsX4_offAfter) := goodIn_app (goodIn_of _ (by decide +kernel)) ggX4_isForfeit_X4_offAfter
set_option maxRecDepth 20000 in
theorem ggX4_isForfeit_X0_lets : GoodIn wsX4_isForfeit wsX0_lets := goodIn_r _ [21, 22, 23, 24, 25, 20, 26, 27, 28, 29, 30, 31, 32, 33, 34, 35, 36, 37, 38, 39, 53, 54, 55, 56, 57, 58, 59, 60] (by decide +kernel) (by decide +kernel)
set_option maxRecDepth 20000 in
theorem gX4_isForfeit_X0_lets : GoodIn wsX4_isForfeit (wsV RX4 73 RX0 yX0_lets wsX0_lets) := goodIn_app (goodIn_of _ (by decide +kernel)) ggX4_isForfeit_X0_lets
theorem dX4_isForfeit_0 : decode cX4_isForfeit 0 = .ok (.aload_n 0, 1) := by decide +kernel
theorem dX4_isForfeit_1 : decode cX4_isForfeit 1 = .ok (.iload_n 1, 1) := by decide +kernel
theorem dX4_isForfeit_2 : decode cX4_isForfeit 2 = .ok (.iload_n 2, 1) := by decide +kernel
theorem dX4_isForfeit_3 : decode cX4_isForfeit 3 = .ok (.invokevirtual 64, 3) := by decide +kernel
theorem dX4_isForfeit_6 : decode cX4_isForfeit 6 = .ok (.invokestatic 69, 3) := by decide +kernel
theorem dX4_isForfeit_9 : decode cX4_isForfeit 9 = .ok (.iload 5, 2) := by decide +kernel
theorem dX4_isForfeit_11 : decode cX4_isForfeit 11 = .ok (.if_icmp .le 5, 3) := by decide +kernel
theorem dX4_isForfeit_14 : decode cX4_isForfeit 14 = .ok (.iconst 1, 1) := by decide +kernel
theorem dX4_isForfeit_15 : decode cX4_isForfeit 15 = .ok (.ireturn, 1) := by decide +kernel
theorem dX4_isForfeit_16 : decode cX4_isForfeit 16 = .ok (.aload 4, 2) := by decide +kernel
theorem dX4_isForfeit_18 : decode cX4_isForfeit 18 = .ok (.aload_n 0, 1) := by decide +kernel
theorem dX4_isForfeit_19 : decode cX4_isForfeit 19 = .ok (.getfield 18, 3) := by decide +kernel
theorem dX4_isForfeit_22 : decode cX4_isForfeit 22 = .ok (.iload_n 1, 1) := by decide +kernel
theorem dX4_isForfeit_23 : decode cX4_isForfeit 23 = .ok (.iaload, 1) := by decide +kernel
theorem dX4_isForfeit_24 : decode cX4_isForfeit 24 = .ok (.aload_n 0, 1) := by decide +kernel
theorem dX4_isForfeit_25 : decode cX4_isForfeit 25 = .ok (.getfield 22, 3) := by decide +kernel
theorem dX4_isForfeit_28 : decode cX4_isForfeit 28 = .ok (.iload_n 1, 1) := by decide +kernel
theorem dX4_isForfeit_29 : decode cX4_isForfeit 29 = .ok (.iaload, 1) := by decide +kernel
theorem dX4_isForfeit_30 : decode cX4_isForfeit 30 = .ok (.bipush 7, 2) := by decide +kernel
theorem dX4_isForfeit_32 : decode cX4_isForfeit 32 = .ok (.iload_n 3, 1) := by decide +kernel
theorem dX4_isForfeit_33 : decode cX4_isForfeit 33 = .ok (.imul, 1) := by decide +kernel
theorem dX4_isForfeit_34 : decode cX4_isForfeit 34 = .ok (.invokevirtual 73, 3) := by decide +kernel
theorem dX4_isForfeit_37 : decode cX4_isForfeit 37 = .ok (.ifCond .ne 7, 3) := by decide +kernel
theorem dX4_isForfeit_40 : decode cX4_isForfeit 40 = .ok (.iconst 1, 1) := by decide +kernel
theorem dX4_isForfeit_41 : decode cX4_isForfeit 41 = .ok (.goto 4, 3) := by decide +kernel
theorem dX4_isForfeit_44 : decode cX4_isForfeit 44 = .ok (.iconst 0, 1) := by decide +kernel
theorem dX4_isForfeit_45 : decode cX4_isForfeit 45 = .ok (.ireturn, 1) := by decide +kernel
set_option maxRecDepth 20000 in
theorem ggX4_passWeek_X4_sell : GoodIn wsX4_passWeek wsX4_sell := goodIn_r _ [11, 3, 12, 4, 13, 14, 15, 16, 10, 17, 18, 19, 20, 21, 22, 23, 24, 25, 26, 27, 28, 29, 30, 31, 62, 63, 64, 65, 66, 67, 68, 69, 70, 71, 72, 73, 74, 75, 76, 77, 78] (by decide +kernel) (by decide +kernel)
set_option maxRecDepth 20000 in
theorem gX4_passWeek_X4_sell : GoodIn wsX4_passWeek (wsV RX4 79 RX4 yX4_sell wsX4_sell) := goodIn_app (goodIn_of _ (by decide +kernel)) ggX4_passWeek_X4_sell
set_option maxRecDepth 20000 in
theorem ggX4_passWeek_X4_isForfeit : GoodIn wsX4_passWeek wsX4_isForfeit := goodIn_r _ [35, 36, 37, 30, 38, 20, 4, 22, 23, 24, 10, 25, 26, 27, 28, 29, 31, 39, 40, 41, 42, 43, 44, 45, 46, 47, 48, 49, 50, 51, 52, 53, 54, 55, 56, 57, 58, 59, 60, 61, 62, 63, 64, 65, 66, 67, 68, 69, 70, 71, 72, 73, 74, 79, 80, 81, 82, 83, 84, 85, 86] (by decide +kernel) (by decide +kernel)
set_option maxRecDepth 20000 in
theorem gX4_passWeek_X4_isForfeit : GoodIn wsX4_passWeek (wsV RX4 83 RX4 yX4_isForfeit wsX4_isForfeit) := goodIn_app (goodIn_of _ (by decide +kernel)) ggX4_passWeek_X4_isForfeit
theorem dX4_passWeek_0 : decode cX4_passWeek 0 = .ok (.iconst 0, 1) := by decide +kernel
theorem dX4_passWeek_1 : decode cX4_passWeek 1 = .ok (.istore 5, 2) := by decide +kernel
theorem dX4_passWeek_3 : decode cX4_passWeek 3 = .ok (.iload 5, 2) := by decide +kernel
theorem dX4_passWeek_5 : decode cX4_passWeek 5 = .ok (.aload_n 0, 1) := by decide +kernel
theorem dX4_passWeek_6 : decode cX4_passWeek 6 = .ok (.getfield 9, 3) := by decide +kernel
theorem dX4_passWeek_9 : decode cX4_passWeek 9 = .ok (.if_icmp .ge 99, 3) := by decide +kernel
theorem dX4_passWeek_12 : decode cX4_passWeek 12 = .ok (.aload_n 0, 1) := by decide +kernel
theorem dX4_passWeek_13 : decode cX4_passWeek 13 = .ok (.getfield 43, 3) := by decide +kernel
theorem dX4_passWeek_16 : decode cX4_passWeek 16 = .ok (.iload 5, 2) := by decide +kernel
theorem dX4_passWeek_18 : decode cX4_passWeek 18 = .ok (.iaload, 1) := by decide +kernel
theorem dX4_passWeek_19 : decode cX4_passWeek 19 = .ok (.ifCond .eq 6, 3) := by decide +kernel
theorem dX4_passWeek_22 : decode cX4_passWeek 22 = .ok (.goto 80, 3) := by decide +kernel
theorem dX4_passWeek_25 : decode cX4_passWeek 25 = .ok (.aload_n 0, 1) := by decide +kernel
theorem dX4_passWeek_26 : decode cX4_passWeek 26 = .ok (.iload 5, 2) := by decide +kernel
theorem dX4_passWeek_28 : decode cX4_passWeek 28 = .ok (.aload_n 1, 1) := by decide +kernel
theorem dX4_passWeek_29 : decode cX4_passWeek 29 = .ok (.invokevirtual 79, 3) := by decide +kernel
theorem dX4_passWeek_32 : decode cX4_passWeek 32 = .ok (.aload_n 0, 1) := by decide +kernel
theorem dX4_passWeek_33 : decode cX4_passWeek 33 = .ok (.getfield 34, 3) := by decide +kernel
theorem dX4_passWeek_36 : decode cX4_passWeek 36 = .ok (.iload 5, 2) := by decide +kernel
theorem dX4_passWeek_38 : decode cX4_passWeek 38 = .ok (.dup2, 1) := by decide +kernel
theorem dX4_passWeek_39 : decode cX4_passWeek 39 = .ok (.iaload, 1) := by decide +kernel
theorem dX4_passWeek_40 : decode cX4_passWeek 40 = .ok (.iconst 1, 1) := by decide +kernel
theorem dX4_passWeek_41 : decode cX4_passWeek 41 = .ok (.iadd, 1) := by decide +kernel
theorem dX4_passWeek_42 : decode cX4_passWeek 42 = .ok (.iastore, 1) := by decide +kernel
theorem dX4_passWeek_43 : decode cX4_passWeek 43 = .ok (.iload 4, 2) := by decide +kernel
theorem dX4_passWeek_45 : decode cX4_passWeek 45 = .ok (.aload_n 0, 1) := by decide +kernel
theorem dX4_passWeek_46 : decode cX4_passWeek 46 = .ok (.getfield 22, 3) := by decide +kernel
theorem dX4_passWeek_49 : decode cX4_passWeek 49 = .ok (.iload 5, 2) := by decide +kernel
theorem dX4_passWeek_51 : decode cX4_passWeek 51 = .ok (.iaload, 1) := by decide +kernel
theorem dX4_passWeek_52 : decode cX4_passWeek 52 = .ok (.ishr, 1) := by decide +kernel
theorem dX4_passWeek_53 : decode cX4_passWeek 53 = .ok (.iconst 1, 1) := by decide +kernel
theorem dX4_passWeek_54 : decode cX4_passWeek 54 = .ok (.iand, 1) := by decide +kernel
theorem dX4_passWeek_55 : decode cX4_passWeek 55 = .ok (.ifCond .ne 6, 3) := by decide +kernel
theorem dX4_passWeek_58 : decode cX4_passWeek 58 = .ok (.goto 44, 3) := by decide +kernel
theorem dX4_passWeek_61 : decode cX4_passWeek 61 = .ok (.aload_n 0, 1) := by decide +kernel
theorem dX4_passWeek_62 : decode cX4_passWeek 62 = .ok (.iload 5, 2) := by decide +kernel
theorem dX4_passWeek_64 : decode cX4_passWeek 64 = .ok (.aload_n 0, 1) := by decide +kernel
theorem dX4_passWeek_65 : decode cX4_passWeek 65 = .ok (.getfield 34, 3) := by decide +kernel
theorem dX4_passWeek_68 : decode cX4_passWeek 68 = .ok (.iload 5, 2) := by decide +kernel
theorem dX4_passWeek_70 : decode cX4_passWeek 70 = .ok (.iaload, 1) := by decide +kernel
theorem dX4_passWeek_71 : decode cX4_passWeek 71 = .ok (.aload_n 0, 1) := by decide +kernel
theorem dX4_passWeek_72 : decode cX4_passWeek 72 = .ok (.getfield 15, 3) := by decide +kernel
theorem dX4_passWeek_75 : decode cX4_passWeek 75 = .ok (.aload_n 2, 1) := by decide +kernel
theorem dX4_passWeek_76 : decode cX4_passWeek 76 = .ok (.iload_n 3, 1) := by decide +kernel
theorem dX4_passWeek_77 : decode cX4_passWeek 77 = .ok (.invokevirtual 83, 3) := by decide +kernel
theorem dX4_passWeek_80 : decode cX4_passWeek 80 = .ok (.ifCond .eq 14, 3) := by decide +kernel
theorem dX4_passWeek_83 : decode cX4_passWeek 83 = .ok (.aload_n 0, 1) := by decide +kernel
theorem dX4_passWeek_84 : decode cX4_passWeek 84 = .ok (.getfield 43, 3) := by decide +kernel
theorem dX4_passWeek_87 : decode cX4_passWeek 87 = .ok (.iload 5, 2) := by decide +kernel
theorem dX4_passWeek_89 : decode cX4_passWeek 89 = .ok (.iconst 1, 1) := by decide +kernel
theorem dX4_passWeek_90 : decode cX4_passWeek 90 = .ok (.iastore, 1) := by decide +kernel
theorem dX4_passWeek_91 : decode cX4_passWeek 91 = .ok (.goto 11, 3) := by decide +kernel
theorem dX4_passWeek_94 : decode cX4_passWeek 94 = .ok (.aload_n 0, 1) := by decide +kernel
theorem dX4_passWeek_95 : decode cX4_passWeek 95 = .ok (.getfield 40, 3) := by decide +kernel
theorem dX4_passWeek_98 : decode cX4_passWeek 98 = .ok (.iload 5, 2) := by decide +kernel
theorem dX4_passWeek_100 : decode cX4_passWeek 100 = .ok (.iconst 1, 1) := by decide +kernel
theorem dX4_passWeek_101 : decode cX4_passWeek 101 = .ok (.iastore, 1) := by decide +kernel
theorem dX4_passWeek_102 : decode cX4_passWeek 102 = .ok (.iinc 5 1, 3) := by decide +kernel
theorem dX4_passWeek_105 : decode cX4_passWeek 105 = .ok (.goto (-102), 3) := by decide +kernel
theorem dX4_passWeek_108 : decode cX4_passWeek 108 = .ok (.aload_n 0, 1) := by decide +kernel
theorem dX4_passWeek_109 : decode cX4_passWeek 109 = .ok (.dup, 1) := by decide +kernel
theorem dX4_passWeek_110 : decode cX4_passWeek 110 = .ok (.getfield 15, 3) := by decide +kernel
theorem dX4_passWeek_113 : decode cX4_passWeek 113 = .ok (.iconst 1, 1) := by decide +kernel
theorem dX4_passWeek_114 : decode cX4_passWeek 114 = .ok (.iadd, 1) := by decide +kernel
theorem dX4_passWeek_115 : decode cX4_passWeek 115 = .ok (.putfield 15, 3) := by decide +kernel
theorem dX4_passWeek_118 : decode cX4_passWeek 118 = .ok (.return_, 1) := by decide +kernel
set_option maxRecDepth 20000 in
theorem ggX4_sell_X4_shortIn : GoodIn wsX4_sell wsX4_shortIn := goodIn_r _ [9, 10, 11, 12, 13, 14, 15, 16, 8, 17, 18, 19, 20, 21, 22, 23, 24, 25, 26, 27, 28, 29, 30, 31, 32, 33, 34, 35, 36, 37, 38, 39, 40] (by decide +kernel) (by decide +kernel)
set_option maxRecDepth 20000 in
theorem gX4_sell_X4_shortIn : GoodIn wsX4_sell (wsV RX4 87 RX4 yX4_shortIn wsX4_shortIn) := goodIn_app (goodIn_of _ (by decide +kernel)) ggX4_sell_X4_shortIn
theorem dX4_sell_0 : decode cX4_sell 0 = .ok (.aload_n 0, 1) := by decide +kernel
theorem dX4_sell_1 : decode cX4_sell 1 = .ok (.iload_n 1, 1) := by decide +kernel
theorem dX4_sell_2 : decode cX4_sell 2 = .ok (.aload_n 0, 1) := by decide +kernel
theorem dX4_sell_3 : decode cX4_sell 3 = .ok (.getfield 34, 3) := by decide +kernel
theorem dX4_sell_6 : decode cX4_sell 6 = .ok (.iload_n 1, 1) := by decide +kernel
theorem dX4_sell_7 : decode cX4_sell 7 = .ok (.iaload, 1) := by decide +kernel
theorem dX4_sell_8 : decode cX4_sell 8 = .ok (.aload_n 2, 1) := by decide +kernel
theorem dX4_sell_9 : decode cX4_sell 9 = .ok (.invokevirtual 87, 3) := by decide +kernel
theorem dX4_sell_12 : decode cX4_sell 12 = .ok (.lstore_n 3, 1) := by decide +kernel
theorem dX4_sell_13 : decode cX4_sell 13 = .ok (.lload_n 3, 1) := by decide +kernel
theorem dX4_sell_14 : decode cX4_sell 14 = .ok (.lconst 0, 1) := by decide +kernel
theorem dX4_sell_15 : decode cX4_sell 15 = .ok (.lcmp, 1) := by decide +kernel
theorem dX4_sell_16 : decode cX4_sell 16 = .ok (.ifCond .le 21, 3) := by decide +kernel
theorem dX4_sell_19 : decode cX4_sell 19 = .ok (.aload_n 0, 1) := by decide +kernel
theorem dX4_sell_20 : decode cX4_sell 20 = .ok (.getfield 46, 3) := by decide +kernel
theorem dX4_sell_23 : decode cX4_sell 23 = .ok (.aload_n 0, 1) := by decide +kernel
theorem dX4_sell_24 : decode cX4_sell 24 = .ok (.getfield 22, 3) := by decide +kernel
theorem dX4_sell_27 : decode cX4_sell 27 = .ok (.iload_n 1, 1) := by decide +kernel
theorem dX4_sell_28 : decode cX4_sell 28 = .ok (.iaload, 1) := by decide +kernel
theorem dX4_sell_29 : decode cX4_sell 29 = .ok (.dup2, 1) := by decide +kernel
theorem dX4_sell_30 : decode cX4_sell 30 = .ok (.laload, 1) := by decide +kernel
theorem dX4_sell_31 : decode cX4_sell 31 = .ok (.lload_n 3, 1) := by decide +kernel
theorem dX4_sell_32 : decode cX4_sell 32 = .ok (.ladd, 1) := by decide +kernel
theorem dX4_sell_33 : decode cX4_sell 33 = .ok (.lastore, 1) := by decide +kernel
theorem dX4_sell_34 : decode cX4_sell 34 = .ok (.goto 18, 3) := by decide +kernel
theorem dX4_sell_37 : decode cX4_sell 37 = .ok (.aload_n 0, 1) := by decide +kernel
theorem dX4_sell_38 : decode cX4_sell 38 = .ok (.getfield 50, 3) := by decide +kernel
theorem dX4_sell_41 : decode cX4_sell 41 = .ok (.aload_n 0, 1) := by decide +kernel
theorem dX4_sell_42 : decode cX4_sell 42 = .ok (.getfield 22, 3) := by decide +kernel
theorem dX4_sell_45 : decode cX4_sell 45 = .ok (.iload_n 1, 1) := by decide +kernel
theorem dX4_sell_46 : decode cX4_sell 46 = .ok (.iaload, 1) := by decide +kernel
theorem dX4_sell_47 : decode cX4_sell 47 = .ok (.dup2, 1) := by decide +kernel
theorem dX4_sell_48 : decode cX4_sell 48 = .ok (.laload, 1) := by decide +kernel
theorem dX4_sell_49 : decode cX4_sell 49 = .ok (.lload_n 3, 1) := by decide +kernel
theorem dX4_sell_50 : decode cX4_sell 50 = .ok (.lsub, 1) := by decide +kernel
theorem dX4_sell_51 : decode cX4_sell 51 = .ok (.lastore, 1) := by decide +kernel
theorem dX4_sell_52 : decode cX4_sell 52 = .ok (.return_, 1) := by decide +kernel
set_option maxRecDepth 20000 in
theorem ggX4_falseSince_X4_offAfter : GoodIn wsX4_falseSince wsX4_offAfter := goodIn_r _ [12, 13, 14, 15, 16, 5, 17, 18, 19, 20, 21, 22, 23, 24, 25, 26, 27, 28, 29, 30] (by decide +kernel) (by decide +kernel)
set_option maxRecDepth 20000 in
theorem gX4_falseSince_X4_offAfter : GoodIn wsX4_falseSince (wsV RX4 64 RX4 yX4_offAfter wsX4_offAfter) := goodIn_app (goodIn_of _ (by decide +kernel)) ggX4_falseSince_X4_offAfter
theorem dX4_falseSince_0 : decode cX4_falseSince 0 = .ok (.aload_n 0, 1) := by decide +kernel
theorem dX4_falseSince_1 : decode cX4_falseSince 1 = .ok (.getfield 37, 3) := by decide +kernel
theorem dX4_falseSince_4 : decode cX4_falseSince 4 = .ok (.iload_n 1, 1) := by decide +kernel
theorem dX4_falseSince_5 : decode cX4_falseSince 5 = .ok (.iaload, 1) := by decide +kernel
theorem dX4_falseSince_6 : decode cX4_falseSince 6 = .ok (.iconst 1, 1) := by decide +kernel
theorem dX4_falseSince_7 : decode cX4_falseSince 7 = .ok (.if_icmp .ge 7, 3) := by decide +kernel
theorem dX4_falseSince_10 : decode cX4_falseSince 10 = .ok (.sipush (-1000), 3) := by decide +kernel
theorem dX4_falseSince_13 : decode cX4_falseSince 13 = .ok (.ireturn, 1) := by decide +kernel
theorem dX4_falseSince_14 : decode cX4_falseSince 14 = .ok (.iconst 0, 1) := by decide +kernel
theorem dX4_falseSince_15 : decode cX4_falseSince 15 = .ok (.istore_n 3, 1) := by decide +kernel
theorem dX4_falseSince_16 : decode cX4_falseSince 16 = .ok (.iload_n 3, 1) := by decide +kernel
theorem dX4_falseSince_17 : decode cX4_falseSince 17 = .ok (.aload_n 0, 1) := by decide +kernel
theorem dX4_falseSince_18 : decode cX4_falseSince 18 = .ok (.getfield 34, 3) := by decide +kernel
theorem dX4_falseSince_21 : decode cX4_falseSince 21 = .ok (.iload_n 1, 1) := by decide +kernel
theorem dX4_falseSince_22 : decode cX4_falseSince 22 = .ok (.iaload, 1) := by decide +kernel
theorem dX4_falseSince_23 : decode cX4_falseSince 23 = .ok (.if_icmp .ge 31, 3) := by decide +kernel
theorem dX4_falseSince_26 : decode cX4_falseSince 26 = .ok (.aload_n 0, 1) := by decide +kernel
theorem dX4_falseSince_27 : decode cX4_falseSince 27 = .ok (.iload_n 1, 1) := by decide +kernel
theorem dX4_falseSince_28 : decode cX4_falseSince 28 = .ok (.iload_n 3, 1) := by decide +kernel
theorem dX4_falseSince_29 : decode cX4_falseSince 29 = .ok (.invokevirtual 64, 3) := by decide +kernel
theorem dX4_falseSince_32 : decode cX4_falseSince 32 = .ok (.invokestatic 69, 3) := by decide +kernel
theorem dX4_falseSince_35 : decode cX4_falseSince 35 = .ok (.iload_n 2, 1) := by decide +kernel
theorem dX4_falseSince_36 : decode cX4_falseSince 36 = .ok (.if_icmp .le 12, 3) := by decide +kernel
theorem dX4_falseSince_39 : decode cX4_falseSince 39 = .ok (.aload_n 0, 1) := by decide +kernel
theorem dX4_falseSince_40 : decode cX4_falseSince 40 = .ok (.getfield 31, 3) := by decide +kernel
theorem dX4_falseSince_43 : decode cX4_falseSince 43 = .ok (.iload_n 1, 1) := by decide +kernel
theorem dX4_falseSince_44 : decode cX4_falseSince 44 = .ok (.iaload, 1) := by decide +kernel
theorem dX4_falseSince_45 : decode cX4_falseSince 45 = .ok (.iload_n 3, 1) := by decide +kernel
theorem dX4_falseSince_46 : decode cX4_falseSince 46 = .ok (.iadd, 1) := by decide +kernel
theorem dX4_falseSince_47 : decode cX4_falseSince 47 = .ok (.ireturn, 1) := by decide +kernel
theorem dX4_falseSince_48 : decode cX4_falseSince 48 = .ok (.iinc 3 1, 3) := by decide +kernel
theorem dX4_falseSince_51 : decode cX4_falseSince 51 = .ok (.goto (-35), 3) := by decide +kernel
theorem dX4_falseSince_54 : decode cX4_falseSince 54 = .ok (.sipush (-1000), 3) := by decide +kernel
theorem dX4_falseSince_57 : decode cX4_falseSince 57 = .ok (.ireturn, 1) := by decide +kernel
theorem dX4_copyFrom_0 : decode cX4_copyFrom 0 = .ok (.aload_n 0, 1) := by decide +kernel
theorem dX4_copyFrom_1 : decode cX4_copyFrom 1 = .ok (.aload_n 1, 1) := by decide +kernel
theorem dX4_copyFrom_2 : decode cX4_copyFrom 2 = .ok (.getfield 9, 3) := by decide +kernel
theorem dX4_copyFrom_5 : decode cX4_copyFrom 5 = .ok (.putfield 9, 3) := by decide +kernel
theorem dX4_copyFrom_8 : decode cX4_copyFrom 8 = .ok (.aload_n 0, 1) := by decide +kernel
theorem dX4_copyFrom_9 : decode cX4_copyFrom 9 = .ok (.aload_n 1, 1) := by decide +kernel
theorem dX4_copyFrom_10 : decode cX4_copyFrom 10 = .ok (.getfield 15, 3) := by decide +kernel
theorem dX4_copyFrom_13 : decode cX4_copyFrom 13 = .ok (.putfield 15, 3) := by decide +kernel
theorem dX4_copyFrom_16 : decode cX4_copyFrom 16 = .ok (.aload_n 1, 1) := by decide +kernel
theorem dX4_copyFrom_17 : decode cX4_copyFrom 17 = .ok (.getfield 18, 3) := by decide +kernel
theorem dX4_copyFrom_20 : decode cX4_copyFrom 20 = .ok (.iconst 0, 1) := by decide +kernel
theorem dX4_copyFrom_21 : decode cX4_copyFrom 21 = .ok (.aload_n 0, 1) := by decide +kernel
theorem dX4_copyFrom_22 : decode cX4_copyFrom 22 = .ok (.getfield 18, 3) := by decide +kernel
theorem dX4_copyFrom_25 : decode cX4_copyFrom 25 = .ok (.iconst 0, 1) := by decide +kernel
theorem dX4_copyFrom_26 : decode cX4_copyFrom 26 = .ok (.bipush 12, 2) := by decide +kernel
theorem dX4_copyFrom_28 : decode cX4_copyFrom 28 = .ok (.invokestatic 91, 3) := by decide +kernel
theorem dX4_copyFrom_31 : decode cX4_copyFrom 31 = .ok (.aload_n 1, 1) := by decide +kernel
theorem dX4_copyFrom_32 : decode cX4_copyFrom 32 = .ok (.getfield 22, 3) := by decide +kernel
theorem dX4_copyFrom_35 : decode cX4_copyFrom 35 = .ok (.iconst 0, 1) := by decide +kernel
theorem dX4_copyFrom_36 : decode cX4_copyFrom 36 = .ok (.aload_n 0, 1) := by decide +kernel
theorem dX4_copyFrom_37 : decode cX4_copyFrom 37 = .ok (.getfield 22, 3) := by decide +kernel
theorem dX4_copyFrom_40 : decode cX4_copyFrom 40 = .ok (.iconst 0, 1) := by decide +kernel
theorem dX4_copyFrom_41 : decode cX4_copyFrom 41 = .ok (.bipush 12, 2) := by decide +kernel
theorem dX4_copyFrom_43 : decode cX4_copyFrom 43 = .ok (.invokestatic 91, 3) := by decide +kernel
theorem dX4_copyFrom_46 : decode cX4_copyFrom 46 = .ok (.aload_n 1, 1) := by decide +kernel
theorem dX4_copyFrom_47 : decode cX4_copyFrom 47 = .ok (.getfield 25, 3) := by decide +kernel
theorem dX4_copyFrom_50 : decode cX4_copyFrom 50 = .ok (.iconst 0, 1) := by decide +kernel
theorem dX4_copyFrom_51 : decode cX4_copyFrom 51 = .ok (.aload_n 0, 1) := by decide +kernel
theorem dX4_copyFrom_52 : decode cX4_copyFrom 52 = .ok (.getfield 25, 3) := by decide +kernel
theorem dX4_copyFrom_55 : decode cX4_copyFrom 55 = .ok (.iconst 0, 1) := by decide +kernel
theorem dX4_copyFrom_56 : decode cX4_copyFrom 56 = .ok (.bipush 12, 2) := by decide +kernel
theorem dX4_copyFrom_58 : decode cX4_copyFrom 58 = .ok (.invokestatic 91, 3) := by decide +kernel
theorem dX4_copyFrom_61 : decode cX4_copyFrom 61 = .ok (.aload_n 1, 1) := by decide +kernel
theorem dX4_copyFrom_62 : decode cX4_copyFrom 62 = .ok (.getfield 28, 3) := by decide +kernel
theorem dX4_copyFrom_65 : decode cX4_copyFrom 65 = .ok (.iconst 0, 1) := by decide +kernel
theorem dX4_copyFrom_66 : decode cX4_copyFrom 66 = .ok (.aload_n 0, 1) := by decide +kernel
theorem dX4_copyFrom_67 : decode cX4_copyFrom 67 = .ok (.getfield 28, 3) := by decide +kernel
theorem dX4_copyFrom_70 : decode cX4_copyFrom 70 = .ok (.iconst 0, 1) := by decide +kernel
theorem dX4_copyFrom_71 : decode cX4_copyFrom 71 = .ok (.bipush 12, 2) := by decide +kernel
theorem dX4_copyFrom_73 : decode cX4_copyFrom 73 = .ok (.invokestatic 91, 3) := by decide +kernel
theorem dX4_copyFrom_76 : decode cX4_copyFrom 76 = .ok (.aload_n 1, 1) := by decide +kernel
theorem dX4_copyFrom_77 : decode cX4_copyFrom 77 = .ok (.getfield 31, 3) := by decide +kernel
theorem dX4_copyFrom_80 : decode cX4_copyFrom 80 = .ok (.iconst 0, 1) := by decide +kernel
theorem dX4_copyFrom_81 : decode cX4_copyFrom 81 = .ok (.aload_n 0, 1) := by decide +kernel
theorem dX4_copyFrom_82 : decode cX4_copyFrom 82 = .ok (.getfield 31, 3) := by decide +kernel
theorem dX4_copyFrom_85 : decode cX4_copyFrom 85 = .ok (.iconst 0, 1) := by decide +kernel
theorem dX4_copyFrom_86 : decode cX4_copyFrom 86 = .ok (.bipush 12, 2) := by decide +kernel
theorem dX4_copyFrom_88 : decode cX4_copyFrom 88 = .ok (.invokestatic 91, 3) := by decide +kernel
theorem dX4_copyFrom_91 : decode cX4_copyFrom 91 = .ok (.aload_n 1, 1) := by decide +kernel
theorem dX4_copyFrom_92 : decode cX4_copyFrom 92 = .ok (.getfield 34, 3) := by decide +kernel
theorem dX4_copyFrom_95 : decode cX4_copyFrom 95 = .ok (.iconst 0, 1) := by decide +kernel
theorem dX4_copyFrom_96 : decode cX4_copyFrom 96 = .ok (.aload_n 0, 1) := by decide +kernel
theorem dX4_copyFrom_97 : decode cX4_copyFrom 97 = .ok (.getfield 34, 3) := by decide +kernel
theorem dX4_copyFrom_100 : decode cX4_copyFrom 100 = .ok (.iconst 0, 1) := by decide +kernel
theorem dX4_copyFrom_101 : decode cX4_copyFrom 101 = .ok (.bipush 12, 2) := by decide +kernel
theorem dX4_copyFrom_103 : decode cX4_copyFrom 103 = .ok (.invokestatic 91, 3) := by decide +kernel
theorem dX4_copyFrom_106 : decode cX4_copyFrom 106 = .ok (.aload_n 1, 1) := by decide +kernel
theorem dX4_copyFrom_107 : decode cX4_copyFrom 107 = .ok (.getfield 37, 3) := by decide +kernel
theorem dX4_copyFrom_110 : decode cX4_copyFrom 110 = .ok (.iconst 0, 1) := by decide +kernel
theorem dX4_copyFrom_111 : decode cX4_copyFrom 111 = .ok (.aload_n 0, 1) := by decide +kernel
theorem dX4_copyFrom_112 : decode cX4_copyFrom 112 = .ok (.getfield 37, 3) := by decide +kernel
theorem dX4_copyFrom_115 : decode cX4_copyFrom 115 = .ok (.iconst 0, 1) := by decide +kernel
theorem dX4_copyFrom_116 : decode cX4_copyFrom 116 = .ok (.bipush 12, 2) := by decide +kernel
theorem dX4_copyFrom_118 : decode cX4_copyFrom 118 = .ok (.invokestatic 91, 3) := by decide +kernel
theorem dX4_copyFrom_121 : decode cX4_copyFrom 121 = .ok (.aload_n 1, 1) := by decide +kernel
theorem dX4_copyFrom_122 : decode cX4_copyFrom 122 = .ok (.getfield 40, 3) := by decide +kernel
theorem dX4_copyFrom_125 : decode cX4_copyFrom 125 = .ok (.iconst 0, 1) := by decide +kernel
theorem dX4_copyFrom_126 : decode cX4_copyFrom 126 = .ok (.aload_n 0, 1) := by decide +kernel
theorem dX4_copyFrom_127 : decode cX4_copyFrom 127 = .ok (.getfield 40, 3) := by decide +kernel
theorem dX4_copyFrom_130 : decode cX4_copyFrom 130 = .ok (.iconst 0, 1) := by decide +kernel
theorem dX4_copyFrom_131 : decode cX4_copyFrom 131 = .ok (.bipush 12, 2) := by decide +kernel
theorem dX4_copyFrom_133 : decode cX4_copyFrom 133 = .ok (.invokestatic 91, 3) := by decide +kernel
theorem dX4_copyFrom_136 : decode cX4_copyFrom 136 = .ok (.aload_n 1, 1) := by decide +kernel
theorem dX4_copyFrom_137 : decode cX4_copyFrom 137 = .ok (.getfield 43, 3) := by decide +kernel
theorem dX4_copyFrom_140 : decode cX4_copyFrom 140 = .ok (.iconst 0, 1) := by decide +kernel
theorem dX4_copyFrom_141 : decode cX4_copyFrom 141 = .ok (.aload_n 0, 1) := by decide +kernel
theorem dX4_copyFrom_142 : decode cX4_copyFrom 142 = .ok (.getfield 43, 3) := by decide +kernel
theorem dX4_copyFrom_145 : decode cX4_copyFrom 145 = .ok (.iconst 0, 1) := by decide +kernel
theorem dX4_copyFrom_146 : decode cX4_copyFrom 146 = .ok (.bipush 12, 2) := by decide +kernel
theorem dX4_copyFrom_148 : decode cX4_copyFrom 148 = .ok (.invokestatic 91, 3) := by decide +kernel
theorem dX4_copyFrom_151 : decode cX4_copyFrom 151 = .ok (.aload_n 1, 1) := by decide +kernel
theorem dX4_copyFrom_152 : decode cX4_copyFrom 152 = .ok (.getfield 46, 3) := by decide +kernel
theorem dX4_copyFrom_155 : decode cX4_copyFrom 155 = .ok (.iconst 0, 1) := by decide +kernel
theorem dX4_copyFrom_156 : decode cX4_copyFrom 156 = .ok (.aload_n 0, 1) := by decide +kernel
theorem dX4_copyFrom_157 : decode cX4_copyFrom 157 = .ok (.getfield 46, 3) := by decide +kernel
theorem dX4_copyFrom_160 : decode cX4_copyFrom 160 = .ok (.iconst 0, 1) := by decide +kernel
theorem dX4_copyFrom_161 : decode cX4_copyFrom 161 = .ok (.bipush 6, 2) := by decide +kernel
theorem dX4_copyFrom_163 : decode cX4_copyFrom 163 = .ok (.invokestatic 91, 3) := by decide +kernel
theorem dX4_copyFrom_166 : decode cX4_copyFrom 166 = .ok (.aload_n 1, 1) := by decide +kernel
theorem dX4_copyFrom_167 : decode cX4_copyFrom 167 = .ok (.getfield 50, 3) := by decide +kernel
theorem dX4_copyFrom_170 : decode cX4_copyFrom 170 = .ok (.iconst 0, 1) := by decide +kernel
theorem dX4_copyFrom_171 : decode cX4_copyFrom 171 = .ok (.aload_n 0, 1) := by decide +kernel
theorem dX4_copyFrom_172 : decode cX4_copyFrom 172 = .ok (.getfield 50, 3) := by decide +kernel
theorem dX4_copyFrom_175 : decode cX4_copyFrom 175 = .ok (.iconst 0, 1) := by decide +kernel
theorem dX4_copyFrom_176 : decode cX4_copyFrom 176 = .ok (.bipush 6, 2) := by decide +kernel
theorem dX4_copyFrom_178 : decode cX4_copyFrom 178 = .ok (.invokestatic 91, 3) := by decide +kernel
theorem dX4_copyFrom_181 : decode cX4_copyFrom 181 = .ok (.return_, 1) := by decide +kernel
theorem dX5_init_0 : decode cX5_init 0 = .ok (.aload_n 0, 1) := by decide +kernel
theorem dX5_init_1 : decode cX5_init 1 = .ok (.invokespecial 3, 3) := by decide +kernel
theorem dX5_init_4 : decode cX5_init 4 = .ok (.aload_n 0, 1) := by decide +kernel
theorem dX5_init_5 : decode cX5_init 5 = .ok (.sipush 300, 3) := by decide +kernel
theorem dX5_init_8 : decode cX5_init 8 = .ok (.newarray .int, 2) := by decide +kernel
theorem dX5_init_10 : decode cX5_init 10 = .ok (.putfield 11, 3) := by decide +kernel
theorem dX5_init_13 : decode cX5_init 13 = .ok (.aload_n 0, 1) := by decide +kernel
theorem dX5_init_14 : decode cX5_init 14 = .ok (.iconst 4, 1) := by decide +kernel
theorem dX5_init_15 : decode cX5_init 15 = .ok (.newarray .int, 2) := by decide +kernel
theorem dX5_init_17 : decode cX5_init 17 = .ok (.putfield 15, 3) := by decide +kernel
theorem dX5_init_20 : decode cX5_init 20 = .ok (.aload_n 0, 1) := by decide +kernel
theorem dX5_init_21 : decode cX5_init 21 = .ok (.iconst 0, 1) := by decide +kernel
theorem dX5_init_22 : decode cX5_init 22 = .ok (.putfield 18, 3) := by decide +kernel
theorem dX5_init_25 : decode cX5_init 25 = .ok (.aload_n 0, 1) := by decide +kernel
theorem dX5_init_26 : decode cX5_init 26 = .ok (.iconst 0, 1) := by decide +kernel
theorem dX5_init_27 : decode cX5_init 27 = .ok (.putfield 22, 3) := by decide +kernel
theorem dX5_init_30 : decode cX5_init 30 = .ok (.return_, 1) := by decide +kernel
theorem dX5_add_0 : decode cX5_add 0 = .ok (.iload_n 1, 1) := by decide +kernel
theorem dX5_add_1 : decode cX5_add 1 = .ok (.iconst 1, 1) := by decide +kernel
theorem dX5_add_2 : decode cX5_add 2 = .ok (.isub, 1) := by decide +kernel
theorem dX5_add_3 : decode cX5_add 3 = .ok (.istore 4, 2) := by decide +kernel
theorem dX5_add_5 : decode cX5_add 5 = .ok (.iload 4, 2) := by decide +kernel
theorem dX5_add_7 : decode cX5_add 7 = .ok (.ifCond .lt 40, 3) := by decide +kernel
theorem dX5_add_10 : decode cX5_add 10 = .ok (.aload_n 0, 1) := by decide +kernel
theorem dX5_add_11 : decode cX5_add 11 = .ok (.getfield 11, 3) := by decide +kernel
theorem dX5_add_14 : decode cX5_add 14 = .ok (.aload_n 0, 1) := by decide +kernel
theorem dX5_add_15 : decode cX5_add 15 = .ok (.getfield 22, 3) := by decide +kernel
theorem dX5_add_18 : decode cX5_add 18 = .ok (.lload_n 2, 1) := by decide +kernel
theorem dX5_add_19 : decode cX5_add 19 = .ok (.bipush 8, 2) := by decide +kernel
theorem dX5_add_21 : decode cX5_add 21 = .ok (.iload 4, 2) := by decide +kernel
theorem dX5_add_23 : decode cX5_add 23 = .ok (.imul, 1) := by decide +kernel
theorem dX5_add_24 : decode cX5_add 24 = .ok (.lushr, 1) := by decide +kernel
theorem dX5_add_25 : decode cX5_add 25 = .ok (.ldc2_w 25, 3) := by decide +kernel
theorem dX5_add_28 : decode cX5_add 28 = .ok (.land, 1) := by decide +kernel
theorem dX5_add_29 : decode cX5_add 29 = .ok (.l2i, 1) := by decide +kernel
theorem dX5_add_30 : decode cX5_add 30 = .ok (.iastore, 1) := by decide +kernel
theorem dX5_add_31 : decode cX5_add 31 = .ok (.aload_n 0, 1) := by decide +kernel
theorem dX5_add_32 : decode cX5_add 32 = .ok (.dup, 1) := by decide +kernel
theorem dX5_add_33 : decode cX5_add 33 = .ok (.getfield 22, 3) := by decide +kernel
theorem dX5_add_36 : decode cX5_add 36 = .ok (.iconst 1, 1) := by decide +kernel
theorem dX5_add_37 : decode cX5_add 37 = .ok (.iadd, 1) := by decide +kernel
theorem dX5_add_38 : decode cX5_add 38 = .ok (.putfield 22, 3) := by decide +kernel
theorem dX5_add_41 : decode cX5_add 41 = .ok (.iinc 4 (-1), 3) := by decide +kernel
theorem dX5_add_44 : decode cX5_add 44 = .ok (.goto (-39), 3) := by decide +kernel
theorem dX5_add_47 : decode cX5_add 47 = .ok (.aload_n 0, 1) := by decide +kernel
theorem dX5_add_48 : decode cX5_add 48 = .ok (.getfield 22, 3) := by decide +kernel
theorem dX5_add_51 : decode cX5_add 51 = .ok (.ireturn, 1) := by decide +kernel
set_option maxRecDepth 20000 in
theorem ggX5_firstFault_X5_readItem : GoodIn wsX5_firstFault wsX5_readItem := goodIn_r _ [6, 7, 8, 9, 10, 5, 11, 1, 12, 13, 14, 15, 16, 17, 18, 19, 20, 21, 22, 23, 24, 25, 26, 27, 28, 29, 30, 31, 32, 33] (by decide +kernel) (by decide +kernel)
set_option maxRecDepth 20000 in
theorem gX5_firstFault_X5_readItem : GoodIn wsX5_firstFault (wsV RX5 27 RX5 yX5_readItem wsX5_readItem) := goodIn_app (goodIn_of _ (by decide +kernel)) ggX5_firstFault_X5_readItem
theorem dX5_firstFault_0 : decode cX5_firstFault 0 = .ok (.iconst 0, 1) := by decide +kernel
theorem dX5_firstFault_1 : decode cX5_firstFault 1 = .ok (.istore_n 1, 1) := by decide +kernel
theorem dX5_firstFault_2 : decode cX5_firstFault 2 = .ok (.iconst 0, 1) := by decide +kernel
theorem dX5_firstFault_3 : decode cX5_firstFault 3 = .ok (.istore_n 2, 1) := by decide +kernel
theorem dX5_firstFault_4 : decode cX5_firstFault 4 = .ok (.iload_n 2, 1) := by decide +kernel
theorem dX5_firstFault_5 : decode cX5_firstFault 5 = .ok (.sipush 300, 3) := by decide +kernel
theorem dX5_firstFault_8 : decode cX5_firstFault 8 = .ok (.if_icmp .ge 32, 3) := by decide +kernel
theorem dX5_firstFault_11 : decode cX5_firstFault 11 = .ok (.iload_n 1, 1) := by decide +kernel
theorem dX5_firstFault_12 : decode cX5_firstFault 12 = .ok (.aload_n 0, 1) := by decide +kernel
theorem dX5_firstFault_13 : decode cX5_firstFault 13 = .ok (.getfield 22, 3) := by decide +kernel
theorem dX5_firstFault_16 : decode cX5_firstFault 16 = .ok (.if_icmp .ge 24, 3) := by decide +kernel
theorem dX5_firstFault_19 : decode cX5_firstFault 19 = .ok (.aload_n 0, 1) := by decide +kernel
theorem dX5_firstFault_20 : decode cX5_firstFault 20 = .ok (.iload_n 1, 1) := by decide +kernel
theorem dX5_firstFault_21 : decode cX5_firstFault 21 = .ok (.invokevirtual 27, 3) := by decide +kernel
theorem dX5_firstFault_24 : decode cX5_firstFault 24 = .ok (.istore_n 3, 1) := by decide +kernel
theorem dX5_firstFault_25 : decode cX5_firstFault 25 = .ok (.iload_n 3, 1) := by decide +kernel
theorem dX5_firstFault_26 : decode cX5_firstFault 26 = .ok (.iconst (-1), 1) := by decide +kernel
theorem dX5_firstFault_27 : decode cX5_firstFault 27 = .ok (.if_icmp .ne 5, 3) := by decide +kernel
theorem dX5_firstFault_30 : decode cX5_firstFault 30 = .ok (.iload_n 1, 1) := by decide +kernel
theorem dX5_firstFault_31 : decode cX5_firstFault 31 = .ok (.ireturn, 1) := by decide +kernel
theorem dX5_firstFault_32 : decode cX5_firstFault 32 = .ok (.iload_n 3, 1) := by decide +kernel
theorem dX5_firstFault_33 : decode cX5_firstFault 33 = .ok (.istore_n 1, 1) := by decide +kernel
theorem dX5_firstFault_34 : decode cX5_firstFault 34 = .ok (.iinc 2 1, 3) := by decide +kernel
theorem dX5_firstFault_37 : decode cX5_firstFault 37 = .ok (.goto (-33), 3) := by decide +kernel
theorem dX5_firstFault_40 : decode cX5_firstFault 40 = .ok (.bipush (-4), 2) := by decide +kernel
theorem dX5_firstFault_42 : decode cX5_firstFault 42 = .ok (.ireturn, 1) := by decide +kernel
set_option maxRecDepth 20000 in
theorem ggX5_readItem_X5_byteAt : GoodIn wsX5_readItem wsX5_byteAt := goodIn_r _ [6, 7, 8, 26, 27, 28, 29] (by decide +kernel) (by decide +kernel)
set_option maxRecDepth 20000 in
theorem gX5_readItem_X5_byteAt : GoodIn wsX5_readItem (wsV RX5 31 RX5 yX5_byteAt wsX5_byteAt) := goodIn_app (goodIn_of _ (by decide +kernel)) ggX5_readItem_X5_byteAt
set_option maxRecDepth 20000 in
theorem ggX5_readItem_X5_readNumber : GoodIn wsX5_readItem wsX5_readNumber := goodIn_r _ [12, 13, 2, 3, 4, 5, 6, 7, 8, 26, 27, 28, 29] (by decide +kernel) (by decide +kernel)
set_option maxRecDepth 20000 in
theorem gX5_readItem_X5_readNumber : GoodIn wsX5_readItem (wsV RX5 34 RX5 yX5_readNumber wsX5_readNumber) := goodIn_app (goodIn_of _ (by decide +kernel)) ggX5_readItem_X5_readNumber
set_option maxRecDepth 20000 in
theorem ggX5_readItem_X5_isSound : GoodIn wsX5_readItem wsX5_isSound := goodIn_r _ [17, 1, 13, 18, 19, 20, 21, 22, 23, 24, 25, 26, 27, 28, 29] (by decide +kernel) (by decide +kernel)
set_option maxRecDepth 20000 in
theorem gX5_readItem_X5_isSound : GoodIn wsX5_readItem (wsV RX5 38 RX5 yX5_isSound wsX5_isSound) := goodIn_app (goodIn_of _ (by decide +kernel)) ggX5_readItem_X5_isSound
theorem dX5_readItem_0 : decode cX5_readItem 0 = .ok (.aload_n 0, 1) := by decide +kernel
theorem dX5_readItem_1 : decode cX5_readItem 1 = .ok (.aload_n 0, 1) := by decide +kernel
theorem dX5_readItem_2 : decode cX5_readItem 2 = .ok (.iload_n 1, 1) := by decide +kernel
theorem dX5_readItem_3 : decode cX5_readItem 3 = .ok (.invokevirtual 31, 3) := by decide +kernel
theorem dX5_readItem_6 : decode cX5_readItem 6 = .ok (.putfield 18, 3) := by decide +kernel
theorem dX5_readItem_9 : decode cX5_readItem 9 = .ok (.iload_n 1, 1) := by decide +kernel
theorem dX5_readItem_10 : decode cX5_readItem 10 = .ok (.iconst 1, 1) := by decide +kernel
theorem dX5_readItem_11 : decode cX5_readItem 11 = .ok (.iadd, 1) := by decide +kernel
theorem dX5_readItem_12 : decode cX5_readItem 12 = .ok (.istore_n 2, 1) := by decide +kernel
theorem dX5_readItem_13 : decode cX5_readItem 13 = .ok (.iconst 0, 1) := by decide +kernel
theorem dX5_readItem_14 : decode cX5_readItem 14 = .ok (.istore_n 3, 1) := by decide +kernel
theorem dX5_readItem_15 : decode cX5_readItem 15 = .ok (.iload_n 3, 1) := by decide +kernel
theorem dX5_readItem_16 : decode cX5_readItem 16 = .ok (.iconst 4, 1) := by decide +kernel
theorem dX5_readItem_17 : decode cX5_readItem 17 = .ok (.if_icmp .ge 55, 3) := by decide +kernel
theorem dX5_readItem_20 : decode cX5_readItem 20 = .ok (.aload_n 0, 1) := by decide +kernel
theorem dX5_readItem_21 : decode cX5_readItem 21 = .ok (.iload_n 2, 1) := by decide +kernel
theorem dX5_readItem_22 : decode cX5_readItem 22 = .ok (.iload_n 3, 1) := by decide +kernel
theorem dX5_readItem_23 : decode cX5_readItem 23 = .ok (.invokevirtual 34, 3) := by decide +kernel
theorem dX5_readItem_26 : decode cX5_readItem 26 = .ok (.istore 4, 2) := by decide +kernel
theorem dX5_readItem_28 : decode cX5_readItem 28 = .ok (.iload 4, 2) := by decide +kernel
theorem dX5_readItem_30 : decode cX5_readItem 30 = .ok (.iconst (-1), 1) := by decide +kernel
theorem dX5_readItem_31 : decode cX5_readItem 31 = .ok (.if_icmp .ne 5, 3) := by decide +kernel
theorem dX5_readItem_34 : decode cX5_readItem 34 = .ok (.iconst (-1), 1) := by decide +kernel
theorem dX5_readItem_35 : decode cX5_readItem 35 = .ok (.ireturn, 1) := by decide +kernel
theorem dX5_readItem_36 : decode cX5_readItem 36 = .ok (.aload_n 0, 1) := by decide +kernel
theorem dX5_readItem_37 : decode cX5_readItem 37 = .ok (.iload 4, 2) := by decide +kernel
theorem dX5_readItem_39 : decode cX5_readItem 39 = .ok (.invokevirtual 31, 3) := by decide +kernel
theorem dX5_readItem_42 : decode cX5_readItem 42 = .ok (.iload_n 3, 1) := by decide +kernel
theorem dX5_readItem_43 : decode cX5_readItem 43 = .ok (.iconst 1, 1) := by decide +kernel
theorem dX5_readItem_44 : decode cX5_readItem 44 = .ok (.iadd, 1) := by decide +kernel
theorem dX5_readItem_45 : decode cX5_readItem 45 = .ok (.iconst 4, 1) := by decide +kernel
theorem dX5_readItem_46 : decode cX5_readItem 46 = .ok (.if_icmp .ge 8, 3) := by decide +kernel
theorem dX5_readItem_49 : decode cX5_readItem 49 = .ok (.bipush 44, 2) := by decide +kernel
theorem dX5_readItem_51 : decode cX5_readItem 51 = .ok (.goto 5, 3) := by decide +kernel
theorem dX5_readItem_54 : decode cX5_readItem 54 = .ok (.bipush 59, 2) := by decide +kernel
theorem dX5_readItem_56 : decode cX5_readItem 56 = .ok (.if_icmp .eq 5, 3) := by decide +kernel
theorem dX5_readItem_59 : decode cX5_readItem 59 = .ok (.iconst (-1), 1) := by decide +kernel
theorem dX5_readItem_60 : decode cX5_readItem 60 = .ok (.ireturn, 1) := by decide +kernel
theorem dX5_readItem_61 : decode cX5_readItem 61 = .ok (.iload 4, 2) := by decide +kernel
theorem dX5_readItem_63 : decode cX5_readItem 63 = .ok (.iconst 1, 1) := by decide +kernel
theorem dX5_readItem_64 : decode cX5_readItem 64 = .ok (.iadd, 1) := by decide +kernel
theorem dX5_readItem_65 : decode cX5_readItem 65 = .ok (.istore_n 2, 1) := by decide +kernel
theorem dX5_readItem_66 : decode cX5_readItem 66 = .ok (.iinc 3 1, 3) := by decide +kernel
theorem dX5_readItem_69 : decode cX5_readItem 69 = .ok (.goto (-54), 3) := by decide +kernel
