theorem dX0_init_0 : decode cX0_init 0 = .ok (.aload_n 0, 1) := by decide +kernel
theorem dX0_init_1 : decode cX0_init 1 = .ok (.invokespecial 5, 3) := by decide +kernel
theorem dX0_init_4 : decode cX0_init 4 = .ok (.aload_n 0, 1) := by decide +kernel
theorem dX0_init_5 : decode cX0_init 5 = .ok (.bipush 33, 2) := by decide +kernel
theorem dX0_init_7 : decode cX0_init 7 = .ok (.newarray .int, 2) := by decide +kernel
theorem dX0_init_9 : decode cX0_init 9 = .ok (.putfield 13, 3) := by decide +kernel
theorem dX0_init_12 : decode cX0_init 12 = .ok (.aload_n 0, 1) := by decide +kernel
theorem dX0_init_13 : decode cX0_init 13 = .ok (.bipush 33, 2) := by decide +kernel
theorem dX0_init_15 : decode cX0_init 15 = .ok (.newarray .int, 2) := by decide +kernel
theorem dX0_init_17 : decode cX0_init 17 = .ok (.putfield 17, 3) := by decide +kernel
theorem dX0_init_20 : decode cX0_init 20 = .ok (.aload_n 0, 1) := by decide +kernel
theorem dX0_init_21 : decode cX0_init 21 = .ok (.bipush 33, 2) := by decide +kernel
theorem dX0_init_23 : decode cX0_init 23 = .ok (.newarray .int, 2) := by decide +kernel
theorem dX0_init_25 : decode cX0_init 25 = .ok (.putfield 20, 3) := by decide +kernel
theorem dX0_init_28 : decode cX0_init 28 = .ok (.aload_n 0, 1) := by decide +kernel
theorem dX0_init_29 : decode cX0_init 29 = .ok (.bipush 33, 2) := by decide +kernel
theorem dX0_init_31 : decode cX0_init 31 = .ok (.newarray .int, 2) := by decide +kernel
theorem dX0_init_33 : decode cX0_init 33 = .ok (.putfield 23, 3) := by decide +kernel
theorem dX0_init_36 : decode cX0_init 36 = .ok (.aload_n 0, 1) := by decide +kernel
theorem dX0_init_37 : decode cX0_init 37 = .ok (.bipush 33, 2) := by decide +kernel
theorem dX0_init_39 : decode cX0_init 39 = .ok (.newarray .int, 2) := by decide +kernel
theorem dX0_init_41 : decode cX0_init 41 = .ok (.putfield 26, 3) := by decide +kernel
theorem dX0_init_44 : decode cX0_init 44 = .ok (.aload_n 0, 1) := by decide +kernel
theorem dX0_init_45 : decode cX0_init 45 = .ok (.iconst 0, 1) := by decide +kernel
theorem dX0_init_46 : decode cX0_init 46 = .ok (.putfield 29, 3) := by decide +kernel
theorem dX0_init_49 : decode cX0_init 49 = .ok (.aload_n 0, 1) := by decide +kernel
theorem dX0_init_50 : decode cX0_init 50 = .ok (.iconst 0, 1) := by decide +kernel
theorem dX0_init_51 : decode cX0_init 51 = .ok (.putfield 33, 3) := by decide +kernel
theorem dX0_init_54 : decode cX0_init 54 = .ok (.aload_n 0, 1) := by decide +kernel
theorem dX0_init_55 : decode cX0_init 55 = .ok (.bipush (-4), 2) := by decide +kernel
theorem dX0_init_57 : decode cX0_init 57 = .ok (.putfield 36, 3) := by decide +kernel
theorem dX0_init_60 : decode cX0_init 60 = .ok (.return_, 1) := by decide +kernel
set_option maxRecDepth 20000 in
theorem ggX0_take_X5_readItem : GoodIn wsX0_take wsX5_readItem := goodIn_r _ [14, 15, 16, 17, 18, 13, 19, 20, 21, 22, 23, 24, 25, 26, 27, 28, 29, 30, 31, 32, 33, 34, 35, 36, 37, 38, 47, 48, 49, 50] (by decide +kernel) (by decide +kernel)
set_option maxRecDepth 20000 in
theorem gX0_take_X5_readItem : GoodIn wsX0_take (wsV RX0 42 RX5 yX5_readItem wsX5_readItem) := goodIn_app (goodIn_of _ (by decide +kernel)) ggX0_take_X5_readItem
theorem dX0_take_0 : decode cX0_take 0 = .ok (.aload_n 0, 1) := by decide +kernel
theorem dX0_take_1 : decode cX0_take 1 = .ok (.iconst 0, 1) := by decide +kernel
theorem dX0_take_2 : decode cX0_take 2 = .ok (.putfield 29, 3) := by decide +kernel
theorem dX0_take_5 : decode cX0_take 5 = .ok (.iconst 0, 1) := by decide +kernel
theorem dX0_take_6 : decode cX0_take 6 = .ok (.istore_n 2, 1) := by decide +kernel
theorem dX0_take_7 : decode cX0_take 7 = .ok (.iconst 0, 1) := by decide +kernel
theorem dX0_take_8 : decode cX0_take 8 = .ok (.istore_n 3, 1) := by decide +kernel
theorem dX0_take_9 : decode cX0_take 9 = .ok (.iload_n 3, 1) := by decide +kernel
theorem dX0_take_10 : decode cX0_take 10 = .ok (.bipush 33, 2) := by decide +kernel
theorem dX0_take_12 : decode cX0_take 12 = .ok (.if_icmp .ge 95, 3) := by decide +kernel
theorem dX0_take_15 : decode cX0_take 15 = .ok (.iload_n 2, 1) := by decide +kernel
theorem dX0_take_16 : decode cX0_take 16 = .ok (.ifCond .lt 91, 3) := by decide +kernel
theorem dX0_take_19 : decode cX0_take 19 = .ok (.iload_n 2, 1) := by decide +kernel
theorem dX0_take_20 : decode cX0_take 20 = .ok (.aload_n 1, 1) := by decide +kernel
theorem dX0_take_21 : decode cX0_take 21 = .ok (.getfield 39, 3) := by decide +kernel
theorem dX0_take_24 : decode cX0_take 24 = .ok (.if_icmp .ge 83, 3) := by decide +kernel
theorem dX0_take_27 : decode cX0_take 27 = .ok (.aload_n 1, 1) := by decide +kernel
theorem dX0_take_28 : decode cX0_take 28 = .ok (.iload_n 2, 1) := by decide +kernel
theorem dX0_take_29 : decode cX0_take 29 = .ok (.invokevirtual 42, 3) := by decide +kernel
theorem dX0_take_32 : decode cX0_take 32 = .ok (.istore_n 2, 1) := by decide +kernel
theorem dX0_take_33 : decode cX0_take 33 = .ok (.aload_n 0, 1) := by decide +kernel
theorem dX0_take_34 : decode cX0_take 34 = .ok (.getfield 13, 3) := by decide +kernel
theorem dX0_take_37 : decode cX0_take 37 = .ok (.iload_n 3, 1) := by decide +kernel
theorem dX0_take_38 : decode cX0_take 38 = .ok (.aload_n 1, 1) := by decide +kernel
theorem dX0_take_39 : decode cX0_take 39 = .ok (.getfield 46, 3) := by decide +kernel
theorem dX0_take_42 : decode cX0_take 42 = .ok (.iastore, 1) := by decide +kernel
theorem dX0_take_43 : decode cX0_take 43 = .ok (.aload_n 0, 1) := by decide +kernel
theorem dX0_take_44 : decode cX0_take 44 = .ok (.getfield 17, 3) := by decide +kernel
theorem dX0_take_47 : decode cX0_take 47 = .ok (.iload_n 3, 1) := by decide +kernel
theorem dX0_take_48 : decode cX0_take 48 = .ok (.aload_n 1, 1) := by decide +kernel
theorem dX0_take_49 : decode cX0_take 49 = .ok (.getfield 48, 3) := by decide +kernel
theorem dX0_take_52 : decode cX0_take 52 = .ok (.iconst 0, 1) := by decide +kernel
theorem dX0_take_53 : decode cX0_take 53 = .ok (.iaload, 1) := by decide +kernel
theorem dX0_take_54 : decode cX0_take 54 = .ok (.iastore, 1) := by decide +kernel
theorem dX0_take_55 : decode cX0_take 55 = .ok (.aload_n 0, 1) := by decide +kernel
theorem dX0_take_56 : decode cX0_take 56 = .ok (.getfield 20, 3) := by decide +kernel
theorem dX0_take_59 : decode cX0_take 59 = .ok (.iload_n 3, 1) := by decide +kernel
theorem dX0_take_60 : decode cX0_take 60 = .ok (.aload_n 1, 1) := by decide +kernel
theorem dX0_take_61 : decode cX0_take 61 = .ok (.getfield 48, 3) := by decide +kernel
theorem dX0_take_64 : decode cX0_take 64 = .ok (.iconst 1, 1) := by decide +kernel
theorem dX0_take_65 : decode cX0_take 65 = .ok (.iaload, 1) := by decide +kernel
theorem dX0_take_66 : decode cX0_take 66 = .ok (.iastore, 1) := by decide +kernel
theorem dX0_take_67 : decode cX0_take 67 = .ok (.aload_n 0, 1) := by decide +kernel
theorem dX0_take_68 : decode cX0_take 68 = .ok (.getfield 23, 3) := by decide +kernel
theorem dX0_take_71 : decode cX0_take 71 = .ok (.iload_n 3, 1) := by decide +kernel
theorem dX0_take_72 : decode cX0_take 72 = .ok (.aload_n 1, 1) := by decide +kernel
theorem dX0_take_73 : decode cX0_take 73 = .ok (.getfield 48, 3) := by decide +kernel
theorem dX0_take_76 : decode cX0_take 76 = .ok (.iconst 2, 1) := by decide +kernel
theorem dX0_take_77 : decode cX0_take 77 = .ok (.iaload, 1) := by decide +kernel
theorem dX0_take_78 : decode cX0_take 78 = .ok (.iastore, 1) := by decide +kernel
theorem dX0_take_79 : decode cX0_take 79 = .ok (.aload_n 0, 1) := by decide +kernel
theorem dX0_take_80 : decode cX0_take 80 = .ok (.getfield 26, 3) := by decide +kernel
theorem dX0_take_83 : decode cX0_take 83 = .ok (.iload_n 3, 1) := by decide +kernel
theorem dX0_take_84 : decode cX0_take 84 = .ok (.aload_n 1, 1) := by decide +kernel
theorem dX0_take_85 : decode cX0_take 85 = .ok (.getfield 48, 3) := by decide +kernel
theorem dX0_take_88 : decode cX0_take 88 = .ok (.iconst 3, 1) := by decide +kernel
theorem dX0_take_89 : decode cX0_take 89 = .ok (.iaload, 1) := by decide +kernel
theorem dX0_take_90 : decode cX0_take 90 = .ok (.iastore, 1) := by decide +kernel
theorem dX0_take_91 : decode cX0_take 91 = .ok (.aload_n 0, 1) := by decide +kernel
theorem dX0_take_92 : decode cX0_take 92 = .ok (.dup, 1) := by decide +kernel
theorem dX0_take_93 : decode cX0_take 93 = .ok (.getfield 29, 3) := by decide +kernel
theorem dX0_take_96 : decode cX0_take 96 = .ok (.iconst 1, 1) := by decide +kernel
theorem dX0_take_97 : decode cX0_take 97 = .ok (.iadd, 1) := by decide +kernel
theorem dX0_take_98 : decode cX0_take 98 = .ok (.putfield 29, 3) := by decide +kernel
theorem dX0_take_101 : decode cX0_take 101 = .ok (.iinc 3 1, 3) := by decide +kernel
theorem dX0_take_104 : decode cX0_take 104 = .ok (.goto (-95), 3) := by decide +kernel
theorem dX0_take_107 : decode cX0_take 107 = .ok (.aload_n 0, 1) := by decide +kernel
theorem dX0_take_108 : decode cX0_take 108 = .ok (.getfield 29, 3) := by decide +kernel
theorem dX0_take_111 : decode cX0_take 111 = .ok (.ireturn, 1) := by decide +kernel
theorem dX0_ofUse_0 : decode cX0_ofUse 0 = .ok (.aload_n 0, 1) := by decide +kernel
theorem dX0_ofUse_1 : decode cX0_ofUse 1 = .ok (.getfield 13, 3) := by decide +kernel
theorem dX0_ofUse_4 : decode cX0_ofUse 4 = .ok (.iload_n 1, 1) := by decide +kernel
theorem dX0_ofUse_5 : decode cX0_ofUse 5 = .ok (.iaload, 1) := by decide +kernel
theorem dX0_ofUse_6 : decode cX0_ofUse 6 = .ok (.iload_n 2, 1) := by decide +kernel
theorem dX0_ofUse_7 : decode cX0_ofUse 7 = .ok (.if_icmp .ne 28, 3) := by decide +kernel
theorem dX0_ofUse_10 : decode cX0_ofUse 10 = .ok (.aload_n 0, 1) := by decide +kernel
theorem dX0_ofUse_11 : decode cX0_ofUse 11 = .ok (.getfield 17, 3) := by decide +kernel
theorem dX0_ofUse_14 : decode cX0_ofUse 14 = .ok (.iload_n 1, 1) := by decide +kernel
theorem dX0_ofUse_15 : decode cX0_ofUse 15 = .ok (.iaload, 1) := by decide +kernel
theorem dX0_ofUse_16 : decode cX0_ofUse 16 = .ok (.iload_n 3, 1) := by decide +kernel
theorem dX0_ofUse_17 : decode cX0_ofUse 17 = .ok (.if_icmp .ne 18, 3) := by decide +kernel
theorem dX0_ofUse_20 : decode cX0_ofUse 20 = .ok (.aload_n 0, 1) := by decide +kernel
theorem dX0_ofUse_21 : decode cX0_ofUse 21 = .ok (.getfield 20, 3) := by decide +kernel
theorem dX0_ofUse_24 : decode cX0_ofUse 24 = .ok (.iload_n 1, 1) := by decide +kernel
theorem dX0_ofUse_25 : decode cX0_ofUse 25 = .ok (.iaload, 1) := by decide +kernel
theorem dX0_ofUse_26 : decode cX0_ofUse 26 = .ok (.iload 4, 2) := by decide +kernel
theorem dX0_ofUse_28 : decode cX0_ofUse 28 = .ok (.if_icmp .ne 7, 3) := by decide +kernel
theorem dX0_ofUse_31 : decode cX0_ofUse 31 = .ok (.iconst 1, 1) := by decide +kernel
theorem dX0_ofUse_32 : decode cX0_ofUse 32 = .ok (.goto 4, 3) := by decide +kernel
theorem dX0_ofUse_35 : decode cX0_ofUse 35 = .ok (.iconst 0, 1) := by decide +kernel
theorem dX0_ofUse_36 : decode cX0_ofUse 36 = .ok (.ireturn, 1) := by decide +kernel
theorem dX0_onDay_0 : decode cX0_onDay 0 = .ok (.aload_n 0, 1) := by decide +kernel
theorem dX0_onDay_1 : decode cX0_onDay 1 = .ok (.getfield 23, 3) := by decide +kernel
theorem dX0_onDay_4 : decode cX0_onDay 4 = .ok (.iload_n 1, 1) := by decide +kernel
theorem dX0_onDay_5 : decode cX0_onDay 5 = .ok (.iaload, 1) := by decide +kernel
theorem dX0_onDay_6 : decode cX0_onDay 6 = .ok (.iload_n 2, 1) := by decide +kernel
theorem dX0_onDay_7 : decode cX0_onDay 7 = .ok (.if_icmp .gt 17, 3) := by decide +kernel
theorem dX0_onDay_10 : decode cX0_onDay 10 = .ok (.iload_n 2, 1) := by decide +kernel
theorem dX0_onDay_11 : decode cX0_onDay 11 = .ok (.aload_n 0, 1) := by decide +kernel
theorem dX0_onDay_12 : decode cX0_onDay 12 = .ok (.getfield 26, 3) := by decide +kernel
theorem dX0_onDay_15 : decode cX0_onDay 15 = .ok (.iload_n 1, 1) := by decide +kernel
theorem dX0_onDay_16 : decode cX0_onDay 16 = .ok (.iaload, 1) := by decide +kernel
theorem dX0_onDay_17 : decode cX0_onDay 17 = .ok (.if_icmp .gt 7, 3) := by decide +kernel
theorem dX0_onDay_20 : decode cX0_onDay 20 = .ok (.iconst 1, 1) := by decide +kernel
theorem dX0_onDay_21 : decode cX0_onDay 21 = .ok (.goto 4, 3) := by decide +kernel
theorem dX0_onDay_24 : decode cX0_onDay 24 = .ok (.iconst 0, 1) := by decide +kernel
theorem dX0_onDay_25 : decode cX0_onDay 25 = .ok (.ireturn, 1) := by decide +kernel
set_option maxRecDepth 20000 in
theorem ggX0_ruling_X0_ofUse : GoodIn wsX0_ruling wsX0_ofUse := goodIn_r _ [6, 7, 8, 9, 16, 17, 18, 19, 20, 21, 22, 23] (by decide +kernel) (by decide +kernel)
set_option maxRecDepth 20000 in
theorem gX0_ruling_X0_ofUse : GoodIn wsX0_ruling (wsV RX0 51 RX0 yX0_ofUse wsX0_ofUse) := goodIn_app (goodIn_of _ (by decide +kernel)) ggX0_ruling_X0_ofUse
set_option maxRecDepth 20000 in
theorem ggX0_ruling_X0_onDay : GoodIn wsX0_ruling wsX0_onDay := goodIn_r _ [13, 14, 15, 16, 17, 18, 19, 20, 21, 22, 23] (by decide +kernel) (by decide +kernel)
set_option maxRecDepth 20000 in
theorem gX0_ruling_X0_onDay : GoodIn wsX0_ruling (wsV RX0 55 RX0 yX0_onDay wsX0_onDay) := goodIn_app (goodIn_of _ (by decide +kernel)) ggX0_ruling_X0_onDay
theorem dX0_ruling_0 : decode cX0_ruling 0 = .ok (.aload_n 0, 1) := by decide +kernel
theorem dX0_ruling_1 : decode cX0_ruling 1 = .ok (.getfield 29, 3) := by decide +kernel
theorem dX0_ruling_4 : decode cX0_ruling 4 = .ok (.iconst 1, 1) := by decide +kernel
theorem dX0_ruling_5 : decode cX0_ruling 5 = .ok (.isub, 1) := by decide +kernel
theorem dX0_ruling_6 : decode cX0_ruling 6 = .ok (.istore 4, 2) := by decide +kernel
theorem dX0_ruling_8 : decode cX0_ruling 8 = .ok (.iload 4, 2) := by decide +kernel
theorem dX0_ruling_10 : decode cX0_ruling 10 = .ok (.ifCond .lt 60, 3) := by decide +kernel
theorem dX0_ruling_13 : decode cX0_ruling 13 = .ok (.aload_n 0, 1) := by decide +kernel
theorem dX0_ruling_14 : decode cX0_ruling 14 = .ok (.iload 4, 2) := by decide +kernel
theorem dX0_ruling_16 : decode cX0_ruling 16 = .ok (.bipush 97, 2) := by decide +kernel
theorem dX0_ruling_18 : decode cX0_ruling 18 = .ok (.iload_n 1, 1) := by decide +kernel
theorem dX0_ruling_19 : decode cX0_ruling 19 = .ok (.iload_n 2, 1) := by decide +kernel
theorem dX0_ruling_20 : decode cX0_ruling 20 = .ok (.invokevirtual 51, 3) := by decide +kernel
theorem dX0_ruling_23 : decode cX0_ruling 23 = .ok (.ifCond .ne 16, 3) := by decide +kernel
theorem dX0_ruling_26 : decode cX0_ruling 26 = .ok (.aload_n 0, 1) := by decide +kernel
theorem dX0_ruling_27 : decode cX0_ruling 27 = .ok (.iload 4, 2) := by decide +kernel
theorem dX0_ruling_29 : decode cX0_ruling 29 = .ok (.bipush 98, 2) := by decide +kernel
theorem dX0_ruling_31 : decode cX0_ruling 31 = .ok (.iload_n 1, 1) := by decide +kernel
theorem dX0_ruling_32 : decode cX0_ruling 32 = .ok (.iload_n 2, 1) := by decide +kernel
theorem dX0_ruling_33 : decode cX0_ruling 33 = .ok (.invokevirtual 51, 3) := by decide +kernel
theorem dX0_ruling_36 : decode cX0_ruling 36 = .ok (.ifCond .eq 7, 3) := by decide +kernel
theorem dX0_ruling_39 : decode cX0_ruling 39 = .ok (.iconst 1, 1) := by decide +kernel
theorem dX0_ruling_40 : decode cX0_ruling 40 = .ok (.goto 4, 3) := by decide +kernel
theorem dX0_ruling_43 : decode cX0_ruling 43 = .ok (.iconst 0, 1) := by decide +kernel
theorem dX0_ruling_44 : decode cX0_ruling 44 = .ok (.istore 5, 2) := by decide +kernel
theorem dX0_ruling_46 : decode cX0_ruling 46 = .ok (.iload 5, 2) := by decide +kernel
theorem dX0_ruling_48 : decode cX0_ruling 48 = .ok (.ifCond .eq 16, 3) := by decide +kernel
theorem dX0_ruling_51 : decode cX0_ruling 51 = .ok (.aload_n 0, 1) := by decide +kernel
theorem dX0_ruling_52 : decode cX0_ruling 52 = .ok (.iload 4, 2) := by decide +kernel
theorem dX0_ruling_54 : decode cX0_ruling 54 = .ok (.iload_n 3, 1) := by decide +kernel
theorem dX0_ruling_55 : decode cX0_ruling 55 = .ok (.invokevirtual 55, 3) := by decide +kernel
theorem dX0_ruling_58 : decode cX0_ruling 58 = .ok (.ifCond .eq 6, 3) := by decide +kernel
theorem dX0_ruling_61 : decode cX0_ruling 61 = .ok (.iload 4, 2) := by decide +kernel
theorem dX0_ruling_63 : decode cX0_ruling 63 = .ok (.ireturn, 1) := by decide +kernel
theorem dX0_ruling_64 : decode cX0_ruling 64 = .ok (.iinc 4 (-1), 3) := by decide +kernel
theorem dX0_ruling_67 : decode cX0_ruling 67 = .ok (.goto (-59), 3) := by decide +kernel
theorem dX0_ruling_70 : decode cX0_ruling 70 = .ok (.bipush (-4), 2) := by decide +kernel
theorem dX0_ruling_72 : decode cX0_ruling 72 = .ok (.ireturn, 1) := by decide +kernel
set_option maxRecDepth 20000 in
theorem ggX0_lets_X0_ruling : GoodIn wsX0_lets wsX0_ruling := goodIn_r _ [6, 7, 8, 9, 10, 5, 11, 1, 12, 13, 14, 15, 16, 17, 18, 19, 20, 21, 22, 23, 24, 25, 26, 27] (by decide +kernel) (by decide +kernel)
set_option maxRecDepth 20000 in
theorem gX0_lets_X0_ruling : GoodIn wsX0_lets (wsV RX0 59 RX0 yX0_ruling wsX0_ruling) := goodIn_app (goodIn_of _ (by decide +kernel)) ggX0_lets_X0_ruling
theorem dX0_lets_0 : decode cX0_lets 0 = .ok (.aload_n 0, 1) := by decide +kernel
theorem dX0_lets_1 : decode cX0_lets 1 = .ok (.iload_n 1, 1) := by decide +kernel
theorem dX0_lets_2 : decode cX0_lets 2 = .ok (.iload_n 2, 1) := by decide +kernel
theorem dX0_lets_3 : decode cX0_lets 3 = .ok (.iload_n 3, 1) := by decide +kernel
theorem dX0_lets_4 : decode cX0_lets 4 = .ok (.invokevirtual 59, 3) := by decide +kernel
theorem dX0_lets_7 : decode cX0_lets 7 = .ok (.istore 4, 2) := by decide +kernel
theorem dX0_lets_9 : decode cX0_lets 9 = .ok (.iload 4, 2) := by decide +kernel
theorem dX0_lets_11 : decode cX0_lets 11 = .ok (.ifCond .lt 15, 3) := by decide +kernel
theorem dX0_lets_14 : decode cX0_lets 14 = .ok (.aload_n 0, 1) := by decide +kernel
theorem dX0_lets_15 : decode cX0_lets 15 = .ok (.getfield 13, 3) := by decide +kernel
theorem dX0_lets_18 : decode cX0_lets 18 = .ok (.iload 4, 2) := by decide +kernel
theorem dX0_lets_20 : decode cX0_lets 20 = .ok (.iaload, 1) := by decide +kernel
theorem dX0_lets_21 : decode cX0_lets 21 = .ok (.bipush 97, 2) := by decide +kernel
theorem dX0_lets_23 : decode cX0_lets 23 = .ok (.if_icmp .ne 7, 3) := by decide +kernel
theorem dX0_lets_26 : decode cX0_lets 26 = .ok (.iconst 1, 1) := by decide +kernel
theorem dX0_lets_27 : decode cX0_lets 27 = .ok (.goto 4, 3) := by decide +kernel
theorem dX0_lets_30 : decode cX0_lets 30 = .ok (.iconst 0, 1) := by decide +kernel
theorem dX0_lets_31 : decode cX0_lets 31 = .ok (.ireturn, 1) := by decide +kernel
set_option maxRecDepth 20000 in
theorem ggX0_findQuarrels_X0_nextChange : GoodIn wsX0_findQuarrels wsX0_nextChange := goodIn_r _ [7, 8, 9, 10, 11, 12, 13, 14, 15, 16, 17, 6, 18, 19, 20, 21, 30, 31, 32, 33, 34, 35, 36, 37] (by decide +kernel) (by decide +kernel)
set_option maxRecDepth 20000 in
theorem gX0_findQuarrels_X0_nextChange : GoodIn wsX0_findQuarrels (wsV RX0 63 RX0 yX0_nextChange wsX0_nextChange) := goodIn_app (goodIn_of _ (by decide +kernel)) ggX0_findQuarrels_X0_nextChange
set_option maxRecDepth 20000 in
theorem ggX0_findQuarrels_X0_tells : GoodIn wsX0_findQuarrels wsX0_tells := goodIn_r _ [25, 8, 15, 16, 17, 6, 18, 19, 20, 21, 26, 27, 28, 29, 9, 14, 30, 31, 32, 33, 34, 35, 36, 37] (by decide +kernel) (by decide +kernel)
set_option maxRecDepth 20000 in
theorem gX0_findQuarrels_X0_tells : GoodIn wsX0_findQuarrels (wsV RX0 66 RX0 yX0_tells wsX0_tells) := goodIn_app (goodIn_of _ (by decide +kernel)) ggX0_findQuarrels_X0_tells
theorem dX0_findQuarrels_0 : decode cX0_findQuarrels 0 = .ok (.aload_n 0, 1) := by decide +kernel
theorem dX0_findQuarrels_1 : decode cX0_findQuarrels 1 = .ok (.iconst 0, 1) := by decide +kernel
theorem dX0_findQuarrels_2 : decode cX0_findQuarrels 2 = .ok (.putfield 33, 3) := by decide +kernel
theorem dX0_findQuarrels_5 : decode cX0_findQuarrels 5 = .ok (.aload_n 0, 1) := by decide +kernel
theorem dX0_findQuarrels_6 : decode cX0_findQuarrels 6 = .ok (.bipush (-4), 2) := by decide +kernel
theorem dX0_findQuarrels_8 : decode cX0_findQuarrels 8 = .ok (.putfield 36, 3) := by decide +kernel
theorem dX0_findQuarrels_11 : decode cX0_findQuarrels 11 = .ok (.iconst 0, 1) := by decide +kernel
theorem dX0_findQuarrels_12 : decode cX0_findQuarrels 12 = .ok (.istore_n 3, 1) := by decide +kernel
theorem dX0_findQuarrels_13 : decode cX0_findQuarrels 13 = .ok (.iconst 0, 1) := by decide +kernel
theorem dX0_findQuarrels_14 : decode cX0_findQuarrels 14 = .ok (.istore 4, 2) := by decide +kernel
theorem dX0_findQuarrels_16 : decode cX0_findQuarrels 16 = .ok (.iload 4, 2) := by decide +kernel
theorem dX0_findQuarrels_18 : decode cX0_findQuarrels 18 = .ok (.bipush 66, 2) := by decide +kernel
theorem dX0_findQuarrels_20 : decode cX0_findQuarrels 20 = .ok (.if_icmp .gt 79, 3) := by decide +kernel
theorem dX0_findQuarrels_23 : decode cX0_findQuarrels 23 = .ok (.iload_n 3, 1) := by decide +kernel
theorem dX0_findQuarrels_24 : decode cX0_findQuarrels 24 = .ok (.sipush 9999, 3) := by decide +kernel
theorem dX0_findQuarrels_27 : decode cX0_findQuarrels 27 = .ok (.if_icmp .gt 72, 3) := by decide +kernel
theorem dX0_findQuarrels_30 : decode cX0_findQuarrels 30 = .ok (.aload_n 0, 1) := by decide +kernel
theorem dX0_findQuarrels_31 : decode cX0_findQuarrels 31 = .ok (.iload_n 1, 1) := by decide +kernel
theorem dX0_findQuarrels_32 : decode cX0_findQuarrels 32 = .ok (.iload_n 2, 1) := by decide +kernel
theorem dX0_findQuarrels_33 : decode cX0_findQuarrels 33 = .ok (.iload_n 3, 1) := by decide +kernel
theorem dX0_findQuarrels_34 : decode cX0_findQuarrels 34 = .ok (.invokevirtual 63, 3) := by decide +kernel
theorem dX0_findQuarrels_37 : decode cX0_findQuarrels 37 = .ok (.istore 5, 2) := by decide +kernel
theorem dX0_findQuarrels_39 : decode cX0_findQuarrels 39 = .ok (.aload_n 0, 1) := by decide +kernel
theorem dX0_findQuarrels_40 : decode cX0_findQuarrels 40 = .ok (.bipush 97, 2) := by decide +kernel
theorem dX0_findQuarrels_42 : decode cX0_findQuarrels 42 = .ok (.iload_n 1, 1) := by decide +kernel
theorem dX0_findQuarrels_43 : decode cX0_findQuarrels 43 = .ok (.iload_n 2, 1) := by decide +kernel
theorem dX0_findQuarrels_44 : decode cX0_findQuarrels 44 = .ok (.iload_n 3, 1) := by decide +kernel
theorem dX0_findQuarrels_45 : decode cX0_findQuarrels 45 = .ok (.invokevirtual 66, 3) := by decide +kernel
theorem dX0_findQuarrels_48 : decode cX0_findQuarrels 48 = .ok (.ifCond .eq 42, 3) := by decide +kernel
theorem dX0_findQuarrels_51 : decode cX0_findQuarrels 51 = .ok (.aload_n 0, 1) := by decide +kernel
theorem dX0_findQuarrels_52 : decode cX0_findQuarrels 52 = .ok (.bipush 98, 2) := by decide +kernel
theorem dX0_findQuarrels_54 : decode cX0_findQuarrels 54 = .ok (.iload_n 1, 1) := by decide +kernel
theorem dX0_findQuarrels_55 : decode cX0_findQuarrels 55 = .ok (.iload_n 2, 1) := by decide +kernel
theorem dX0_findQuarrels_56 : decode cX0_findQuarrels 56 = .ok (.iload_n 3, 1) := by decide +kernel
theorem dX0_findQuarrels_57 : decode cX0_findQuarrels 57 = .ok (.invokevirtual 66, 3) := by decide +kernel
theorem dX0_findQuarrels_60 : decode cX0_findQuarrels 60 = .ok (.ifCond .eq 30, 3) := by decide +kernel
theorem dX0_findQuarrels_63 : decode cX0_findQuarrels 63 = .ok (.aload_n 0, 1) := by decide +kernel
theorem dX0_findQuarrels_64 : decode cX0_findQuarrels 64 = .ok (.dup, 1) := by decide +kernel
theorem dX0_findQuarrels_65 : decode cX0_findQuarrels 65 = .ok (.getfield 33, 3) := by decide +kernel
theorem dX0_findQuarrels_68 : decode cX0_findQuarrels 68 = .ok (.iload 5, 2) := by decide +kernel
theorem dX0_findQuarrels_70 : decode cX0_findQuarrels 70 = .ok (.iload_n 3, 1) := by decide +kernel
theorem dX0_findQuarrels_71 : decode cX0_findQuarrels 71 = .ok (.isub, 1) := by decide +kernel
theorem dX0_findQuarrels_72 : decode cX0_findQuarrels 72 = .ok (.iadd, 1) := by decide +kernel
theorem dX0_findQuarrels_73 : decode cX0_findQuarrels 73 = .ok (.putfield 33, 3) := by decide +kernel
theorem dX0_findQuarrels_76 : decode cX0_findQuarrels 76 = .ok (.aload_n 0, 1) := by decide +kernel
theorem dX0_findQuarrels_77 : decode cX0_findQuarrels 77 = .ok (.getfield 36, 3) := by decide +kernel
theorem dX0_findQuarrels_80 : decode cX0_findQuarrels 80 = .ok (.bipush (-4), 2) := by decide +kernel
theorem dX0_findQuarrels_82 : decode cX0_findQuarrels 82 = .ok (.if_icmp .ne 8, 3) := by decide +kernel
theorem dX0_findQuarrels_85 : decode cX0_findQuarrels 85 = .ok (.aload_n 0, 1) := by decide +kernel
theorem dX0_findQuarrels_86 : decode cX0_findQuarrels 86 = .ok (.iload_n 3, 1) := by decide +kernel
theorem dX0_findQuarrels_87 : decode cX0_findQuarrels 87 = .ok (.putfield 36, 3) := by decide +kernel
theorem dX0_findQuarrels_90 : decode cX0_findQuarrels 90 = .ok (.iload 5, 2) := by decide +kernel
theorem dX0_findQuarrels_92 : decode cX0_findQuarrels 92 = .ok (.istore_n 3, 1) := by decide +kernel
theorem dX0_findQuarrels_93 : decode cX0_findQuarrels 93 = .ok (.iinc 4 1, 3) := by decide +kernel
theorem dX0_findQuarrels_96 : decode cX0_findQuarrels 96 = .ok (.goto (-80), 3) := by decide +kernel
theorem dX0_findQuarrels_99 : decode cX0_findQuarrels 99 = .ok (.return_, 1) := by decide +kernel
set_option maxRecDepth 20000 in
theorem ggX0_tells_X0_ofUse : GoodIn wsX0_tells wsX0_ofUse := goodIn_r _ [6, 7, 8, 9, 16, 17, 18, 19, 20, 21, 22, 23] (by decide +kernel) (by decide +kernel)
set_option maxRecDepth 20000 in
theorem gX0_tells_X0_ofUse : GoodIn wsX0_tells (wsV RX0 51 RX0 yX0_ofUse wsX0_ofUse) := goodIn_app (goodIn_of _ (by decide +kernel)) ggX0_tells_X0_ofUse
set_option maxRecDepth 20000 in
theorem ggX0_tells_X0_onDay : GoodIn wsX0_tells wsX0_onDay := goodIn_r _ [13, 14, 15, 16, 17, 18, 19, 20, 21, 22, 23] (by decide +kernel) (by decide +kernel)
set_option maxRecDepth 20000 in
theorem gX0_tells_X0_onDay : GoodIn wsX0_tells (wsV RX0 55 RX0 yX0_onDay wsX0_onDay) := goodIn_app (goodIn_of _ (by decide +kernel)) ggX0_tells_X0_onDay
theorem dX0_tells_0 : decode cX0_tells 0 = .ok (.iconst 0, 1) := by decide +kernel
theorem dX0_tells_1 : decode cX0_tells 1 = .ok (.istore 5, 2) := by decide +kernel
theorem dX0_tells_3 : decode cX0_tells 3 = .ok (.iload 5, 2) := by decide +kernel
theorem dX0_tells_5 : decode cX0_tells 5 = .ok (.aload_n 0, 1) := by decide +kernel
theorem dX0_tells_6 : decode cX0_tells 6 = .ok (.getfield 29, 3) := by decide +kernel
theorem dX0_tells_9 : decode cX0_tells 9 = .ok (.if_icmp .ge 34, 3) := by decide +kernel
theorem dX0_tells_12 : decode cX0_tells 12 = .ok (.aload_n 0, 1) := by decide +kernel
theorem dX0_tells_13 : decode cX0_tells 13 = .ok (.iload 5, 2) := by decide +kernel
theorem dX0_tells_15 : decode cX0_tells 15 = .ok (.iload_n 1, 1) := by decide +kernel
theorem dX0_tells_16 : decode cX0_tells 16 = .ok (.iload_n 2, 1) := by decide +kernel
theorem dX0_tells_17 : decode cX0_tells 17 = .ok (.iload_n 3, 1) := by decide +kernel
theorem dX0_tells_18 : decode cX0_tells 18 = .ok (.invokevirtual 51, 3) := by decide +kernel
theorem dX0_tells_21 : decode cX0_tells 21 = .ok (.ifCond .eq 16, 3) := by decide +kernel
theorem dX0_tells_24 : decode cX0_tells 24 = .ok (.aload_n 0, 1) := by decide +kernel
theorem dX0_tells_25 : decode cX0_tells 25 = .ok (.iload 5, 2) := by decide +kernel
theorem dX0_tells_27 : decode cX0_tells 27 = .ok (.iload 4, 2) := by decide +kernel
theorem dX0_tells_29 : decode cX0_tells 29 = .ok (.invokevirtual 55, 3) := by decide +kernel
theorem dX0_tells_32 : decode cX0_tells 32 = .ok (.ifCond .eq 5, 3) := by decide +kernel
theorem dX0_tells_35 : decode cX0_tells 35 = .ok (.iconst 1, 1) := by decide +kernel
theorem dX0_tells_36 : decode cX0_tells 36 = .ok (.ireturn, 1) := by decide +kernel
theorem dX0_tells_37 : decode cX0_tells 37 = .ok (.iinc 5 1, 3) := by decide +kernel
theorem dX0_tells_40 : decode cX0_tells 40 = .ok (.goto (-37), 3) := by decide +kernel
theorem dX0_tells_43 : decode cX0_tells 43 = .ok (.iconst 0, 1) := by decide +kernel
theorem dX0_tells_44 : decode cX0_tells 44 = .ok (.ireturn, 1) := by decide +kernel
set_option maxRecDepth 20000 in
theorem ggX0_nextChange_X0_ofUse : GoodIn wsX0_nextChange wsX0_ofUse := goodIn_r _ [12, 13, 14, 15, 16, 17, 18, 19, 20, 21, 22, 23] (by decide +kernel) (by decide +kernel)
set_option maxRecDepth 20000 in
theorem gX0_nextChange_X0_ofUse : GoodIn wsX0_nextChange (wsV RX0 51 RX0 yX0_ofUse wsX0_ofUse) := goodIn_app (goodIn_of _ (by decide +kernel)) ggX0_nextChange_X0_ofUse
theorem dX0_nextChange_0 : decode cX0_nextChange 0 = .ok (.sipush 10000, 3) := by decide +kernel
theorem dX0_nextChange_3 : decode cX0_nextChange 3 = .ok (.istore 4, 2) := by decide +kernel
theorem dX0_nextChange_5 : decode cX0_nextChange 5 = .ok (.iconst 0, 1) := by decide +kernel
theorem dX0_nextChange_6 : decode cX0_nextChange 6 = .ok (.istore 5, 2) := by decide +kernel
theorem dX0_nextChange_8 : decode cX0_nextChange 8 = .ok (.iload 5, 2) := by decide +kernel
theorem dX0_nextChange_10 : decode cX0_nextChange 10 = .ok (.aload_n 0, 1) := by decide +kernel
theorem dX0_nextChange_11 : decode cX0_nextChange 11 = .ok (.getfield 29, 3) := by decide +kernel
theorem dX0_nextChange_14 : decode cX0_nextChange 14 = .ok (.if_icmp .ge 90, 3) := by decide +kernel
theorem dX0_nextChange_17 : decode cX0_nextChange 17 = .ok (.aload_n 0, 1) := by decide +kernel
theorem dX0_nextChange_18 : decode cX0_nextChange 18 = .ok (.iload 5, 2) := by decide +kernel
theorem dX0_nextChange_20 : decode cX0_nextChange 20 = .ok (.bipush 97, 2) := by decide +kernel
theorem dX0_nextChange_22 : decode cX0_nextChange 22 = .ok (.iload_n 1, 1) := by decide +kernel
theorem dX0_nextChange_23 : decode cX0_nextChange 23 = .ok (.iload_n 2, 1) := by decide +kernel
theorem dX0_nextChange_24 : decode cX0_nextChange 24 = .ok (.invokevirtual 51, 3) := by decide +kernel
theorem dX0_nextChange_27 : decode cX0_nextChange 27 = .ok (.ifCond .ne 19, 3) := by decide +kernel
theorem dX0_nextChange_30 : decode cX0_nextChange 30 = .ok (.aload_n 0, 1) := by decide +kernel
theorem dX0_nextChange_31 : decode cX0_nextChange 31 = .ok (.iload 5, 2) := by decide +kernel
theorem dX0_nextChange_33 : decode cX0_nextChange 33 = .ok (.bipush 98, 2) := by decide +kernel
theorem dX0_nextChange_35 : decode cX0_nextChange 35 = .ok (.iload_n 1, 1) := by decide +kernel
theorem dX0_nextChange_36 : decode cX0_nextChange 36 = .ok (.iload_n 2, 1) := by decide +kernel
theorem dX0_nextChange_37 : decode cX0_nextChange 37 = .ok (.invokevirtual 51, 3) := by decide +kernel
theorem dX0_nextChange_40 : decode cX0_nextChange 40 = .ok (.ifCond .ne 6, 3) := by decide +kernel
theorem dX0_nextChange_43 : decode cX0_nextChange 43 = .ok (.goto 55, 3) := by decide +kernel
theorem dX0_nextChange_46 : decode cX0_nextChange 46 = .ok (.aload_n 0, 1) := by decide +kernel
theorem dX0_nextChange_47 : decode cX0_nextChange 47 = .ok (.getfield 23, 3) := by decide +kernel
theorem dX0_nextChange_50 : decode cX0_nextChange 50 = .ok (.iload 5, 2) := by decide +kernel
theorem dX0_nextChange_52 : decode cX0_nextChange 52 = .ok (.iaload, 1) := by decide +kernel
theorem dX0_nextChange_53 : decode cX0_nextChange 53 = .ok (.iload_n 3, 1) := by decide +kernel
theorem dX0_nextChange_54 : decode cX0_nextChange 54 = .ok (.if_icmp .le 17, 3) := by decide +kernel
theorem dX0_nextChange_57 : decode cX0_nextChange 57 = .ok (.iload 4, 2) := by decide +kernel
theorem dX0_nextChange_59 : decode cX0_nextChange 59 = .ok (.aload_n 0, 1) := by decide +kernel
theorem dX0_nextChange_60 : decode cX0_nextChange 60 = .ok (.getfield 23, 3) := by decide +kernel
theorem dX0_nextChange_63 : decode cX0_nextChange 63 = .ok (.iload 5, 2) := by decide +kernel
theorem dX0_nextChange_65 : decode cX0_nextChange 65 = .ok (.iaload, 1) := by decide +kernel
theorem dX0_nextChange_66 : decode cX0_nextChange 66 = .ok (.invokestatic 69, 3) := by decide +kernel
theorem dX0_nextChange_69 : decode cX0_nextChange 69 = .ok (.istore 4, 2) := by decide +kernel
theorem dX0_nextChange_71 : decode cX0_nextChange 71 = .ok (.aload_n 0, 1) := by decide +kernel
theorem dX0_nextChange_72 : decode cX0_nextChange 72 = .ok (.getfield 26, 3) := by decide +kernel
theorem dX0_nextChange_75 : decode cX0_nextChange 75 = .ok (.iload 5, 2) := by decide +kernel
theorem dX0_nextChange_77 : decode cX0_nextChange 77 = .ok (.iaload, 1) := by decide +kernel
theorem dX0_nextChange_78 : decode cX0_nextChange 78 = .ok (.iload_n 3, 1) := by decide +kernel
theorem dX0_nextChange_79 : decode cX0_nextChange 79 = .ok (.if_icmp .lt 19, 3) := by decide +kernel
theorem dX0_nextChange_82 : decode cX0_nextChange 82 = .ok (.iload 4, 2) := by decide +kernel
theorem dX0_nextChange_84 : decode cX0_nextChange 84 = .ok (.aload_n 0, 1) := by decide +kernel
theorem dX0_nextChange_85 : decode cX0_nextChange 85 = .ok (.getfield 26, 3) := by decide +kernel
theorem dX0_nextChange_88 : decode cX0_nextChange 88 = .ok (.iload 5, 2) := by decide +kernel
theorem dX0_nextChange_90 : decode cX0_nextChange 90 = .ok (.iaload, 1) := by decide +kernel
theorem dX0_nextChange_91 : decode cX0_nextChange 91 = .ok (.iconst 1, 1) := by decide +kernel
theorem dX0_nextChange_92 : decode cX0_nextChange 92 = .ok (.iadd, 1) := by decide +kernel
theorem dX0_nextChange_93 : decode cX0_nextChange 93 = .ok (.invokestatic 69, 3) := by decide +kernel
theorem dX0_nextChange_96 : decode cX0_nextChange 96 = .ok (.istore 4, 2) := by decide +kernel
theorem dX0_nextChange_98 : decode cX0_nextChange 98 = .ok (.iinc 5 1, 3) := by decide +kernel
theorem dX0_nextChange_101 : decode cX0_nextChange 101 = .ok (.goto (-93), 3) := by decide +kernel
theorem dX0_nextChange_104 : decode cX0_nextChange 104 = .ok (.iload 4, 2) := by decide +kernel
theorem dX0_nextChange_106 : decode cX0_nextChange 106 = .ok (.ireturn, 1) := by decide +kernel
theorem dX0_ofWord_0 : decode cX0_ofWord 0 = .ok (.aload_n 0, 1) := by decide +kernel
theorem dX0_ofWord_1 : decode cX0_ofWord 1 = .ok (.getfield 13, 3) := by decide +kernel
theorem dX0_ofWord_4 : decode cX0_ofWord 4 = .ok (.iload_n 1, 1) := by decide +kernel
theorem dX0_ofWord_5 : decode cX0_ofWord 5 = .ok (.iaload, 1) := by decide +kernel
theorem dX0_ofWord_6 : decode cX0_ofWord 6 = .ok (.bipush 110, 2) := by decide +kernel
theorem dX0_ofWord_8 : decode cX0_ofWord 8 = .ok (.if_icmp .ne 38, 3) := by decide +kernel
theorem dX0_ofWord_11 : decode cX0_ofWord 11 = .ok (.aload_n 0, 1) := by decide +kernel
theorem dX0_ofWord_12 : decode cX0_ofWord 12 = .ok (.getfield 17, 3) := by decide +kernel
theorem dX0_ofWord_15 : decode cX0_ofWord 15 = .ok (.iload_n 1, 1) := by decide +kernel
theorem dX0_ofWord_16 : decode cX0_ofWord 16 = .ok (.iaload, 1) := by decide +kernel
theorem dX0_ofWord_17 : decode cX0_ofWord 17 = .ok (.iload_n 2, 1) := by decide +kernel
theorem dX0_ofWord_18 : decode cX0_ofWord 18 = .ok (.if_icmp .ne 28, 3) := by decide +kernel
theorem dX0_ofWord_21 : decode cX0_ofWord 21 = .ok (.aload_n 0, 1) := by decide +kernel
theorem dX0_ofWord_22 : decode cX0_ofWord 22 = .ok (.getfield 23, 3) := by decide +kernel
theorem dX0_ofWord_25 : decode cX0_ofWord 25 = .ok (.iload_n 1, 1) := by decide +kernel
theorem dX0_ofWord_26 : decode cX0_ofWord 26 = .ok (.iaload, 1) := by decide +kernel
theorem dX0_ofWord_27 : decode cX0_ofWord 27 = .ok (.iload_n 3, 1) := by decide +kernel
theorem dX0_ofWord_28 : decode cX0_ofWord 28 = .ok (.if_icmp .ne 18, 3) := by decide +kernel
theorem dX0_ofWord_31 : decode cX0_ofWord 31 = .ok (.aload_n 0, 1) := by decide +kernel
theorem dX0_ofWord_32 : decode cX0_ofWord 32 = .ok (.getfield 26, 3) := by decide +kernel
theorem dX0_ofWord_35 : decode cX0_ofWord 35 = .ok (.iload_n 1, 1) := by decide +kernel
theorem dX0_ofWord_36 : decode cX0_ofWord 36 = .ok (.iaload, 1) := by decide +kernel
theorem dX0_ofWord_37 : decode cX0_ofWord 37 = .ok (.iload 4, 2) := by decide +kernel
theorem dX0_ofWord_39 : decode cX0_ofWord 39 = .ok (.if_icmp .gt 7, 3) := by decide +kernel
theorem dX0_ofWord_42 : decode cX0_ofWord 42 = .ok (.iconst 1, 1) := by decide +kernel
theorem dX0_ofWord_43 : decode cX0_ofWord 43 = .ok (.goto 4, 3) := by decide +kernel
theorem dX0_ofWord_46 : decode cX0_ofWord 46 = .ok (.iconst 0, 1) := by decide +kernel
theorem dX0_ofWord_47 : decode cX0_ofWord 47 = .ok (.ireturn, 1) := by decide +kernel
set_option maxRecDepth 20000 in
theorem ggX0_meanings_X0_ofWord : GoodIn wsX0_meanings wsX0_ofWord := goodIn_r _ [7, 8, 9, 10, 11, 12, 13, 14, 15, 16, 17, 18, 19] (by decide +kernel) (by decide +kernel)
set_option maxRecDepth 20000 in
theorem gX0_meanings_X0_ofWord : GoodIn wsX0_meanings (wsV RX0 75 RX0 yX0_ofWord wsX0_ofWord) := goodIn_app (goodIn_of _ (by decide +kernel)) ggX0_meanings_X0_ofWord
theorem dX0_meanings_0 : decode cX0_meanings 0 = .ok (.iconst 0, 1) := by decide +kernel
theorem dX0_meanings_1 : decode cX0_meanings 1 = .ok (.istore 4, 2) := by decide +kernel
theorem dX0_meanings_3 : decode cX0_meanings 3 = .ok (.iconst 0, 1) := by decide +kernel
theorem dX0_meanings_4 : decode cX0_meanings 4 = .ok (.istore 5, 2) := by decide +kernel
theorem dX0_meanings_6 : decode cX0_meanings 6 = .ok (.iload 5, 2) := by decide +kernel
theorem dX0_meanings_8 : decode cX0_meanings 8 = .ok (.aload_n 0, 1) := by decide +kernel
theorem dX0_meanings_9 : decode cX0_meanings 9 = .ok (.getfield 29, 3) := by decide +kernel
theorem dX0_meanings_12 : decode cX0_meanings 12 = .ok (.if_icmp .ge 35, 3) := by decide +kernel
theorem dX0_meanings_15 : decode cX0_meanings 15 = .ok (.aload_n 0, 1) := by decide +kernel
theorem dX0_meanings_16 : decode cX0_meanings 16 = .ok (.iload 5, 2) := by decide +kernel
theorem dX0_meanings_18 : decode cX0_meanings 18 = .ok (.iload_n 1, 1) := by decide +kernel
theorem dX0_meanings_19 : decode cX0_meanings 19 = .ok (.iload_n 2, 1) := by decide +kernel
theorem dX0_meanings_20 : decode cX0_meanings 20 = .ok (.iload_n 3, 1) := by decide +kernel
theorem dX0_meanings_21 : decode cX0_meanings 21 = .ok (.invokevirtual 75, 3) := by decide +kernel
theorem dX0_meanings_24 : decode cX0_meanings 24 = .ok (.ifCond .eq 17, 3) := by decide +kernel
theorem dX0_meanings_27 : decode cX0_meanings 27 = .ok (.iload 4, 2) := by decide +kernel
theorem dX0_meanings_29 : decode cX0_meanings 29 = .ok (.iconst 1, 1) := by decide +kernel
theorem dX0_meanings_30 : decode cX0_meanings 30 = .ok (.aload_n 0, 1) := by decide +kernel
theorem dX0_meanings_31 : decode cX0_meanings 31 = .ok (.getfield 20, 3) := by decide +kernel
theorem dX0_meanings_34 : decode cX0_meanings 34 = .ok (.iload 5, 2) := by decide +kernel
theorem dX0_meanings_36 : decode cX0_meanings 36 = .ok (.iaload, 1) := by decide +kernel
theorem dX0_meanings_37 : decode cX0_meanings 37 = .ok (.ishl, 1) := by decide +kernel
theorem dX0_meanings_38 : decode cX0_meanings 38 = .ok (.ior, 1) := by decide +kernel
theorem dX0_meanings_39 : decode cX0_meanings 39 = .ok (.istore 4, 2) := by decide +kernel
theorem dX0_meanings_41 : decode cX0_meanings 41 = .ok (.iinc 5 1, 3) := by decide +kernel
theorem dX0_meanings_44 : decode cX0_meanings 44 = .ok (.goto (-38), 3) := by decide +kernel
theorem dX0_meanings_47 : decode cX0_meanings 47 = .ok (.iload 4, 2) := by decide +kernel
theorem dX0_meanings_49 : decode cX0_meanings 49 = .ok (.ireturn, 1) := by decide +kernel
set_option maxRecDepth 20000 in
theorem ggX0_surely_X0_latestOf : GoodIn wsX0_surely wsX0_latestOf := goodIn_r _ [6, 7, 8, 9, 10, 11, 5, 12, 13, 14, 15, 36, 37, 38, 39, 40, 41, 42, 43] (by decide +kernel) (by decide +kernel)
set_option maxRecDepth 20000 in
theorem gX0_surely_X0_latestOf : GoodIn wsX0_surely (wsV RX0 78 RX0 yX0_latestOf wsX0_latestOf) := goodIn_app (goodIn_of _ (by decide +kernel)) ggX0_surely_X0_latestOf
set_option maxRecDepth 20000 in
theorem ggX0_surely_X0_meanings : GoodIn wsX0_surely wsX0_meanings := goodIn_r _ [19, 7, 1, 9, 10, 11, 5, 12, 13, 14, 15, 8, 36, 37, 38, 39, 40, 41, 42, 43] (by decide +kernel) (by decide +kernel)
set_option maxRecDepth 20000 in
theorem gX0_surely_X0_meanings : GoodIn wsX0_surely (wsV RX0 81 RX0 yX0_meanings wsX0_meanings) := goodIn_app (goodIn_of _ (by decide +kernel)) ggX0_surely_X0_meanings
set_option maxRecDepth 20000 in
theorem ggX0_surely_X0_lets : GoodIn wsX0_surely wsX0_lets := goodIn_r _ [23, 13, 24, 25, 26, 5, 27, 7, 28, 29, 30, 31, 14, 1, 32, 33, 34, 35, 15, 8, 36, 37, 38, 39, 40, 41, 42, 43] (by decide +kernel) (by decide +kernel)
set_option maxRecDepth 20000 in
theorem gX0_surely_X0_lets : GoodIn wsX0_surely (wsV RX0 84 RX0 yX0_lets wsX0_lets) := goodIn_app (goodIn_of _ (by decide +kernel)) ggX0_surely_X0_lets
theorem dX0_surely_0 : decode cX0_surely 0 = .ok (.aload_n 0, 1) := by decide +kernel
theorem dX0_surely_1 : decode cX0_surely 1 = .ok (.iload_n 1, 1) := by decide +kernel
theorem dX0_surely_2 : decode cX0_surely 2 = .ok (.iload_n 2, 1) := by decide +kernel
theorem dX0_surely_3 : decode cX0_surely 3 = .ok (.iload_n 3, 1) := by decide +kernel
theorem dX0_surely_4 : decode cX0_surely 4 = .ok (.invokevirtual 78, 3) := by decide +kernel
theorem dX0_surely_7 : decode cX0_surely 7 = .ok (.istore 4, 2) := by decide +kernel
theorem dX0_surely_9 : decode cX0_surely 9 = .ok (.iload 4, 2) := by decide +kernel
theorem dX0_surely_11 : decode cX0_surely 11 = .ok (.ifCond .ge 6, 3) := by decide +kernel
theorem dX0_surely_14 : decode cX0_surely 14 = .ok (.bipush (-4), 2) := by decide +kernel
theorem dX0_surely_16 : decode cX0_surely 16 = .ok (.ireturn, 1) := by decide +kernel
theorem dX0_surely_17 : decode cX0_surely 17 = .ok (.aload_n 0, 1) := by decide +kernel
theorem dX0_surely_18 : decode cX0_surely 18 = .ok (.getfield 20, 3) := by decide +kernel
theorem dX0_surely_21 : decode cX0_surely 21 = .ok (.iload 4, 2) := by decide +kernel
theorem dX0_surely_23 : decode cX0_surely 23 = .ok (.iaload, 1) := by decide +kernel
theorem dX0_surely_24 : decode cX0_surely 24 = .ok (.istore 5, 2) := by decide +kernel
theorem dX0_surely_26 : decode cX0_surely 26 = .ok (.aload_n 0, 1) := by decide +kernel
theorem dX0_surely_27 : decode cX0_surely 27 = .ok (.iload_n 1, 1) := by decide +kernel
theorem dX0_surely_28 : decode cX0_surely 28 = .ok (.iload_n 2, 1) := by decide +kernel
theorem dX0_surely_29 : decode cX0_surely 29 = .ok (.iload_n 3, 1) := by decide +kernel
theorem dX0_surely_30 : decode cX0_surely 30 = .ok (.invokevirtual 81, 3) := by decide +kernel
theorem dX0_surely_33 : decode cX0_surely 33 = .ok (.iconst 1, 1) := by decide +kernel
theorem dX0_surely_34 : decode cX0_surely 34 = .ok (.iload 5, 2) := by decide +kernel
theorem dX0_surely_36 : decode cX0_surely 36 = .ok (.ishl, 1) := by decide +kernel
theorem dX0_surely_37 : decode cX0_surely 37 = .ok (.iconst (-1), 1) := by decide +kernel
theorem dX0_surely_38 : decode cX0_surely 38 = .ok (.ixor, 1) := by decide +kernel
theorem dX0_surely_39 : decode cX0_surely 39 = .ok (.iand, 1) := by decide +kernel
theorem dX0_surely_40 : decode cX0_surely 40 = .ok (.istore 6, 2) := by decide +kernel
theorem dX0_surely_42 : decode cX0_surely 42 = .ok (.iconst 0, 1) := by decide +kernel
theorem dX0_surely_43 : decode cX0_surely 43 = .ok (.istore 7, 2) := by decide +kernel
theorem dX0_surely_45 : decode cX0_surely 45 = .ok (.iload 7, 2) := by decide +kernel
theorem dX0_surely_47 : decode cX0_surely 47 = .ok (.bipush 16, 2) := by decide +kernel
theorem dX0_surely_49 : decode cX0_surely 49 = .ok (.if_icmp .ge 33, 3) := by decide +kernel
theorem dX0_surely_52 : decode cX0_surely 52 = .ok (.iload 6, 2) := by decide +kernel
theorem dX0_surely_54 : decode cX0_surely 54 = .ok (.iload 7, 2) := by decide +kernel
theorem dX0_surely_56 : decode cX0_surely 56 = .ok (.ishr, 1) := by decide +kernel
theorem dX0_surely_57 : decode cX0_surely 57 = .ok (.iconst 1, 1) := by decide +kernel
theorem dX0_surely_58 : decode cX0_surely 58 = .ok (.iand, 1) := by decide +kernel
theorem dX0_surely_59 : decode cX0_surely 59 = .ok (.ifCond .eq 17, 3) := by decide +kernel
theorem dX0_surely_62 : decode cX0_surely 62 = .ok (.aload_n 0, 1) := by decide +kernel
theorem dX0_surely_63 : decode cX0_surely 63 = .ok (.iload 7, 2) := by decide +kernel
theorem dX0_surely_65 : decode cX0_surely 65 = .ok (.iload_n 2, 1) := by decide +kernel
theorem dX0_surely_66 : decode cX0_surely 66 = .ok (.iload_n 3, 1) := by decide +kernel
theorem dX0_surely_67 : decode cX0_surely 67 = .ok (.invokevirtual 84, 3) := by decide +kernel
theorem dX0_surely_70 : decode cX0_surely 70 = .ok (.ifCond .eq 6, 3) := by decide +kernel
theorem dX0_surely_73 : decode cX0_surely 73 = .ok (.bipush (-4), 2) := by decide +kernel
theorem dX0_surely_75 : decode cX0_surely 75 = .ok (.ireturn, 1) := by decide +kernel
theorem dX0_surely_76 : decode cX0_surely 76 = .ok (.iinc 7 1, 3) := by decide +kernel
theorem dX0_surely_79 : decode cX0_surely 79 = .ok (.goto (-34), 3) := by decide +kernel
theorem dX0_surely_82 : decode cX0_surely 82 = .ok (.iload 5, 2) := by decide +kernel
theorem dX0_surely_84 : decode cX0_surely 84 = .ok (.ireturn, 1) := by decide +kernel
set_option maxRecDepth 20000 in
theorem ggX0_latestOf_X0_ofWord : GoodIn wsX0_latestOf wsX0_ofWord := goodIn_r _ [7, 8, 9, 10, 2, 11, 12, 13, 14, 15, 16, 17, 18] (by decide +kernel) (by decide +kernel)
set_option maxRecDepth 20000 in
theorem gX0_latestOf_X0_ofWord : GoodIn wsX0_latestOf (wsV RX0 75 RX0 yX0_ofWord wsX0_ofWord) := goodIn_app (goodIn_of _ (by decide +kernel)) ggX0_latestOf_X0_ofWord
theorem dX0_latestOf_0 : decode cX0_latestOf 0 = .ok (.bipush (-4), 2) := by decide +kernel
theorem dX0_latestOf_2 : decode cX0_latestOf 2 = .ok (.istore 4, 2) := by decide +kernel
theorem dX0_latestOf_4 : decode cX0_latestOf 4 = .ok (.iconst 0, 1) := by decide +kernel
theorem dX0_latestOf_5 : decode cX0_latestOf 5 = .ok (.istore 5, 2) := by decide +kernel
theorem dX0_latestOf_7 : decode cX0_latestOf 7 = .ok (.iload 5, 2) := by decide +kernel
theorem dX0_latestOf_9 : decode cX0_latestOf 9 = .ok (.aload_n 0, 1) := by decide +kernel
theorem dX0_latestOf_10 : decode cX0_latestOf 10 = .ok (.getfield 29, 3) := by decide +kernel
theorem dX0_latestOf_13 : decode cX0_latestOf 13 = .ok (.if_icmp .ge 50, 3) := by decide +kernel
theorem dX0_latestOf_16 : decode cX0_latestOf 16 = .ok (.aload_n 0, 1) := by decide +kernel
theorem dX0_latestOf_17 : decode cX0_latestOf 17 = .ok (.iload 5, 2) := by decide +kernel
theorem dX0_latestOf_19 : decode cX0_latestOf 19 = .ok (.iload_n 1, 1) := by decide +kernel
theorem dX0_latestOf_20 : decode cX0_latestOf 20 = .ok (.iload_n 2, 1) := by decide +kernel
theorem dX0_latestOf_21 : decode cX0_latestOf 21 = .ok (.iload_n 3, 1) := by decide +kernel
theorem dX0_latestOf_22 : decode cX0_latestOf 22 = .ok (.invokevirtual 75, 3) := by decide +kernel
theorem dX0_latestOf_25 : decode cX0_latestOf 25 = .ok (.ifCond .ne 6, 3) := by decide +kernel
theorem dX0_latestOf_28 : decode cX0_latestOf 28 = .ok (.goto 29, 3) := by decide +kernel
theorem dX0_latestOf_31 : decode cX0_latestOf 31 = .ok (.iload 4, 2) := by decide +kernel
theorem dX0_latestOf_33 : decode cX0_latestOf 33 = .ok (.ifCond .lt 20, 3) := by decide +kernel
theorem dX0_latestOf_36 : decode cX0_latestOf 36 = .ok (.aload_n 0, 1) := by decide +kernel
theorem dX0_latestOf_37 : decode cX0_latestOf 37 = .ok (.getfield 26, 3) := by decide +kernel
theorem dX0_latestOf_40 : decode cX0_latestOf 40 = .ok (.iload 5, 2) := by decide +kernel
theorem dX0_latestOf_42 : decode cX0_latestOf 42 = .ok (.iaload, 1) := by decide +kernel
theorem dX0_latestOf_43 : decode cX0_latestOf 43 = .ok (.aload_n 0, 1) := by decide +kernel
theorem dX0_latestOf_44 : decode cX0_latestOf 44 = .ok (.getfield 26, 3) := by decide +kernel
theorem dX0_latestOf_47 : decode cX0_latestOf 47 = .ok (.iload 4, 2) := by decide +kernel
theorem dX0_latestOf_49 : decode cX0_latestOf 49 = .ok (.iaload, 1) := by decide +kernel
theorem dX0_latestOf_50 : decode cX0_latestOf 50 = .ok (.if_icmp .lt 7, 3) := by decide +kernel
theorem dX0_latestOf_53 : decode cX0_latestOf 53 = .ok (.iload 5, 2) := by decide +kernel
theorem dX0_latestOf_55 : decode cX0_latestOf 55 = .ok (.istore 4, 2) := by decide +kernel
theorem dX0_latestOf_57 : decode cX0_latestOf 57 = .ok (.iinc 5 1, 3) := by decide +kernel
theorem dX0_latestOf_60 : decode cX0_latestOf 60 = .ok (.goto (-53), 3) := by decide +kernel
theorem dX0_latestOf_63 : decode cX0_latestOf 63 = .ok (.iload 4, 2) := by decide +kernel
theorem dX0_latestOf_65 : decode cX0_latestOf 65 = .ok (.ireturn, 1) := by decide +kernel
set_option maxRecDepth 20000 in
theorem ggX0_heaping_X0_onDay : GoodIn wsX0_heaping wsX0_onDay := goodIn_r _ [9, 10, 11, 12, 13, 14, 15, 16, 17, 18, 19] (by decide +kernel) (by decide +kernel)
set_option maxRecDepth 20000 in
theorem gX0_heaping_X0_onDay : GoodIn wsX0_heaping (wsV RX0 55 RX0 yX0_onDay wsX0_onDay) := goodIn_app (goodIn_of _ (by decide +kernel)) ggX0_heaping_X0_onDay
theorem dX0_heaping_0 : decode cX0_heaping 0 = .ok (.aload_n 0, 1) := by decide +kernel
theorem dX0_heaping_1 : decode cX0_heaping 1 = .ok (.getfield 29, 3) := by decide +kernel
theorem dX0_heaping_4 : decode cX0_heaping 4 = .ok (.iconst 1, 1) := by decide +kernel
theorem dX0_heaping_5 : decode cX0_heaping 5 = .ok (.isub, 1) := by decide +kernel
theorem dX0_heaping_6 : decode cX0_heaping 6 = .ok (.istore_n 3, 1) := by decide +kernel
theorem dX0_heaping_7 : decode cX0_heaping 7 = .ok (.iload_n 3, 1) := by decide +kernel
theorem dX0_heaping_8 : decode cX0_heaping 8 = .ok (.ifCond .lt 46, 3) := by decide +kernel
theorem dX0_heaping_11 : decode cX0_heaping 11 = .ok (.aload_n 0, 1) := by decide +kernel
theorem dX0_heaping_12 : decode cX0_heaping 12 = .ok (.getfield 13, 3) := by decide +kernel
theorem dX0_heaping_15 : decode cX0_heaping 15 = .ok (.iload_n 3, 1) := by decide +kernel
theorem dX0_heaping_16 : decode cX0_heaping 16 = .ok (.iaload, 1) := by decide +kernel
theorem dX0_heaping_17 : decode cX0_heaping 17 = .ok (.bipush 104, 2) := by decide +kernel
theorem dX0_heaping_19 : decode cX0_heaping 19 = .ok (.if_icmp .ne 29, 3) := by decide +kernel
theorem dX0_heaping_22 : decode cX0_heaping 22 = .ok (.aload_n 0, 1) := by decide +kernel
theorem dX0_heaping_23 : decode cX0_heaping 23 = .ok (.getfield 17, 3) := by decide +kernel
theorem dX0_heaping_26 : decode cX0_heaping 26 = .ok (.iload_n 3, 1) := by decide +kernel
theorem dX0_heaping_27 : decode cX0_heaping 27 = .ok (.iaload, 1) := by decide +kernel
theorem dX0_heaping_28 : decode cX0_heaping 28 = .ok (.iload_n 1, 1) := by decide +kernel
theorem dX0_heaping_29 : decode cX0_heaping 29 = .ok (.if_icmp .ne 19, 3) := by decide +kernel
theorem dX0_heaping_32 : decode cX0_heaping 32 = .ok (.aload_n 0, 1) := by decide +kernel
theorem dX0_heaping_33 : decode cX0_heaping 33 = .ok (.iload_n 3, 1) := by decide +kernel
theorem dX0_heaping_34 : decode cX0_heaping 34 = .ok (.iload_n 2, 1) := by decide +kernel
theorem dX0_heaping_35 : decode cX0_heaping 35 = .ok (.invokevirtual 55, 3) := by decide +kernel
theorem dX0_heaping_38 : decode cX0_heaping 38 = .ok (.ifCond .eq 10, 3) := by decide +kernel
theorem dX0_heaping_41 : decode cX0_heaping 41 = .ok (.aload_n 0, 1) := by decide +kernel
theorem dX0_heaping_42 : decode cX0_heaping 42 = .ok (.getfield 20, 3) := by decide +kernel
theorem dX0_heaping_45 : decode cX0_heaping 45 = .ok (.iload_n 3, 1) := by decide +kernel
theorem dX0_heaping_46 : decode cX0_heaping 46 = .ok (.iaload, 1) := by decide +kernel
theorem dX0_heaping_47 : decode cX0_heaping 47 = .ok (.ireturn, 1) := by decide +kernel
theorem dX0_heaping_48 : decode cX0_heaping 48 = .ok (.iinc 3 (-1), 3) := by decide +kernel
theorem dX0_heaping_51 : decode cX0_heaping 51 = .ok (.goto (-44), 3) := by decide +kernel
theorem dX0_heaping_54 : decode cX0_heaping 54 = .ok (.iconst (-1), 1) := by decide +kernel
theorem dX0_heaping_55 : decode cX0_heaping 55 = .ok (.ireturn, 1) := by decide +kernel
theorem dX1_init_0 : decode cX1_init 0 = .ok (.aload_n 0, 1) := by decide +kernel
theorem dX1_init_1 : decode cX1_init 1 = .ok (.invokespecial 3, 3) := by decide +kernel
theorem dX1_init_4 : decode cX1_init 4 = .ok (.aload_n 0, 1) := by decide +kernel
theorem dX1_init_5 : decode cX1_init 5 = .ok (.bipush 6, 2) := by decide +kernel
theorem dX1_init_7 : decode cX1_init 7 = .ok (.newarray .int, 2) := by decide +kernel
theorem dX1_init_9 : decode cX1_init 9 = .ok (.putfield 9, 3) := by decide +kernel
theorem dX1_init_12 : decode cX1_init 12 = .ok (.aload_n 0, 1) := by decide +kernel
theorem dX1_init_13 : decode cX1_init 13 = .ok (.bipush 6, 2) := by decide +kernel
theorem dX1_init_15 : decode cX1_init 15 = .ok (.newarray .int, 2) := by decide +kernel
theorem dX1_init_17 : decode cX1_init 17 = .ok (.putfield 15, 3) := by decide +kernel
theorem dX1_init_20 : decode cX1_init 20 = .ok (.aload_n 0, 1) := by decide +kernel
theorem dX1_init_21 : decode cX1_init 21 = .ok (.bipush 6, 2) := by decide +kernel
theorem dX1_init_23 : decode cX1_init 23 = .ok (.newarray .int, 2) := by decide +kernel
theorem dX1_init_25 : decode cX1_init 25 = .ok (.putfield 18, 3) := by decide +kernel
theorem dX1_init_28 : decode cX1_init 28 = .ok (.aload_n 0, 1) := by decide +kernel
theorem dX1_init_29 : decode cX1_init 29 = .ok (.bipush 6, 2) := by decide +kernel
theorem dX1_init_31 : decode cX1_init 31 = .ok (.newarray .int, 2) := by decide +kernel
theorem dX1_init_33 : decode cX1_init 33 = .ok (.putfield 21, 3) := by decide +kernel
theorem dX1_init_36 : decode cX1_init 36 = .ok (.return_, 1) := by decide +kernel
theorem dX1_put_0 : decode cX1_put 0 = .ok (.aload_n 0, 1) := by decide +kernel
theorem dX1_put_1 : decode cX1_put 1 = .ok (.getfield 9, 3) := by decide +kernel
theorem dX1_put_4 : decode cX1_put 4 = .ok (.iload_n 1, 1) := by decide +kernel
theorem dX1_put_5 : decode cX1_put 5 = .ok (.iload_n 2, 1) := by decide +kernel
theorem dX1_put_6 : decode cX1_put 6 = .ok (.iastore, 1) := by decide +kernel
theorem dX1_put_7 : decode cX1_put 7 = .ok (.aload_n 0, 1) := by decide +kernel
theorem dX1_put_8 : decode cX1_put 8 = .ok (.getfield 15, 3) := by decide +kernel
theorem dX1_put_11 : decode cX1_put 11 = .ok (.iload_n 1, 1) := by decide +kernel
theorem dX1_put_12 : decode cX1_put 12 = .ok (.iload_n 3, 1) := by decide +kernel
theorem dX1_put_13 : decode cX1_put 13 = .ok (.iastore, 1) := by decide +kernel
theorem dX1_put_14 : decode cX1_put 14 = .ok (.aload_n 0, 1) := by decide +kernel
theorem dX1_put_15 : decode cX1_put 15 = .ok (.getfield 18, 3) := by decide +kernel
theorem dX1_put_18 : decode cX1_put 18 = .ok (.iload_n 1, 1) := by decide +kernel
theorem dX1_put_19 : decode cX1_put 19 = .ok (.iload 4, 2) := by decide +kernel
theorem dX1_put_21 : decode cX1_put 21 = .ok (.iastore, 1) := by decide +kernel
theorem dX1_put_22 : decode cX1_put 22 = .ok (.aload_n 0, 1) := by decide +kernel
theorem dX1_put_23 : decode cX1_put 23 = .ok (.getfield 21, 3) := by decide +kernel
theorem dX1_put_26 : decode cX1_put 26 = .ok (.iload_n 1, 1) := by decide +kernel
theorem dX1_put_27 : decode cX1_put 27 = .ok (.iload 5, 2) := by decide +kernel
theorem dX1_put_29 : decode cX1_put 29 = .ok (.iastore, 1) := by decide +kernel
theorem dX1_put_30 : decode cX1_put 30 = .ok (.return_, 1) := by decide +kernel
set_option maxRecDepth 20000 in
theorem ggX1_passSeason_X1_changeOf : GoodIn wsX1_passSeason wsX1_changeOf := goodIn_r _ [7, 8, 9, 10, 11, 12, 13] (by decide +kernel) (by decide +kernel)
set_option maxRecDepth 20000 in
theorem gX1_passSeason_X1_changeOf : GoodIn wsX1_passSeason (wsV RX1 24 RX1 yX1_changeOf wsX1_changeOf) := goodIn_app (goodIn_of _ (by decide +kernel)) ggX1_passSeason_X1_changeOf
theorem dX1_passSeason_0 : decode cX1_passSeason 0 = .ok (.iconst 0, 1) := by decide +kernel
theorem dX1_passSeason_1 : decode cX1_passSeason 1 = .ok (.istore_n 1, 1) := by decide +kernel
theorem dX1_passSeason_2 : decode cX1_passSeason 2 = .ok (.iload_n 1, 1) := by decide +kernel
theorem dX1_passSeason_3 : decode cX1_passSeason 3 = .ok (.bipush 6, 2) := by decide +kernel
theorem dX1_passSeason_5 : decode cX1_passSeason 5 = .ok (.if_icmp .ge 47, 3) := by decide +kernel
theorem dX1_passSeason_8 : decode cX1_passSeason 8 = .ok (.aload_n 0, 1) := by decide +kernel
theorem dX1_passSeason_9 : decode cX1_passSeason 9 = .ok (.iload_n 1, 1) := by decide +kernel
theorem dX1_passSeason_10 : decode cX1_passSeason 10 = .ok (.aload_n 0, 1) := by decide +kernel
theorem dX1_passSeason_11 : decode cX1_passSeason 11 = .ok (.getfield 9, 3) := by decide +kernel
theorem dX1_passSeason_14 : decode cX1_passSeason 14 = .ok (.iload_n 1, 1) := by decide +kernel
theorem dX1_passSeason_15 : decode cX1_passSeason 15 = .ok (.iaload, 1) := by decide +kernel
theorem dX1_passSeason_16 : decode cX1_passSeason 16 = .ok (.aload_n 0, 1) := by decide +kernel
theorem dX1_passSeason_17 : decode cX1_passSeason 17 = .ok (.getfield 15, 3) := by decide +kernel
theorem dX1_passSeason_20 : decode cX1_passSeason 20 = .ok (.iload_n 1, 1) := by decide +kernel
theorem dX1_passSeason_21 : decode cX1_passSeason 21 = .ok (.iaload, 1) := by decide +kernel
theorem dX1_passSeason_22 : decode cX1_passSeason 22 = .ok (.invokevirtual 24, 3) := by decide +kernel
theorem dX1_passSeason_25 : decode cX1_passSeason 25 = .ok (.istore_n 2, 1) := by decide +kernel
theorem dX1_passSeason_26 : decode cX1_passSeason 26 = .ok (.aload_n 0, 1) := by decide +kernel
theorem dX1_passSeason_27 : decode cX1_passSeason 27 = .ok (.getfield 9, 3) := by decide +kernel
theorem dX1_passSeason_30 : decode cX1_passSeason 30 = .ok (.iload_n 1, 1) := by decide +kernel
theorem dX1_passSeason_31 : decode cX1_passSeason 31 = .ok (.dup2, 1) := by decide +kernel
theorem dX1_passSeason_32 : decode cX1_passSeason 32 = .ok (.iaload, 1) := by decide +kernel
theorem dX1_passSeason_33 : decode cX1_passSeason 33 = .ok (.iload_n 2, 1) := by decide +kernel
theorem dX1_passSeason_34 : decode cX1_passSeason 34 = .ok (.isub, 1) := by decide +kernel
theorem dX1_passSeason_35 : decode cX1_passSeason 35 = .ok (.iastore, 1) := by decide +kernel
theorem dX1_passSeason_36 : decode cX1_passSeason 36 = .ok (.aload_n 0, 1) := by decide +kernel
theorem dX1_passSeason_37 : decode cX1_passSeason 37 = .ok (.getfield 15, 3) := by decide +kernel
theorem dX1_passSeason_40 : decode cX1_passSeason 40 = .ok (.iload_n 1, 1) := by decide +kernel
theorem dX1_passSeason_41 : decode cX1_passSeason 41 = .ok (.dup2, 1) := by decide +kernel
theorem dX1_passSeason_42 : decode cX1_passSeason 42 = .ok (.iaload, 1) := by decide +kernel
theorem dX1_passSeason_43 : decode cX1_passSeason 43 = .ok (.iload_n 2, 1) := by decide +kernel
theorem dX1_passSeason_44 : decode cX1_passSeason 44 = .ok (.iadd, 1) := by decide +kernel
theorem dX1_passSeason_45 : decode cX1_passSeason 45 = .ok (.iastore, 1) := by decide +kernel
theorem dX1_passSeason_46 : decode cX1_passSeason 46 = .ok (.iinc 1 1, 3) := by decide +kernel
theorem dX1_passSeason_49 : decode cX1_passSeason 49 = .ok (.goto (-47), 3) := by decide +kernel
theorem dX1_passSeason_52 : decode cX1_passSeason 52 = .ok (.return_, 1) := by decide +kernel
theorem dX1_changeOf_0 : decode cX1_changeOf 0 = .ok (.iload_n 2, 1) := by decide +kernel
theorem dX1_changeOf_1 : decode cX1_changeOf 1 = .ok (.aload_n 0, 1) := by decide +kernel
theorem dX1_changeOf_2 : decode cX1_changeOf 2 = .ok (.getfield 18, 3) := by decide +kernel
theorem dX1_changeOf_5 : decode cX1_changeOf 5 = .ok (.iload_n 1, 1) := by decide +kernel
theorem dX1_changeOf_6 : decode cX1_changeOf 6 = .ok (.iaload, 1) := by decide +kernel
theorem dX1_changeOf_7 : decode cX1_changeOf 7 = .ok (.aload_n 0, 1) := by decide +kernel
theorem dX1_changeOf_8 : decode cX1_changeOf 8 = .ok (.getfield 21, 3) := by decide +kernel
theorem dX1_changeOf_11 : decode cX1_changeOf 11 = .ok (.iload_n 1, 1) := by decide +kernel
theorem dX1_changeOf_12 : decode cX1_changeOf 12 = .ok (.iaload, 1) := by decide +kernel
theorem dX1_changeOf_13 : decode cX1_changeOf 13 = .ok (.iadd, 1) := by decide +kernel
theorem dX1_changeOf_14 : decode cX1_changeOf 14 = .ok (.imul, 1) := by decide +kernel
theorem dX1_changeOf_15 : decode cX1_changeOf 15 = .ok (.sipush 1000, 3) := by decide +kernel
theorem dX1_changeOf_18 : decode cX1_changeOf 18 = .ok (.idiv, 1) := by decide +kernel
theorem dX1_changeOf_19 : decode cX1_changeOf 19 = .ok (.istore 4, 2) := by decide +kernel
theorem dX1_changeOf_21 : decode cX1_changeOf 21 = .ok (.iload_n 3, 1) := by decide +kernel
theorem dX1_changeOf_22 : decode cX1_changeOf 22 = .ok (.iload 4, 2) := by decide +kernel
theorem dX1_changeOf_24 : decode cX1_changeOf 24 = .ok (.iadd, 1) := by decide +kernel
theorem dX1_changeOf_25 : decode cX1_changeOf 25 = .ok (.istore 5, 2) := by decide +kernel
theorem dX1_changeOf_27 : decode cX1_changeOf 27 = .ok (.iload 5, 2) := by decide +kernel
theorem dX1_changeOf_29 : decode cX1_changeOf 29 = .ok (.iload_n 2, 1) := by decide +kernel
theorem dX1_changeOf_30 : decode cX1_changeOf 30 = .ok (.iload 4, 2) := by decide +kernel
theorem dX1_changeOf_32 : decode cX1_changeOf 32 = .ok (.isub, 1) := by decide +kernel
theorem dX1_changeOf_33 : decode cX1_changeOf 33 = .ok (.if_icmp .ge 14, 3) := by decide +kernel
theorem dX1_changeOf_36 : decode cX1_changeOf 36 = .ok (.iload 5, 2) := by decide +kernel
theorem dX1_changeOf_38 : decode cX1_changeOf 38 = .ok (.iconst 5, 1) := by decide +kernel
theorem dX1_changeOf_39 : decode cX1_changeOf 39 = .ok (.imul, 1) := by decide +kernel
theorem dX1_changeOf_40 : decode cX1_changeOf 40 = .ok (.sipush 1000, 3) := by decide +kernel
theorem dX1_changeOf_43 : decode cX1_changeOf 43 = .ok (.idiv, 1) := by decide +kernel
theorem dX1_changeOf_44 : decode cX1_changeOf 44 = .ok (.goto 4, 3) := by decide +kernel
theorem dX1_changeOf_47 : decode cX1_changeOf 47 = .ok (.iconst 0, 1) := by decide +kernel
theorem dX1_changeOf_48 : decode cX1_changeOf 48 = .ok (.istore 6, 2) := by decide +kernel
theorem dX1_changeOf_50 : decode cX1_changeOf 50 = .ok (.iload 4, 2) := by decide +kernel
theorem dX1_changeOf_52 : decode cX1_changeOf 52 = .ok (.iload 6, 2) := by decide +kernel
theorem dX1_changeOf_54 : decode cX1_changeOf 54 = .ok (.isub, 1) := by decide +kernel
theorem dX1_changeOf_55 : decode cX1_changeOf 55 = .ok (.ireturn, 1) := by decide +kernel
theorem dX1_allNew_0 : decode cX1_allNew 0 = .ok (.iconst 0, 1) := by decide +kernel
theorem dX1_allNew_1 : decode cX1_allNew 1 = .ok (.istore_n 1, 1) := by decide +kernel
theorem dX1_allNew_2 : decode cX1_allNew 2 = .ok (.iconst 0, 1) := by decide +kernel
theorem dX1_allNew_3 : decode cX1_allNew 3 = .ok (.istore_n 2, 1) := by decide +kernel
theorem dX1_allNew_4 : decode cX1_allNew 4 = .ok (.iload_n 2, 1) := by decide +kernel
theorem dX1_allNew_5 : decode cX1_allNew 5 = .ok (.bipush 6, 2) := by decide +kernel
theorem dX1_allNew_7 : decode cX1_allNew 7 = .ok (.if_icmp .ge 18, 3) := by decide +kernel
theorem dX1_allNew_10 : decode cX1_allNew 10 = .ok (.iload_n 1, 1) := by decide +kernel
theorem dX1_allNew_11 : decode cX1_allNew 11 = .ok (.aload_n 0, 1) := by decide +kernel
theorem dX1_allNew_12 : decode cX1_allNew 12 = .ok (.getfield 15, 3) := by decide +kernel
theorem dX1_allNew_15 : decode cX1_allNew 15 = .ok (.iload_n 2, 1) := by decide +kernel
theorem dX1_allNew_16 : decode cX1_allNew 16 = .ok (.iaload, 1) := by decide +kernel
theorem dX1_allNew_17 : decode cX1_allNew 17 = .ok (.iadd, 1) := by decide +kernel
theorem dX1_allNew_18 : decode cX1_allNew 18 = .ok (.istore_n 1, 1) := by decide +kernel
theorem dX1_allNew_19 : decode cX1_allNew 19 = .ok (.iinc 2 1, 3) := by decide +kernel
theorem dX1_allNew_22 : decode cX1_allNew 22 = .ok (.goto (-18), 3) := by decide +kernel
theorem dX1_allNew_25 : decode cX1_allNew 25 = .ok (.iload_n 1, 1) := by decide +kernel
theorem dX1_allNew_26 : decode cX1_allNew 26 = .ok (.ireturn, 1) := by decide +kernel
set_option maxRecDepth 20000 in
theorem ggX1_seasonsTillHalf_X1_changeOf : GoodIn wsX1_seasonsTillHalf wsX1_changeOf := goodIn_r _ [7, 8, 9, 10, 11, 12, 13] (by decide +kernel) (by decide +kernel)
set_option maxRecDepth 20000 in
theorem gX1_seasonsTillHalf_X1_changeOf : GoodIn wsX1_seasonsTillHalf (wsV RX1 24 RX1 yX1_changeOf wsX1_changeOf) := goodIn_app (goodIn_of _ (by decide +kernel)) ggX1_seasonsTillHalf_X1_changeOf
theorem dX1_seasonsTillHalf_0 : decode cX1_seasonsTillHalf 0 = .ok (.aload_n 0, 1) := by decide +kernel
theorem dX1_seasonsTillHalf_1 : decode cX1_seasonsTillHalf 1 = .ok (.getfield 9, 3) := by decide +kernel
theorem dX1_seasonsTillHalf_4 : decode cX1_seasonsTillHalf 4 = .ok (.iload_n 1, 1) := by decide +kernel
theorem dX1_seasonsTillHalf_5 : decode cX1_seasonsTillHalf 5 = .ok (.iaload, 1) := by decide +kernel
theorem dX1_seasonsTillHalf_6 : decode cX1_seasonsTillHalf 6 = .ok (.istore_n 2, 1) := by decide +kernel
theorem dX1_seasonsTillHalf_7 : decode cX1_seasonsTillHalf 7 = .ok (.aload_n 0, 1) := by decide +kernel
theorem dX1_seasonsTillHalf_8 : decode cX1_seasonsTillHalf 8 = .ok (.getfield 15, 3) := by decide +kernel
theorem dX1_seasonsTillHalf_11 : decode cX1_seasonsTillHalf 11 = .ok (.iload_n 1, 1) := by decide +kernel
theorem dX1_seasonsTillHalf_12 : decode cX1_seasonsTillHalf 12 = .ok (.iaload, 1) := by decide +kernel
theorem dX1_seasonsTillHalf_13 : decode cX1_seasonsTillHalf 13 = .ok (.istore_n 3, 1) := by decide +kernel
theorem dX1_seasonsTillHalf_14 : decode cX1_seasonsTillHalf 14 = .ok (.iconst 0, 1) := by decide +kernel
theorem dX1_seasonsTillHalf_15 : decode cX1_seasonsTillHalf 15 = .ok (.istore 4, 2) := by decide +kernel
theorem dX1_seasonsTillHalf_17 : decode cX1_seasonsTillHalf 17 = .ok (.iload 4, 2) := by decide +kernel
theorem dX1_seasonsTillHalf_19 : decode cX1_seasonsTillHalf 19 = .ok (.sipush 400, 3) := by decide +kernel
theorem dX1_seasonsTillHalf_22 : decode cX1_seasonsTillHalf 22 = .ok (.if_icmp .gt 36, 3) := by decide +kernel
theorem dX1_seasonsTillHalf_25 : decode cX1_seasonsTillHalf 25 = .ok (.iload_n 3, 1) := by decide +kernel
theorem dX1_seasonsTillHalf_26 : decode cX1_seasonsTillHalf 26 = .ok (.iload_n 2, 1) := by decide +kernel
theorem dX1_seasonsTillHalf_27 : decode cX1_seasonsTillHalf 27 = .ok (.if_icmp .lt 6, 3) := by decide +kernel
theorem dX1_seasonsTillHalf_30 : decode cX1_seasonsTillHalf 30 = .ok (.iload 4, 2) := by decide +kernel
theorem dX1_seasonsTillHalf_32 : decode cX1_seasonsTillHalf 32 = .ok (.ireturn, 1) := by decide +kernel
theorem dX1_seasonsTillHalf_33 : decode cX1_seasonsTillHalf 33 = .ok (.aload_n 0, 1) := by decide +kernel
theorem dX1_seasonsTillHalf_34 : decode cX1_seasonsTillHalf 34 = .ok (.iload_n 1, 1) := by decide +kernel
theorem dX1_seasonsTillHalf_35 : decode cX1_seasonsTillHalf 35 = .ok (.iload_n 2, 1) := by decide +kernel
theorem dX1_seasonsTillHalf_36 : decode cX1_seasonsTillHalf 36 = .ok (.iload_n 3, 1) := by decide +kernel
theorem dX1_seasonsTillHalf_37 : decode cX1_seasonsTillHalf 37 = .ok (.invokevirtual 24, 3) := by decide +kernel
theorem dX1_seasonsTillHalf_40 : decode cX1_seasonsTillHalf 40 = .ok (.istore 5, 2) := by decide +kernel
theorem dX1_seasonsTillHalf_42 : decode cX1_seasonsTillHalf 42 = .ok (.iload_n 2, 1) := by decide +kernel
theorem dX1_seasonsTillHalf_43 : decode cX1_seasonsTillHalf 43 = .ok (.iload 5, 2) := by decide +kernel
theorem dX1_seasonsTillHalf_45 : decode cX1_seasonsTillHalf 45 = .ok (.isub, 1) := by decide +kernel
theorem dX1_seasonsTillHalf_46 : decode cX1_seasonsTillHalf 46 = .ok (.istore_n 2, 1) := by decide +kernel
theorem dX1_seasonsTillHalf_47 : decode cX1_seasonsTillHalf 47 = .ok (.iload_n 3, 1) := by decide +kernel
theorem dX1_seasonsTillHalf_48 : decode cX1_seasonsTillHalf 48 = .ok (.iload 5, 2) := by decide +kernel
theorem dX1_seasonsTillHalf_50 : decode cX1_seasonsTillHalf 50 = .ok (.iadd, 1) := by decide +kernel
theorem dX1_seasonsTillHalf_51 : decode cX1_seasonsTillHalf 51 = .ok (.istore_n 3, 1) := by decide +kernel
theorem dX1_seasonsTillHalf_52 : decode cX1_seasonsTillHalf 52 = .ok (.iinc 4 1, 3) := by decide +kernel
theorem dX1_seasonsTillHalf_55 : decode cX1_seasonsTillHalf 55 = .ok (.goto (-38), 3) := by decide +kernel
theorem dX1_seasonsTillHalf_58 : decode cX1_seasonsTillHalf 58 = .ok (.bipush (-4), 2) := by decide +kernel
theorem dX1_seasonsTillHalf_60 : decode cX1_seasonsTillHalf 60 = .ok (.ireturn, 1) := by decide +kernel
theorem dX1_copyFrom_0 : decode cX1_copyFrom 0 = .ok (.aload_n 1, 1) := by decide +kernel
theorem dX1_copyFrom_1 : decode cX1_copyFrom 1 = .ok (.getfield 9, 3) := by decide +kernel
theorem dX1_copyFrom_4 : decode cX1_copyFrom 4 = .ok (.iconst 0, 1) := by decide +kernel
theorem dX1_copyFrom_5 : decode cX1_copyFrom 5 = .ok (.aload_n 0, 1) := by decide +kernel
theorem dX1_copyFrom_6 : decode cX1_copyFrom 6 = .ok (.getfield 9, 3) := by decide +kernel
theorem dX1_copyFrom_9 : decode cX1_copyFrom 9 = .ok (.iconst 0, 1) := by decide +kernel
theorem dX1_copyFrom_10 : decode cX1_copyFrom 10 = .ok (.bipush 6, 2) := by decide +kernel
theorem dX1_copyFrom_12 : decode cX1_copyFrom 12 = .ok (.invokestatic 28, 3) := by decide +kernel
theorem dX1_copyFrom_15 : decode cX1_copyFrom 15 = .ok (.aload_n 1, 1) := by decide +kernel
theorem dX1_copyFrom_16 : decode cX1_copyFrom 16 = .ok (.getfield 15, 3) := by decide +kernel
theorem dX1_copyFrom_19 : decode cX1_copyFrom 19 = .ok (.iconst 0, 1) := by decide +kernel
theorem dX1_copyFrom_20 : decode cX1_copyFrom 20 = .ok (.aload_n 0, 1) := by decide +kernel
theorem dX1_copyFrom_21 : decode cX1_copyFrom 21 = .ok (.getfield 15, 3) := by decide +kernel
theorem dX1_copyFrom_24 : decode cX1_copyFrom 24 = .ok (.iconst 0, 1) := by decide +kernel
theorem dX1_copyFrom_25 : decode cX1_copyFrom 25 = .ok (.bipush 6, 2) := by decide +kernel
theorem dX1_copyFrom_27 : decode cX1_copyFrom 27 = .ok (.invokestatic 28, 3) := by decide +kernel
theorem dX1_copyFrom_30 : decode cX1_copyFrom 30 = .ok (.aload_n 1, 1) := by decide +kernel
theorem dX1_copyFrom_31 : decode cX1_copyFrom 31 = .ok (.getfield 18, 3) := by decide +kernel
theorem dX1_copyFrom_34 : decode cX1_copyFrom 34 = .ok (.iconst 0, 1) := by decide +kernel
theorem dX1_copyFrom_35 : decode cX1_copyFrom 35 = .ok (.aload_n 0, 1) := by decide +kernel
theorem dX1_copyFrom_36 : decode cX1_copyFrom 36 = .ok (.getfield 18, 3) := by decide +kernel
theorem dX1_copyFrom_39 : decode cX1_copyFrom 39 = .ok (.iconst 0, 1) := by decide +kernel
theorem dX1_copyFrom_40 : decode cX1_copyFrom 40 = .ok (.bipush 6, 2) := by decide +kernel
theorem dX1_copyFrom_42 : decode cX1_copyFrom 42 = .ok (.invokestatic 28, 3) := by decide +kernel
theorem dX1_copyFrom_45 : decode cX1_copyFrom 45 = .ok (.aload_n 1, 1) := by decide +kernel
theorem dX1_copyFrom_46 : decode cX1_copyFrom 46 = .ok (.getfield 21, 3) := by decide +kernel
theorem dX1_copyFrom_49 : decode cX1_copyFrom 49 = .ok (.iconst 0, 1) := by decide +kernel
theorem dX1_copyFrom_50 : decode cX1_copyFrom 50 = .ok (.aload_n 0, 1) := by decide +kernel
theorem dX1_copyFrom_51 : decode cX1_copyFrom 51 = .ok (.getfield 21, 3) := by decide +kernel
theorem dX1_copyFrom_54 : decode cX1_copyFrom 54 = .ok (.iconst 0, 1) := by decide +kernel
theorem dX1_copyFrom_55 : decode cX1_copyFrom 55 = .ok (.bipush 6, 2) := by decide +kernel
theorem dX1_copyFrom_57 : decode cX1_copyFrom 57 = .ok (.invokestatic 28, 3) := by decide +kernel
theorem dX1_copyFrom_60 : decode cX1_copyFrom 60 = .ok (.return_, 1) := by decide +kernel
theorem dX2_init_0 : decode cX2_init 0 = .ok (.aload_n 0, 1) := by decide +kernel
theorem dX2_init_1 : decode cX2_init 1 = .ok (.invokespecial 1, 3) := by decide +kernel
theorem dX2_init_4 : decode cX2_init 4 = .ok (.aload_n 0, 1) := by decide +kernel
theorem dX2_init_5 : decode cX2_init 5 = .ok (.bipush 12, 2) := by decide +kernel
theorem dX2_init_7 : decode cX2_init 7 = .ok (.newarray .int, 2) := by decide +kernel
theorem dX2_init_9 : decode cX2_init 9 = .ok (.putfield 9, 3) := by decide +kernel
theorem dX2_init_12 : decode cX2_init 12 = .ok (.aload_n 0, 1) := by decide +kernel
theorem dX2_init_13 : decode cX2_init 13 = .ok (.bipush 12, 2) := by decide +kernel
theorem dX2_init_15 : decode cX2_init 15 = .ok (.newarray .int, 2) := by decide +kernel
theorem dX2_init_17 : decode cX2_init 17 = .ok (.putfield 13, 3) := by decide +kernel
theorem dX2_init_20 : decode cX2_init 20 = .ok (.aload_n 0, 1) := by decide +kernel
theorem dX2_init_21 : decode cX2_init 21 = .ok (.bipush 12, 2) := by decide +kernel
theorem dX2_init_23 : decode cX2_init 23 = .ok (.newarray .int, 2) := by decide +kernel
theorem dX2_init_25 : decode cX2_init 25 = .ok (.putfield 16, 3) := by decide +kernel
theorem dX2_init_28 : decode cX2_init 28 = .ok (.aload_n 0, 1) := by decide +kernel
theorem dX2_init_29 : decode cX2_init 29 = .ok (.iconst 0, 1) := by decide +kernel
theorem dX2_init_30 : decode cX2_init 30 = .ok (.putfield 19, 3) := by decide +kernel
theorem dX2_init_33 : decode cX2_init 33 = .ok (.aload_n 0, 1) := by decide +kernel
theorem dX2_init_34 : decode cX2_init 34 = .ok (.lconst 0, 1) := by decide +kernel
theorem dX2_init_35 : decode cX2_init 35 = .ok (.putfield 23, 3) := by decide +kernel
theorem dX2_init_38 : decode cX2_init 38 = .ok (.aload_n 0, 1) := by decide +kernel
theorem dX2_init_39 : decode cX2_init 39 = .ok (.lconst 1, 1) := by decide +kernel
theorem dX2_init_40 : decode cX2_init 40 = .ok (.putfield 27, 3) := by decide +kernel
theorem dX2_init_43 : decode cX2_init 43 = .ok (.return_, 1) := by decide +kernel
theorem dX2_add_0 : decode cX2_add 0 = .ok (.aload_n 0, 1) := by decide +kernel
theorem dX2_add_1 : decode cX2_add 1 = .ok (.getfield 9, 3) := by decide +kernel
theorem dX2_add_4 : decode cX2_add 4 = .ok (.aload_n 0, 1) := by decide +kernel
theorem dX2_add_5 : decode cX2_add 5 = .ok (.getfield 19, 3) := by decide +kernel
theorem dX2_add_8 : decode cX2_add 8 = .ok (.iload_n 1, 1) := by decide +kernel
theorem dX2_add_9 : decode cX2_add 9 = .ok (.iastore, 1) := by decide +kernel
theorem dX2_add_10 : decode cX2_add 10 = .ok (.aload_n 0, 1) := by decide +kernel
theorem dX2_add_11 : decode cX2_add 11 = .ok (.getfield 13, 3) := by decide +kernel
theorem dX2_add_14 : decode cX2_add 14 = .ok (.aload_n 0, 1) := by decide +kernel
theorem dX2_add_15 : decode cX2_add 15 = .ok (.getfield 19, 3) := by decide +kernel
theorem dX2_add_18 : decode cX2_add 18 = .ok (.iload_n 2, 1) := by decide +kernel
theorem dX2_add_19 : decode cX2_add 19 = .ok (.iastore, 1) := by decide +kernel
theorem dX2_add_20 : decode cX2_add 20 = .ok (.aload_n 0, 1) := by decide +kernel
theorem dX2_add_21 : decode cX2_add 21 = .ok (.getfield 16, 3) := by decide +kernel
theorem dX2_add_24 : decode cX2_add 24 = .ok (.aload_n 0, 1) := by decide +kernel
theorem dX2_add_25 : decode cX2_add 25 = .ok (.getfield 19, 3) := by decide +kernel
theorem dX2_add_28 : decode cX2_add 28 = .ok (.iload_n 3, 1) := by decide +kernel
theorem dX2_add_29 : decode cX2_add 29 = .ok (.iastore, 1) := by decide +kernel
theorem dX2_add_30 : decode cX2_add 30 = .ok (.aload_n 0, 1) := by decide +kernel
theorem dX2_add_31 : decode cX2_add 31 = .ok (.dup, 1) := by decide +kernel
theorem dX2_add_32 : decode cX2_add 32 = .ok (.getfield 19, 3) := by decide +kernel
theorem dX2_add_35 : decode cX2_add 35 = .ok (.iconst 1, 1) := by decide +kernel
theorem dX2_add_36 : decode cX2_add 36 = .ok (.iadd, 1) := by decide +kernel
theorem dX2_add_37 : decode cX2_add 37 = .ok (.putfield 19, 3) := by decide +kernel
theorem dX2_add_40 : decode cX2_add 40 = .ok (.aload_n 0, 1) := by decide +kernel
theorem dX2_add_41 : decode cX2_add 41 = .ok (.getfield 19, 3) := by decide +kernel
theorem dX2_add_44 : decode cX2_add 44 = .ok (.ireturn, 1) := by decide +kernel
set_option maxRecDepth 20000 in
theorem ggX2_reckon_X2_reckonDoubt : GoodIn wsX2_reckon wsX2_reckonDoubt := goodIn_r _ [11, 1, 4, 12, 13, 14, 10, 15, 3, 16, 17, 18, 19, 20, 21, 22, 23, 24, 25, 26, 27, 28, 29, 30] (by decide +kernel) (by decide +kernel)
set_option maxRecDepth 20000 in
theorem gX2_reckon_X2_reckonDoubt : GoodIn wsX2_reckon (wsV RX2 30 RX2 yX2_reckonDoubt wsX2_reckonDoubt) := goodIn_app (goodIn_of _ (by decide +kernel)) ggX2_reckon_X2_reckonDoubt
set_option maxRecDepth 20000 in
theorem ggX2_reckon_X2_reduce : GoodIn wsX2_reckon wsX2_reduce := goodIn_r _ [19, 20, 21, 22, 23, 10, 24, 25, 26, 27, 28, 29, 30] (by decide +kernel) (by decide +kernel)
set_option maxRecDepth 20000 in
theorem gX2_reckon_X2_reduce : GoodIn wsX2_reckon (wsV RX2 36 RX2 yX2_reduce wsX2_reduce) := goodIn_app (goodIn_of _ (by decide +kernel)) ggX2_reckon_X2_reduce
theorem dX2_reckon_0 : decode cX2_reckon 0 = .ok (.iload_n 1, 1) := by decide +kernel
theorem dX2_reckon_1 : decode cX2_reckon 1 = .ok (.iconst 4, 1) := by decide +kernel
theorem dX2_reckon_2 : decode cX2_reckon 2 = .ok (.if_icmp .ne 8, 3) := by decide +kernel
theorem dX2_reckon_5 : decode cX2_reckon 5 = .ok (.aload_n 0, 1) := by decide +kernel
theorem dX2_reckon_6 : decode cX2_reckon 6 = .ok (.invokevirtual 30, 3) := by decide +kernel
theorem dX2_reckon_9 : decode cX2_reckon 9 = .ok (.ireturn, 1) := by decide +kernel
theorem dX2_reckon_10 : decode cX2_reckon 10 = .ok (.lconst 0, 1) := by decide +kernel
theorem dX2_reckon_11 : decode cX2_reckon 11 = .ok (.lstore_n 2, 1) := by decide +kernel
theorem dX2_reckon_12 : decode cX2_reckon 12 = .ok (.lconst 0, 1) := by decide +kernel
theorem dX2_reckon_13 : decode cX2_reckon 13 = .ok (.lstore 4, 2) := by decide +kernel
theorem dX2_reckon_15 : decode cX2_reckon 15 = .ok (.iconst 0, 1) := by decide +kernel
theorem dX2_reckon_16 : decode cX2_reckon 16 = .ok (.istore 6, 2) := by decide +kernel
theorem dX2_reckon_18 : decode cX2_reckon 18 = .ok (.iload 6, 2) := by decide +kernel
theorem dX2_reckon_20 : decode cX2_reckon 20 = .ok (.aload_n 0, 1) := by decide +kernel
theorem dX2_reckon_21 : decode cX2_reckon 21 = .ok (.getfield 19, 3) := by decide +kernel
theorem dX2_reckon_24 : decode cX2_reckon 24 = .ok (.if_icmp .ge 52, 3) := by decide +kernel
theorem dX2_reckon_27 : decode cX2_reckon 27 = .ok (.iload_n 1, 1) := by decide +kernel
theorem dX2_reckon_28 : decode cX2_reckon 28 = .ok (.iconst 2, 1) := by decide +kernel
theorem dX2_reckon_29 : decode cX2_reckon 29 = .ok (.if_icmp .ge 17, 3) := by decide +kernel
theorem dX2_reckon_32 : decode cX2_reckon 32 = .ok (.aload_n 0, 1) := by decide +kernel
theorem dX2_reckon_33 : decode cX2_reckon 33 = .ok (.getfield 9, 3) := by decide +kernel
theorem dX2_reckon_36 : decode cX2_reckon 36 = .ok (.iload 6, 2) := by decide +kernel
theorem dX2_reckon_38 : decode cX2_reckon 38 = .ok (.iaload, 1) := by decide +kernel
theorem dX2_reckon_39 : decode cX2_reckon 39 = .ok (.iload_n 1, 1) := by decide +kernel
theorem dX2_reckon_40 : decode cX2_reckon 40 = .ok (.if_icmp .eq 6, 3) := by decide +kernel
theorem dX2_reckon_43 : decode cX2_reckon 43 = .ok (.goto 27, 3) := by decide +kernel
theorem dX2_reckon_46 : decode cX2_reckon 46 = .ok (.lload_n 2, 1) := by decide +kernel
theorem dX2_reckon_47 : decode cX2_reckon 47 = .ok (.aload_n 0, 1) := by decide +kernel
theorem dX2_reckon_48 : decode cX2_reckon 48 = .ok (.getfield 13, 3) := by decide +kernel
theorem dX2_reckon_51 : decode cX2_reckon 51 = .ok (.iload 6, 2) := by decide +kernel
theorem dX2_reckon_53 : decode cX2_reckon 53 = .ok (.iaload, 1) := by decide +kernel
theorem dX2_reckon_54 : decode cX2_reckon 54 = .ok (.i2l, 1) := by decide +kernel
theorem dX2_reckon_55 : decode cX2_reckon 55 = .ok (.ladd, 1) := by decide +kernel
theorem dX2_reckon_56 : decode cX2_reckon 56 = .ok (.lstore_n 2, 1) := by decide +kernel
theorem dX2_reckon_57 : decode cX2_reckon 57 = .ok (.lload 4, 2) := by decide +kernel
theorem dX2_reckon_59 : decode cX2_reckon 59 = .ok (.aload_n 0, 1) := by decide +kernel
theorem dX2_reckon_60 : decode cX2_reckon 60 = .ok (.getfield 16, 3) := by decide +kernel
theorem dX2_reckon_63 : decode cX2_reckon 63 = .ok (.iload 6, 2) := by decide +kernel
theorem dX2_reckon_65 : decode cX2_reckon 65 = .ok (.iaload, 1) := by decide +kernel
theorem dX2_reckon_66 : decode cX2_reckon 66 = .ok (.i2l, 1) := by decide +kernel
theorem dX2_reckon_67 : decode cX2_reckon 67 = .ok (.ladd, 1) := by decide +kernel
theorem dX2_reckon_68 : decode cX2_reckon 68 = .ok (.lstore 4, 2) := by decide +kernel
theorem dX2_reckon_70 : decode cX2_reckon 70 = .ok (.iinc 6 1, 3) := by decide +kernel
theorem dX2_reckon_73 : decode cX2_reckon 73 = .ok (.goto (-55), 3) := by decide +kernel
theorem dX2_reckon_76 : decode cX2_reckon 76 = .ok (.lload 4, 2) := by decide +kernel
theorem dX2_reckon_78 : decode cX2_reckon 78 = .ok (.lconst 0, 1) := by decide +kernel
theorem dX2_reckon_79 : decode cX2_reckon 79 = .ok (.lcmp, 1) := by decide +kernel
theorem dX2_reckon_80 : decode cX2_reckon 80 = .ok (.ifCond .ne 5, 3) := by decide +kernel
theorem dX2_reckon_83 : decode cX2_reckon 83 = .ok (.iconst 0, 1) := by decide +kernel
theorem dX2_reckon_84 : decode cX2_reckon 84 = .ok (.ireturn, 1) := by decide +kernel
theorem dX2_reckon_85 : decode cX2_reckon 85 = .ok (.iload_n 1, 1) := by decide +kernel
theorem dX2_reckon_86 : decode cX2_reckon 86 = .ok (.iconst 3, 1) := by decide +kernel
theorem dX2_reckon_87 : decode cX2_reckon 87 = .ok (.if_icmp .ne 17, 3) := by decide +kernel
theorem dX2_reckon_90 : decode cX2_reckon 90 = .ok (.aload_n 0, 1) := by decide +kernel
theorem dX2_reckon_91 : decode cX2_reckon 91 = .ok (.lload_n 2, 1) := by decide +kernel
theorem dX2_reckon_92 : decode cX2_reckon 92 = .ok (.lload 4, 2) := by decide +kernel
theorem dX2_reckon_94 : decode cX2_reckon 94 = .ok (.ldc2_w 34, 3) := by decide +kernel
theorem dX2_reckon_97 : decode cX2_reckon 97 = .ok (.lmul, 1) := by decide +kernel
theorem dX2_reckon_98 : decode cX2_reckon 98 = .ok (.invokevirtual 36, 3) := by decide +kernel
theorem dX2_reckon_101 : decode cX2_reckon 101 = .ok (.goto 14, 3) := by decide +kernel
theorem dX2_reckon_104 : decode cX2_reckon 104 = .ok (.aload_n 0, 1) := by decide +kernel
theorem dX2_reckon_105 : decode cX2_reckon 105 = .ok (.lload_n 2, 1) := by decide +kernel
theorem dX2_reckon_106 : decode cX2_reckon 106 = .ok (.ldc2_w 40, 3) := by decide +kernel
theorem dX2_reckon_109 : decode cX2_reckon 109 = .ok (.lmul, 1) := by decide +kernel
theorem dX2_reckon_110 : decode cX2_reckon 110 = .ok (.lload 4, 2) := by decide +kernel
theorem dX2_reckon_112 : decode cX2_reckon 112 = .ok (.invokevirtual 36, 3) := by decide +kernel
theorem dX2_reckon_115 : decode cX2_reckon 115 = .ok (.iconst 1, 1) := by decide +kernel
theorem dX2_reckon_116 : decode cX2_reckon 116 = .ok (.ireturn, 1) := by decide +kernel
set_option maxRecDepth 20000 in
theorem ggX2_reckonDoubt_X2_cross : GoodIn wsX2_reckonDoubt wsX2_cross := goodIn_r _ [7, 8, 2, 18, 19, 20, 21, 22, 23] (by decide +kernel) (by decide +kernel)
set_option maxRecDepth 20000 in
theorem gX2_reckonDoubt_X2_cross : GoodIn wsX2_reckonDoubt (wsV RX2 42 RX2 yX2_cross wsX2_cross) := goodIn_app (goodIn_of _ (by decide +kernel)) ggX2_reckonDoubt_X2_cross
set_option maxRecDepth 20000 in
theorem ggX2_reckonDoubt_X2_reduce : GoodIn wsX2_reckonDoubt wsX2_reduce := goodIn_r _ [12, 13, 14, 15, 16, 6, 17, 18, 19, 20, 21, 22, 23] (by decide +kernel) (by decide +kernel)
set_option maxRecDepth 20000 in
theorem gX2_reckonDoubt_X2_reduce : GoodIn wsX2_reckonDoubt (wsV RX2 36 RX2 yX2_reduce wsX2_reduce) := goodIn_app (goodIn_of _ (by decide +kernel)) ggX2_reckonDoubt_X2_reduce
theorem dX2_reckonDoubt_0 : decode cX2_reckonDoubt 0 = .ok (.aload_n 0, 1) := by decide +kernel
theorem dX2_reckonDoubt_1 : decode cX2_reckonDoubt 1 = .ok (.getfield 19, 3) := by decide +kernel
theorem dX2_reckonDoubt_4 : decode cX2_reckonDoubt 4 = .ok (.ifCond .ne 5, 3) := by decide +kernel
theorem dX2_reckonDoubt_7 : decode cX2_reckonDoubt 7 = .ok (.iconst 0, 1) := by decide +kernel
theorem dX2_reckonDoubt_8 : decode cX2_reckonDoubt 8 = .ok (.ireturn, 1) := by decide +kernel
theorem dX2_reckonDoubt_9 : decode cX2_reckonDoubt 9 = .ok (.iconst 0, 1) := by decide +kernel
theorem dX2_reckonDoubt_10 : decode cX2_reckonDoubt 10 = .ok (.istore_n 1, 1) := by decide +kernel
theorem dX2_reckonDoubt_11 : decode cX2_reckonDoubt 11 = .ok (.iconst 0, 1) := by decide +kernel
theorem dX2_reckonDoubt_12 : decode cX2_reckonDoubt 12 = .ok (.istore_n 2, 1) := by decide +kernel
theorem dX2_reckonDoubt_13 : decode cX2_reckonDoubt 13 = .ok (.iconst 1, 1) := by decide +kernel
theorem dX2_reckonDoubt_14 : decode cX2_reckonDoubt 14 = .ok (.istore_n 3, 1) := by decide +kernel
theorem dX2_reckonDoubt_15 : decode cX2_reckonDoubt 15 = .ok (.iload_n 3, 1) := by decide +kernel
theorem dX2_reckonDoubt_16 : decode cX2_reckonDoubt 16 = .ok (.aload_n 0, 1) := by decide +kernel
theorem dX2_reckonDoubt_17 : decode cX2_reckonDoubt 17 = .ok (.getfield 19, 3) := by decide +kernel
theorem dX2_reckonDoubt_20 : decode cX2_reckonDoubt 20 = .ok (.if_icmp .ge 45, 3) := by decide +kernel
theorem dX2_reckonDoubt_23 : decode cX2_reckonDoubt 23 = .ok (.aload_n 0, 1) := by decide +kernel
theorem dX2_reckonDoubt_24 : decode cX2_reckonDoubt 24 = .ok (.iload_n 3, 1) := by decide +kernel
theorem dX2_reckonDoubt_25 : decode cX2_reckonDoubt 25 = .ok (.iload_n 1, 1) := by decide +kernel
theorem dX2_reckonDoubt_26 : decode cX2_reckonDoubt 26 = .ok (.invokevirtual 42, 3) := by decide +kernel
theorem dX2_reckonDoubt_29 : decode cX2_reckonDoubt 29 = .ok (.aload_n 0, 1) := by decide +kernel
theorem dX2_reckonDoubt_30 : decode cX2_reckonDoubt 30 = .ok (.iload_n 1, 1) := by decide +kernel
theorem dX2_reckonDoubt_31 : decode cX2_reckonDoubt 31 = .ok (.iload_n 3, 1) := by decide +kernel
theorem dX2_reckonDoubt_32 : decode cX2_reckonDoubt 32 = .ok (.invokevirtual 42, 3) := by decide +kernel
theorem dX2_reckonDoubt_35 : decode cX2_reckonDoubt 35 = .ok (.lcmp, 1) := by decide +kernel
theorem dX2_reckonDoubt_36 : decode cX2_reckonDoubt 36 = .ok (.ifCond .le 5, 3) := by decide +kernel
theorem dX2_reckonDoubt_39 : decode cX2_reckonDoubt 39 = .ok (.iload_n 3, 1) := by decide +kernel
theorem dX2_reckonDoubt_40 : decode cX2_reckonDoubt 40 = .ok (.istore_n 1, 1) := by decide +kernel
theorem dX2_reckonDoubt_41 : decode cX2_reckonDoubt 41 = .ok (.aload_n 0, 1) := by decide +kernel
theorem dX2_reckonDoubt_42 : decode cX2_reckonDoubt 42 = .ok (.iload_n 3, 1) := by decide +kernel
theorem dX2_reckonDoubt_43 : decode cX2_reckonDoubt 43 = .ok (.iload_n 2, 1) := by decide +kernel
theorem dX2_reckonDoubt_44 : decode cX2_reckonDoubt 44 = .ok (.invokevirtual 42, 3) := by decide +kernel
theorem dX2_reckonDoubt_47 : decode cX2_reckonDoubt 47 = .ok (.aload_n 0, 1) := by decide +kernel
theorem dX2_reckonDoubt_48 : decode cX2_reckonDoubt 48 = .ok (.iload_n 2, 1) := by decide +kernel
theorem dX2_reckonDoubt_49 : decode cX2_reckonDoubt 49 = .ok (.iload_n 3, 1) := by decide +kernel
theorem dX2_reckonDoubt_50 : decode cX2_reckonDoubt 50 = .ok (.invokevirtual 42, 3) := by decide +kernel
theorem dX2_reckonDoubt_53 : decode cX2_reckonDoubt 53 = .ok (.lcmp, 1) := by decide +kernel
theorem dX2_reckonDoubt_54 : decode cX2_reckonDoubt 54 = .ok (.ifCond .ge 5, 3) := by decide +kernel
