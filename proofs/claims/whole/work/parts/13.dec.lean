theorem dX12_people_27 : decode cX12_people 27 = .ok (.ldc_w 288, 3) := by decide +kernel
theorem dX12_people_30 : decode cX12_people 30 = .ok (.iload_n 2, 1) := by decide +kernel
theorem dX12_people_31 : decode cX12_people 31 = .ok (.isub, 1) := by decide +kernel
theorem dX12_people_32 : decode cX12_people 32 = .ok (.i2l, 1) := by decide +kernel
theorem dX12_people_33 : decode cX12_people 33 = .ok (.invokestatic 93, 3) := by decide +kernel
theorem dX12_people_36 : decode cX12_people 36 = .ok (.ifCond .eq 29, 3) := by decide +kernel
theorem dX12_people_39 : decode cX12_people 39 = .ok (.iload 4, 2) := by decide +kernel
theorem dX12_people_41 : decode cX12_people 41 = .ok (.i2l, 1) := by decide +kernel
theorem dX12_people_42 : decode cX12_people 42 = .ok (.lconst 0, 1) := by decide +kernel
theorem dX12_people_43 : decode cX12_people 43 = .ok (.ldc2_w 289, 3) := by decide +kernel
theorem dX12_people_46 : decode cX12_people 46 = .ok (.invokestatic 93, 3) := by decide +kernel
theorem dX12_people_49 : decode cX12_people 49 = .ok (.ifCond .eq 16, 3) := by decide +kernel
theorem dX12_people_52 : decode cX12_people 52 = .ok (.iload 5, 2) := by decide +kernel
theorem dX12_people_54 : decode cX12_people 54 = .ok (.i2l, 1) := by decide +kernel
theorem dX12_people_55 : decode cX12_people 55 = .ok (.lconst 0, 1) := by decide +kernel
theorem dX12_people_56 : decode cX12_people 56 = .ok (.ldc2_w 289, 3) := by decide +kernel
theorem dX12_people_59 : decode cX12_people 59 = .ok (.invokestatic 93, 3) := by decide +kernel
theorem dX12_people_62 : decode cX12_people 62 = .ok (.ifCond .ne 5, 3) := by decide +kernel
theorem dX12_people_65 : decode cX12_people 65 = .ok (.iconst (-1), 1) := by decide +kernel
theorem dX12_people_66 : decode cX12_people 66 = .ok (.ireturn, 1) := by decide +kernel
theorem dX12_people_67 : decode cX12_people 67 = .ok (.aload_n 0, 1) := by decide +kernel
theorem dX12_people_68 : decode cX12_people 68 = .ok (.getfield 62, 3) := by decide +kernel
theorem dX12_people_71 : decode cX12_people 71 = .ok (.iconst 4, 1) := by decide +kernel
theorem dX12_people_72 : decode cX12_people 72 = .ok (.iload_n 1, 1) := by decide +kernel
theorem dX12_people_73 : decode cX12_people 73 = .ok (.imul, 1) := by decide +kernel
theorem dX12_people_74 : decode cX12_people 74 = .ok (.iload_n 2, 1) := by decide +kernel
theorem dX12_people_75 : decode cX12_people 75 = .ok (.iastore, 1) := by decide +kernel
theorem dX12_people_76 : decode cX12_people 76 = .ok (.aload_n 0, 1) := by decide +kernel
theorem dX12_people_77 : decode cX12_people 77 = .ok (.getfield 62, 3) := by decide +kernel
theorem dX12_people_80 : decode cX12_people 80 = .ok (.iconst 4, 1) := by decide +kernel
theorem dX12_people_81 : decode cX12_people 81 = .ok (.iload_n 1, 1) := by decide +kernel
theorem dX12_people_82 : decode cX12_people 82 = .ok (.imul, 1) := by decide +kernel
theorem dX12_people_83 : decode cX12_people 83 = .ok (.iconst 1, 1) := by decide +kernel
theorem dX12_people_84 : decode cX12_people 84 = .ok (.iadd, 1) := by decide +kernel
theorem dX12_people_85 : decode cX12_people 85 = .ok (.iload_n 3, 1) := by decide +kernel
theorem dX12_people_86 : decode cX12_people 86 = .ok (.iastore, 1) := by decide +kernel
theorem dX12_people_87 : decode cX12_people 87 = .ok (.aload_n 0, 1) := by decide +kernel
theorem dX12_people_88 : decode cX12_people 88 = .ok (.getfield 62, 3) := by decide +kernel
theorem dX12_people_91 : decode cX12_people 91 = .ok (.iconst 4, 1) := by decide +kernel
theorem dX12_people_92 : decode cX12_people 92 = .ok (.iload_n 1, 1) := by decide +kernel
theorem dX12_people_93 : decode cX12_people 93 = .ok (.imul, 1) := by decide +kernel
theorem dX12_people_94 : decode cX12_people 94 = .ok (.iconst 2, 1) := by decide +kernel
theorem dX12_people_95 : decode cX12_people 95 = .ok (.iadd, 1) := by decide +kernel
theorem dX12_people_96 : decode cX12_people 96 = .ok (.iload 4, 2) := by decide +kernel
theorem dX12_people_98 : decode cX12_people 98 = .ok (.iastore, 1) := by decide +kernel
theorem dX12_people_99 : decode cX12_people 99 = .ok (.aload_n 0, 1) := by decide +kernel
theorem dX12_people_100 : decode cX12_people 100 = .ok (.getfield 62, 3) := by decide +kernel
theorem dX12_people_103 : decode cX12_people 103 = .ok (.iconst 4, 1) := by decide +kernel
theorem dX12_people_104 : decode cX12_people 104 = .ok (.iload_n 1, 1) := by decide +kernel
theorem dX12_people_105 : decode cX12_people 105 = .ok (.imul, 1) := by decide +kernel
theorem dX12_people_106 : decode cX12_people 106 = .ok (.iconst 3, 1) := by decide +kernel
theorem dX12_people_107 : decode cX12_people 107 = .ok (.iadd, 1) := by decide +kernel
theorem dX12_people_108 : decode cX12_people 108 = .ok (.iload 5, 2) := by decide +kernel
theorem dX12_people_110 : decode cX12_people 110 = .ok (.iastore, 1) := by decide +kernel
theorem dX12_people_111 : decode cX12_people 111 = .ok (.iconst 0, 1) := by decide +kernel
theorem dX12_people_112 : decode cX12_people 112 = .ok (.ireturn, 1) := by decide +kernel
theorem dX12_season_0 : decode cX12_season 0 = .ok (.aload_n 0, 1) := by decide +kernel
theorem dX12_season_1 : decode cX12_season 1 = .ok (.getfield 291, 3) := by decide +kernel
theorem dX12_season_4 : decode cX12_season 4 = .ok (.aload_n 0, 1) := by decide +kernel
theorem dX12_season_5 : decode cX12_season 5 = .ok (.getfield 62, 3) := by decide +kernel
theorem dX12_season_8 : decode cX12_season 8 = .ok (.iconst 4, 1) := by decide +kernel
theorem dX12_season_9 : decode cX12_season 9 = .ok (.iload_n 1, 1) := by decide +kernel
theorem dX12_season_10 : decode cX12_season 10 = .ok (.imul, 1) := by decide +kernel
theorem dX12_season_11 : decode cX12_season 11 = .ok (.iconst 2, 1) := by decide +kernel
theorem dX12_season_12 : decode cX12_season 12 = .ok (.iadd, 1) := by decide +kernel
theorem dX12_season_13 : decode cX12_season 13 = .ok (.iaload, 1) := by decide +kernel
theorem dX12_season_14 : decode cX12_season 14 = .ok (.aload_n 0, 1) := by decide +kernel
theorem dX12_season_15 : decode cX12_season 15 = .ok (.getfield 62, 3) := by decide +kernel
theorem dX12_season_18 : decode cX12_season 18 = .ok (.iconst 4, 1) := by decide +kernel
theorem dX12_season_19 : decode cX12_season 19 = .ok (.iload_n 1, 1) := by decide +kernel
theorem dX12_season_20 : decode cX12_season 20 = .ok (.imul, 1) := by decide +kernel
theorem dX12_season_21 : decode cX12_season 21 = .ok (.iconst 3, 1) := by decide +kernel
theorem dX12_season_22 : decode cX12_season 22 = .ok (.iadd, 1) := by decide +kernel
theorem dX12_season_23 : decode cX12_season 23 = .ok (.iaload, 1) := by decide +kernel
theorem dX12_season_24 : decode cX12_season 24 = .ok (.iadd, 1) := by decide +kernel
theorem dX12_season_25 : decode cX12_season 25 = .ok (.imul, 1) := by decide +kernel
theorem dX12_season_26 : decode cX12_season 26 = .ok (.sipush 1000, 3) := by decide +kernel
theorem dX12_season_29 : decode cX12_season 29 = .ok (.idiv, 1) := by decide +kernel
theorem dX12_season_30 : decode cX12_season 30 = .ok (.istore_n 2, 1) := by decide +kernel
theorem dX12_season_31 : decode cX12_season 31 = .ok (.aload_n 0, 1) := by decide +kernel
theorem dX12_season_32 : decode cX12_season 32 = .ok (.dup, 1) := by decide +kernel
theorem dX12_season_33 : decode cX12_season 33 = .ok (.getfield 291, 3) := by decide +kernel
theorem dX12_season_36 : decode cX12_season 36 = .ok (.iload_n 2, 1) := by decide +kernel
theorem dX12_season_37 : decode cX12_season 37 = .ok (.isub, 1) := by decide +kernel
theorem dX12_season_38 : decode cX12_season 38 = .ok (.putfield 291, 3) := by decide +kernel
theorem dX12_season_41 : decode cX12_season 41 = .ok (.aload_n 0, 1) := by decide +kernel
theorem dX12_season_42 : decode cX12_season 42 = .ok (.dup, 1) := by decide +kernel
theorem dX12_season_43 : decode cX12_season 43 = .ok (.getfield 294, 3) := by decide +kernel
theorem dX12_season_46 : decode cX12_season 46 = .ok (.iload_n 2, 1) := by decide +kernel
theorem dX12_season_47 : decode cX12_season 47 = .ok (.iadd, 1) := by decide +kernel
theorem dX12_season_48 : decode cX12_season 48 = .ok (.putfield 294, 3) := by decide +kernel
theorem dX12_season_51 : decode cX12_season 51 = .ok (.aload_n 0, 1) := by decide +kernel
theorem dX12_season_52 : decode cX12_season 52 = .ok (.getfield 294, 3) := by decide +kernel
theorem dX12_season_55 : decode cX12_season 55 = .ok (.aload_n 0, 1) := by decide +kernel
theorem dX12_season_56 : decode cX12_season 56 = .ok (.getfield 291, 3) := by decide +kernel
theorem dX12_season_59 : decode cX12_season 59 = .ok (.if_icmp .ge 34, 3) := by decide +kernel
theorem dX12_season_62 : decode cX12_season 62 = .ok (.aload_n 0, 1) := by decide +kernel
theorem dX12_season_63 : decode cX12_season 63 = .ok (.getfield 294, 3) := by decide +kernel
theorem dX12_season_66 : decode cX12_season 66 = .ok (.iconst 5, 1) := by decide +kernel
theorem dX12_season_67 : decode cX12_season 67 = .ok (.imul, 1) := by decide +kernel
theorem dX12_season_68 : decode cX12_season 68 = .ok (.sipush 1000, 3) := by decide +kernel
theorem dX12_season_71 : decode cX12_season 71 = .ok (.idiv, 1) := by decide +kernel
theorem dX12_season_72 : decode cX12_season 72 = .ok (.istore_n 3, 1) := by decide +kernel
theorem dX12_season_73 : decode cX12_season 73 = .ok (.aload_n 0, 1) := by decide +kernel
theorem dX12_season_74 : decode cX12_season 74 = .ok (.dup, 1) := by decide +kernel
theorem dX12_season_75 : decode cX12_season 75 = .ok (.getfield 294, 3) := by decide +kernel
theorem dX12_season_78 : decode cX12_season 78 = .ok (.iload_n 3, 1) := by decide +kernel
theorem dX12_season_79 : decode cX12_season 79 = .ok (.isub, 1) := by decide +kernel
theorem dX12_season_80 : decode cX12_season 80 = .ok (.putfield 294, 3) := by decide +kernel
theorem dX12_season_83 : decode cX12_season 83 = .ok (.aload_n 0, 1) := by decide +kernel
theorem dX12_season_84 : decode cX12_season 84 = .ok (.dup, 1) := by decide +kernel
theorem dX12_season_85 : decode cX12_season 85 = .ok (.getfield 291, 3) := by decide +kernel
theorem dX12_season_88 : decode cX12_season 88 = .ok (.iload_n 3, 1) := by decide +kernel
theorem dX12_season_89 : decode cX12_season 89 = .ok (.iadd, 1) := by decide +kernel
theorem dX12_season_90 : decode cX12_season 90 = .ok (.putfield 291, 3) := by decide +kernel
theorem dX12_season_93 : decode cX12_season 93 = .ok (.return_, 1) := by decide +kernel
set_option maxRecDepth 20000 in
theorem ggX12_seasons_X12_in : GoodIn wsX12_seasons wsX12_in := goodIn_r _ [8] (by decide +kernel) (by decide +kernel)
set_option maxRecDepth 20000 in
theorem gX12_seasons_X12_in : GoodIn wsX12_seasons (va_wsS RX12 93 yX12_in wsX12_in) := goodIn_app (goodIn_of _ (by decide +kernel)) ggX12_seasons_X12_in
set_option maxRecDepth 20000 in
theorem ggX12_seasons_X12_season : GoodIn wsX12_seasons wsX12_season := goodIn_r _ [12, 3, 2, 4, 13, 14, 15, 16, 17, 18, 19, 20, 21, 22, 23, 24, 25, 26, 27, 28, 29, 30, 31, 32, 33, 34, 35, 36, 37, 38, 39, 40, 41, 42, 43, 44, 45, 46, 47, 48, 49, 50, 51, 52, 53, 54] (by decide +kernel) (by decide +kernel)
set_option maxRecDepth 20000 in
theorem gX12_seasons_X12_season : GoodIn wsX12_seasons (wsV RX12 297 RX12 yX12_season wsX12_season) := goodIn_app (goodIn_of _ (by decide +kernel)) ggX12_seasons_X12_season
theorem dX12_seasons_0 : decode cX12_seasons 0 = .ok (.iload_n 1, 1) := by decide +kernel
theorem dX12_seasons_1 : decode cX12_seasons 1 = .ok (.i2l, 1) := by decide +kernel
theorem dX12_seasons_2 : decode cX12_seasons 2 = .ok (.lconst 1, 1) := by decide +kernel
theorem dX12_seasons_3 : decode cX12_seasons 3 = .ok (.ldc2_w 99, 3) := by decide +kernel
theorem dX12_seasons_6 : decode cX12_seasons 6 = .ok (.invokestatic 93, 3) := by decide +kernel
theorem dX12_seasons_9 : decode cX12_seasons 9 = .ok (.ifCond .ne 5, 3) := by decide +kernel
theorem dX12_seasons_12 : decode cX12_seasons 12 = .ok (.iconst (-1), 1) := by decide +kernel
theorem dX12_seasons_13 : decode cX12_seasons 13 = .ok (.ireturn, 1) := by decide +kernel
theorem dX12_seasons_14 : decode cX12_seasons 14 = .ok (.iconst 0, 1) := by decide +kernel
theorem dX12_seasons_15 : decode cX12_seasons 15 = .ok (.istore_n 2, 1) := by decide +kernel
theorem dX12_seasons_16 : decode cX12_seasons 16 = .ok (.iconst 0, 1) := by decide +kernel
theorem dX12_seasons_17 : decode cX12_seasons 17 = .ok (.istore_n 3, 1) := by decide +kernel
theorem dX12_seasons_18 : decode cX12_seasons 18 = .ok (.iload_n 3, 1) := by decide +kernel
theorem dX12_seasons_19 : decode cX12_seasons 19 = .ok (.bipush 6, 2) := by decide +kernel
theorem dX12_seasons_21 : decode cX12_seasons 21 = .ok (.if_icmp .ge 88, 3) := by decide +kernel
theorem dX12_seasons_24 : decode cX12_seasons 24 = .ok (.aload_n 0, 1) := by decide +kernel
theorem dX12_seasons_25 : decode cX12_seasons 25 = .ok (.aload_n 0, 1) := by decide +kernel
theorem dX12_seasons_26 : decode cX12_seasons 26 = .ok (.getfield 62, 3) := by decide +kernel
theorem dX12_seasons_29 : decode cX12_seasons 29 = .ok (.iconst 4, 1) := by decide +kernel
theorem dX12_seasons_30 : decode cX12_seasons 30 = .ok (.iload_n 3, 1) := by decide +kernel
theorem dX12_seasons_31 : decode cX12_seasons 31 = .ok (.imul, 1) := by decide +kernel
theorem dX12_seasons_32 : decode cX12_seasons 32 = .ok (.iaload, 1) := by decide +kernel
theorem dX12_seasons_33 : decode cX12_seasons 33 = .ok (.putfield 291, 3) := by decide +kernel
theorem dX12_seasons_36 : decode cX12_seasons 36 = .ok (.aload_n 0, 1) := by decide +kernel
theorem dX12_seasons_37 : decode cX12_seasons 37 = .ok (.aload_n 0, 1) := by decide +kernel
theorem dX12_seasons_38 : decode cX12_seasons 38 = .ok (.getfield 62, 3) := by decide +kernel
theorem dX12_seasons_41 : decode cX12_seasons 41 = .ok (.iconst 4, 1) := by decide +kernel
theorem dX12_seasons_42 : decode cX12_seasons 42 = .ok (.iload_n 3, 1) := by decide +kernel
theorem dX12_seasons_43 : decode cX12_seasons 43 = .ok (.imul, 1) := by decide +kernel
theorem dX12_seasons_44 : decode cX12_seasons 44 = .ok (.iconst 1, 1) := by decide +kernel
theorem dX12_seasons_45 : decode cX12_seasons 45 = .ok (.iadd, 1) := by decide +kernel
theorem dX12_seasons_46 : decode cX12_seasons 46 = .ok (.iaload, 1) := by decide +kernel
theorem dX12_seasons_47 : decode cX12_seasons 47 = .ok (.putfield 294, 3) := by decide +kernel
theorem dX12_seasons_50 : decode cX12_seasons 50 = .ok (.iconst 0, 1) := by decide +kernel
theorem dX12_seasons_51 : decode cX12_seasons 51 = .ok (.istore 4, 2) := by decide +kernel
theorem dX12_seasons_53 : decode cX12_seasons 53 = .ok (.iload 4, 2) := by decide +kernel
theorem dX12_seasons_55 : decode cX12_seasons 55 = .ok (.iload_n 1, 1) := by decide +kernel
theorem dX12_seasons_56 : decode cX12_seasons 56 = .ok (.if_icmp .ge 14, 3) := by decide +kernel
theorem dX12_seasons_59 : decode cX12_seasons 59 = .ok (.aload_n 0, 1) := by decide +kernel
theorem dX12_seasons_60 : decode cX12_seasons 60 = .ok (.iload_n 3, 1) := by decide +kernel
theorem dX12_seasons_61 : decode cX12_seasons 61 = .ok (.invokevirtual 297, 3) := by decide +kernel
theorem dX12_seasons_64 : decode cX12_seasons 64 = .ok (.iinc 4 1, 3) := by decide +kernel
theorem dX12_seasons_67 : decode cX12_seasons 67 = .ok (.goto (-14), 3) := by decide +kernel
theorem dX12_seasons_70 : decode cX12_seasons 70 = .ok (.aload_n 0, 1) := by decide +kernel
theorem dX12_seasons_71 : decode cX12_seasons 71 = .ok (.getfield 62, 3) := by decide +kernel
theorem dX12_seasons_74 : decode cX12_seasons 74 = .ok (.iconst 4, 1) := by decide +kernel
theorem dX12_seasons_75 : decode cX12_seasons 75 = .ok (.iload_n 3, 1) := by decide +kernel
theorem dX12_seasons_76 : decode cX12_seasons 76 = .ok (.imul, 1) := by decide +kernel
theorem dX12_seasons_77 : decode cX12_seasons 77 = .ok (.aload_n 0, 1) := by decide +kernel
theorem dX12_seasons_78 : decode cX12_seasons 78 = .ok (.getfield 291, 3) := by decide +kernel
theorem dX12_seasons_81 : decode cX12_seasons 81 = .ok (.iastore, 1) := by decide +kernel
theorem dX12_seasons_82 : decode cX12_seasons 82 = .ok (.aload_n 0, 1) := by decide +kernel
theorem dX12_seasons_83 : decode cX12_seasons 83 = .ok (.getfield 62, 3) := by decide +kernel
theorem dX12_seasons_86 : decode cX12_seasons 86 = .ok (.iconst 4, 1) := by decide +kernel
theorem dX12_seasons_87 : decode cX12_seasons 87 = .ok (.iload_n 3, 1) := by decide +kernel
theorem dX12_seasons_88 : decode cX12_seasons 88 = .ok (.imul, 1) := by decide +kernel
theorem dX12_seasons_89 : decode cX12_seasons 89 = .ok (.iconst 1, 1) := by decide +kernel
theorem dX12_seasons_90 : decode cX12_seasons 90 = .ok (.iadd, 1) := by decide +kernel
theorem dX12_seasons_91 : decode cX12_seasons 91 = .ok (.aload_n 0, 1) := by decide +kernel
theorem dX12_seasons_92 : decode cX12_seasons 92 = .ok (.getfield 294, 3) := by decide +kernel
theorem dX12_seasons_95 : decode cX12_seasons 95 = .ok (.iastore, 1) := by decide +kernel
theorem dX12_seasons_96 : decode cX12_seasons 96 = .ok (.iload_n 2, 1) := by decide +kernel
theorem dX12_seasons_97 : decode cX12_seasons 97 = .ok (.aload_n 0, 1) := by decide +kernel
theorem dX12_seasons_98 : decode cX12_seasons 98 = .ok (.getfield 294, 3) := by decide +kernel
theorem dX12_seasons_101 : decode cX12_seasons 101 = .ok (.iadd, 1) := by decide +kernel
theorem dX12_seasons_102 : decode cX12_seasons 102 = .ok (.istore_n 2, 1) := by decide +kernel
theorem dX12_seasons_103 : decode cX12_seasons 103 = .ok (.iinc 3 1, 3) := by decide +kernel
theorem dX12_seasons_106 : decode cX12_seasons 106 = .ok (.goto (-88), 3) := by decide +kernel
theorem dX12_seasons_109 : decode cX12_seasons 109 = .ok (.iload_n 2, 1) := by decide +kernel
theorem dX12_seasons_110 : decode cX12_seasons 110 = .ok (.ireturn, 1) := by decide +kernel
set_option maxRecDepth 20000 in
theorem ggX12_uses_X12_in : GoodIn wsX12_uses wsX12_in := goodIn_r _ [9] (by decide +kernel) (by decide +kernel)
set_option maxRecDepth 20000 in
theorem gX12_uses_X12_in : GoodIn wsX12_uses (va_wsS RX12 93 yX12_in wsX12_in) := goodIn_app (goodIn_of _ (by decide +kernel)) ggX12_uses_X12_in
set_option maxRecDepth 20000 in
theorem ggX12_uses_X12_season : GoodIn wsX12_uses wsX12_season := goodIn_r _ [13, 4, 3, 5, 14, 15, 16, 17, 18, 19, 20, 21, 22, 23, 24, 25, 26, 27, 28, 29, 30, 31, 32, 33, 34, 35, 36, 37, 38, 39, 40, 41, 42, 43, 44, 45, 46, 47, 48, 49, 50, 51, 52, 53, 54, 55] (by decide +kernel) (by decide +kernel)
set_option maxRecDepth 20000 in
theorem gX12_uses_X12_season : GoodIn wsX12_uses (wsV RX12 297 RX12 yX12_season wsX12_season) := goodIn_app (goodIn_of _ (by decide +kernel)) ggX12_uses_X12_season
theorem dX12_uses_0 : decode cX12_uses 0 = .ok (.iload_n 1, 1) := by decide +kernel
theorem dX12_uses_1 : decode cX12_uses 1 = .ok (.i2l, 1) := by decide +kernel
theorem dX12_uses_2 : decode cX12_uses 2 = .ok (.lconst 0, 1) := by decide +kernel
theorem dX12_uses_3 : decode cX12_uses 3 = .ok (.ldc2_w 200, 3) := by decide +kernel
theorem dX12_uses_6 : decode cX12_uses 6 = .ok (.invokestatic 93, 3) := by decide +kernel
theorem dX12_uses_9 : decode cX12_uses 9 = .ok (.ifCond .eq 15, 3) := by decide +kernel
theorem dX12_uses_12 : decode cX12_uses 12 = .ok (.iload_n 2, 1) := by decide +kernel
theorem dX12_uses_13 : decode cX12_uses 13 = .ok (.i2l, 1) := by decide +kernel
theorem dX12_uses_14 : decode cX12_uses 14 = .ok (.lconst 0, 1) := by decide +kernel
theorem dX12_uses_15 : decode cX12_uses 15 = .ok (.ldc2_w 230, 3) := by decide +kernel
theorem dX12_uses_18 : decode cX12_uses 18 = .ok (.invokestatic 93, 3) := by decide +kernel
theorem dX12_uses_21 : decode cX12_uses 21 = .ok (.ifCond .ne 5, 3) := by decide +kernel
theorem dX12_uses_24 : decode cX12_uses 24 = .ok (.iconst (-1), 1) := by decide +kernel
theorem dX12_uses_25 : decode cX12_uses 25 = .ok (.ireturn, 1) := by decide +kernel
theorem dX12_uses_26 : decode cX12_uses 26 = .ok (.aload_n 0, 1) := by decide +kernel
theorem dX12_uses_27 : decode cX12_uses 27 = .ok (.aload_n 0, 1) := by decide +kernel
theorem dX12_uses_28 : decode cX12_uses 28 = .ok (.getfield 62, 3) := by decide +kernel
theorem dX12_uses_31 : decode cX12_uses 31 = .ok (.iconst 4, 1) := by decide +kernel
theorem dX12_uses_32 : decode cX12_uses 32 = .ok (.iload_n 1, 1) := by decide +kernel
theorem dX12_uses_33 : decode cX12_uses 33 = .ok (.imul, 1) := by decide +kernel
theorem dX12_uses_34 : decode cX12_uses 34 = .ok (.iaload, 1) := by decide +kernel
theorem dX12_uses_35 : decode cX12_uses 35 = .ok (.putfield 291, 3) := by decide +kernel
theorem dX12_uses_38 : decode cX12_uses 38 = .ok (.aload_n 0, 1) := by decide +kernel
theorem dX12_uses_39 : decode cX12_uses 39 = .ok (.aload_n 0, 1) := by decide +kernel
theorem dX12_uses_40 : decode cX12_uses 40 = .ok (.getfield 62, 3) := by decide +kernel
theorem dX12_uses_43 : decode cX12_uses 43 = .ok (.iconst 4, 1) := by decide +kernel
theorem dX12_uses_44 : decode cX12_uses 44 = .ok (.iload_n 1, 1) := by decide +kernel
theorem dX12_uses_45 : decode cX12_uses 45 = .ok (.imul, 1) := by decide +kernel
theorem dX12_uses_46 : decode cX12_uses 46 = .ok (.iconst 1, 1) := by decide +kernel
theorem dX12_uses_47 : decode cX12_uses 47 = .ok (.iadd, 1) := by decide +kernel
theorem dX12_uses_48 : decode cX12_uses 48 = .ok (.iaload, 1) := by decide +kernel
theorem dX12_uses_49 : decode cX12_uses 49 = .ok (.putfield 294, 3) := by decide +kernel
theorem dX12_uses_52 : decode cX12_uses 52 = .ok (.iload_n 2, 1) := by decide +kernel
theorem dX12_uses_53 : decode cX12_uses 53 = .ok (.iconst 2, 1) := by decide +kernel
theorem dX12_uses_54 : decode cX12_uses 54 = .ok (.if_icmp .ge 19, 3) := by decide +kernel
theorem dX12_uses_57 : decode cX12_uses 57 = .ok (.iload_n 2, 1) := by decide +kernel
theorem dX12_uses_58 : decode cX12_uses 58 = .ok (.ifCond .ne 10, 3) := by decide +kernel
theorem dX12_uses_61 : decode cX12_uses 61 = .ok (.aload_n 0, 1) := by decide +kernel
theorem dX12_uses_62 : decode cX12_uses 62 = .ok (.getfield 291, 3) := by decide +kernel
theorem dX12_uses_65 : decode cX12_uses 65 = .ok (.goto 7, 3) := by decide +kernel
theorem dX12_uses_68 : decode cX12_uses 68 = .ok (.aload_n 0, 1) := by decide +kernel
theorem dX12_uses_69 : decode cX12_uses 69 = .ok (.getfield 294, 3) := by decide +kernel
theorem dX12_uses_72 : decode cX12_uses 72 = .ok (.ireturn, 1) := by decide +kernel
theorem dX12_uses_73 : decode cX12_uses 73 = .ok (.iconst 0, 1) := by decide +kernel
theorem dX12_uses_74 : decode cX12_uses 74 = .ok (.istore_n 3, 1) := by decide +kernel
theorem dX12_uses_75 : decode cX12_uses 75 = .ok (.iload_n 3, 1) := by decide +kernel
theorem dX12_uses_76 : decode cX12_uses 76 = .ok (.sipush 400, 3) := by decide +kernel
theorem dX12_uses_79 : decode cX12_uses 79 = .ok (.if_icmp .gt 27, 3) := by decide +kernel
theorem dX12_uses_82 : decode cX12_uses 82 = .ok (.aload_n 0, 1) := by decide +kernel
theorem dX12_uses_83 : decode cX12_uses 83 = .ok (.getfield 294, 3) := by decide +kernel
theorem dX12_uses_86 : decode cX12_uses 86 = .ok (.aload_n 0, 1) := by decide +kernel
theorem dX12_uses_87 : decode cX12_uses 87 = .ok (.getfield 291, 3) := by decide +kernel
theorem dX12_uses_90 : decode cX12_uses 90 = .ok (.if_icmp .lt 5, 3) := by decide +kernel
theorem dX12_uses_93 : decode cX12_uses 93 = .ok (.iload_n 3, 1) := by decide +kernel
theorem dX12_uses_94 : decode cX12_uses 94 = .ok (.ireturn, 1) := by decide +kernel
theorem dX12_uses_95 : decode cX12_uses 95 = .ok (.aload_n 0, 1) := by decide +kernel
theorem dX12_uses_96 : decode cX12_uses 96 = .ok (.iload_n 1, 1) := by decide +kernel
theorem dX12_uses_97 : decode cX12_uses 97 = .ok (.invokevirtual 297, 3) := by decide +kernel
theorem dX12_uses_100 : decode cX12_uses 100 = .ok (.iinc 3 1, 3) := by decide +kernel
theorem dX12_uses_103 : decode cX12_uses 103 = .ok (.goto (-28), 3) := by decide +kernel
theorem dX12_uses_106 : decode cX12_uses 106 = .ok (.bipush (-4), 2) := by decide +kernel
theorem dX12_uses_108 : decode cX12_uses 108 = .ok (.ireturn, 1) := by decide +kernel
theorem dX12_copy_0 : decode cX12_copy 0 = .ok (.aload_n 0, 1) := by decide +kernel
theorem dX12_copy_1 : decode cX12_copy 1 = .ok (.getfield 47, 3) := by decide +kernel
theorem dX12_copy_4 : decode cX12_copy 4 = .ok (.iload_n 2, 1) := by decide +kernel
theorem dX12_copy_5 : decode cX12_copy 5 = .ok (.aload_n 0, 1) := by decide +kernel
theorem dX12_copy_6 : decode cX12_copy 6 = .ok (.getfield 47, 3) := by decide +kernel
theorem dX12_copy_9 : decode cX12_copy 9 = .ok (.iload_n 1, 1) := by decide +kernel
theorem dX12_copy_10 : decode cX12_copy 10 = .ok (.iaload, 1) := by decide +kernel
theorem dX12_copy_11 : decode cX12_copy 11 = .ok (.iastore, 1) := by decide +kernel
theorem dX12_copy_12 : decode cX12_copy 12 = .ok (.aload_n 0, 1) := by decide +kernel
theorem dX12_copy_13 : decode cX12_copy 13 = .ok (.getfield 53, 3) := by decide +kernel
theorem dX12_copy_16 : decode cX12_copy 16 = .ok (.iload_n 2, 1) := by decide +kernel
theorem dX12_copy_17 : decode cX12_copy 17 = .ok (.aload_n 0, 1) := by decide +kernel
theorem dX12_copy_18 : decode cX12_copy 18 = .ok (.getfield 53, 3) := by decide +kernel
theorem dX12_copy_21 : decode cX12_copy 21 = .ok (.iload_n 1, 1) := by decide +kernel
theorem dX12_copy_22 : decode cX12_copy 22 = .ok (.iaload, 1) := by decide +kernel
theorem dX12_copy_23 : decode cX12_copy 23 = .ok (.iastore, 1) := by decide +kernel
theorem dX12_copy_24 : decode cX12_copy 24 = .ok (.iconst 0, 1) := by decide +kernel
theorem dX12_copy_25 : decode cX12_copy 25 = .ok (.istore_n 3, 1) := by decide +kernel
theorem dX12_copy_26 : decode cX12_copy 26 = .ok (.iload_n 3, 1) := by decide +kernel
theorem dX12_copy_27 : decode cX12_copy 27 = .ok (.bipush 96, 2) := by decide +kernel
theorem dX12_copy_29 : decode cX12_copy 29 = .ok (.if_icmp .ge 31, 3) := by decide +kernel
theorem dX12_copy_32 : decode cX12_copy 32 = .ok (.aload_n 0, 1) := by decide +kernel
theorem dX12_copy_33 : decode cX12_copy 33 = .ok (.getfield 50, 3) := by decide +kernel
theorem dX12_copy_36 : decode cX12_copy 36 = .ok (.bipush 96, 2) := by decide +kernel
theorem dX12_copy_38 : decode cX12_copy 38 = .ok (.iload_n 2, 1) := by decide +kernel
theorem dX12_copy_39 : decode cX12_copy 39 = .ok (.imul, 1) := by decide +kernel
theorem dX12_copy_40 : decode cX12_copy 40 = .ok (.iload_n 3, 1) := by decide +kernel
theorem dX12_copy_41 : decode cX12_copy 41 = .ok (.iadd, 1) := by decide +kernel
theorem dX12_copy_42 : decode cX12_copy 42 = .ok (.aload_n 0, 1) := by decide +kernel
theorem dX12_copy_43 : decode cX12_copy 43 = .ok (.getfield 50, 3) := by decide +kernel
theorem dX12_copy_46 : decode cX12_copy 46 = .ok (.bipush 96, 2) := by decide +kernel
theorem dX12_copy_48 : decode cX12_copy 48 = .ok (.iload_n 1, 1) := by decide +kernel
theorem dX12_copy_49 : decode cX12_copy 49 = .ok (.imul, 1) := by decide +kernel
theorem dX12_copy_50 : decode cX12_copy 50 = .ok (.iload_n 3, 1) := by decide +kernel
theorem dX12_copy_51 : decode cX12_copy 51 = .ok (.iadd, 1) := by decide +kernel
theorem dX12_copy_52 : decode cX12_copy 52 = .ok (.iaload, 1) := by decide +kernel
theorem dX12_copy_53 : decode cX12_copy 53 = .ok (.iastore, 1) := by decide +kernel
theorem dX12_copy_54 : decode cX12_copy 54 = .ok (.iinc 3 1, 3) := by decide +kernel
theorem dX12_copy_57 : decode cX12_copy 57 = .ok (.goto (-31), 3) := by decide +kernel
theorem dX12_copy_60 : decode cX12_copy 60 = .ok (.iconst 0, 1) := by decide +kernel
theorem dX12_copy_61 : decode cX12_copy 61 = .ok (.istore_n 3, 1) := by decide +kernel
theorem dX12_copy_62 : decode cX12_copy 62 = .ok (.iload_n 3, 1) := by decide +kernel
theorem dX12_copy_63 : decode cX12_copy 63 = .ok (.bipush 6, 2) := by decide +kernel
theorem dX12_copy_65 : decode cX12_copy 65 = .ok (.if_icmp .ge 53, 3) := by decide +kernel
theorem dX12_copy_68 : decode cX12_copy 68 = .ok (.aload_n 0, 1) := by decide +kernel
theorem dX12_copy_69 : decode cX12_copy 69 = .ok (.getfield 56, 3) := by decide +kernel
theorem dX12_copy_72 : decode cX12_copy 72 = .ok (.bipush 6, 2) := by decide +kernel
theorem dX12_copy_74 : decode cX12_copy 74 = .ok (.iload_n 2, 1) := by decide +kernel
theorem dX12_copy_75 : decode cX12_copy 75 = .ok (.imul, 1) := by decide +kernel
theorem dX12_copy_76 : decode cX12_copy 76 = .ok (.iload_n 3, 1) := by decide +kernel
theorem dX12_copy_77 : decode cX12_copy 77 = .ok (.iadd, 1) := by decide +kernel
theorem dX12_copy_78 : decode cX12_copy 78 = .ok (.aload_n 0, 1) := by decide +kernel
theorem dX12_copy_79 : decode cX12_copy 79 = .ok (.getfield 56, 3) := by decide +kernel
theorem dX12_copy_82 : decode cX12_copy 82 = .ok (.bipush 6, 2) := by decide +kernel
theorem dX12_copy_84 : decode cX12_copy 84 = .ok (.iload_n 1, 1) := by decide +kernel
theorem dX12_copy_85 : decode cX12_copy 85 = .ok (.imul, 1) := by decide +kernel
theorem dX12_copy_86 : decode cX12_copy 86 = .ok (.iload_n 3, 1) := by decide +kernel
theorem dX12_copy_87 : decode cX12_copy 87 = .ok (.iadd, 1) := by decide +kernel
theorem dX12_copy_88 : decode cX12_copy 88 = .ok (.laload, 1) := by decide +kernel
theorem dX12_copy_89 : decode cX12_copy 89 = .ok (.lastore, 1) := by decide +kernel
theorem dX12_copy_90 : decode cX12_copy 90 = .ok (.aload_n 0, 1) := by decide +kernel
theorem dX12_copy_91 : decode cX12_copy 91 = .ok (.getfield 59, 3) := by decide +kernel
theorem dX12_copy_94 : decode cX12_copy 94 = .ok (.bipush 6, 2) := by decide +kernel
theorem dX12_copy_96 : decode cX12_copy 96 = .ok (.iload_n 2, 1) := by decide +kernel
theorem dX12_copy_97 : decode cX12_copy 97 = .ok (.imul, 1) := by decide +kernel
theorem dX12_copy_98 : decode cX12_copy 98 = .ok (.iload_n 3, 1) := by decide +kernel
theorem dX12_copy_99 : decode cX12_copy 99 = .ok (.iadd, 1) := by decide +kernel
theorem dX12_copy_100 : decode cX12_copy 100 = .ok (.aload_n 0, 1) := by decide +kernel
theorem dX12_copy_101 : decode cX12_copy 101 = .ok (.getfield 59, 3) := by decide +kernel
theorem dX12_copy_104 : decode cX12_copy 104 = .ok (.bipush 6, 2) := by decide +kernel
theorem dX12_copy_106 : decode cX12_copy 106 = .ok (.iload_n 1, 1) := by decide +kernel
theorem dX12_copy_107 : decode cX12_copy 107 = .ok (.imul, 1) := by decide +kernel
theorem dX12_copy_108 : decode cX12_copy 108 = .ok (.iload_n 3, 1) := by decide +kernel
theorem dX12_copy_109 : decode cX12_copy 109 = .ok (.iadd, 1) := by decide +kernel
theorem dX12_copy_110 : decode cX12_copy 110 = .ok (.laload, 1) := by decide +kernel
theorem dX12_copy_111 : decode cX12_copy 111 = .ok (.lastore, 1) := by decide +kernel
theorem dX12_copy_112 : decode cX12_copy 112 = .ok (.iinc 3 1, 3) := by decide +kernel
theorem dX12_copy_115 : decode cX12_copy 115 = .ok (.goto (-53), 3) := by decide +kernel
theorem dX12_copy_118 : decode cX12_copy 118 = .ok (.iconst 0, 1) := by decide +kernel
theorem dX12_copy_119 : decode cX12_copy 119 = .ok (.istore_n 3, 1) := by decide +kernel
theorem dX12_copy_120 : decode cX12_copy 120 = .ok (.iload_n 3, 1) := by decide +kernel
theorem dX12_copy_121 : decode cX12_copy 121 = .ok (.bipush 24, 2) := by decide +kernel
theorem dX12_copy_123 : decode cX12_copy 123 = .ok (.if_icmp .ge 31, 3) := by decide +kernel
theorem dX12_copy_126 : decode cX12_copy 126 = .ok (.aload_n 0, 1) := by decide +kernel
theorem dX12_copy_127 : decode cX12_copy 127 = .ok (.getfield 62, 3) := by decide +kernel
theorem dX12_copy_130 : decode cX12_copy 130 = .ok (.bipush 24, 2) := by decide +kernel
theorem dX12_copy_132 : decode cX12_copy 132 = .ok (.iload_n 2, 1) := by decide +kernel
theorem dX12_copy_133 : decode cX12_copy 133 = .ok (.imul, 1) := by decide +kernel
theorem dX12_copy_134 : decode cX12_copy 134 = .ok (.iload_n 3, 1) := by decide +kernel
theorem dX12_copy_135 : decode cX12_copy 135 = .ok (.iadd, 1) := by decide +kernel
theorem dX12_copy_136 : decode cX12_copy 136 = .ok (.aload_n 0, 1) := by decide +kernel
theorem dX12_copy_137 : decode cX12_copy 137 = .ok (.getfield 62, 3) := by decide +kernel
theorem dX12_copy_140 : decode cX12_copy 140 = .ok (.bipush 24, 2) := by decide +kernel
theorem dX12_copy_142 : decode cX12_copy 142 = .ok (.iload_n 1, 1) := by decide +kernel
theorem dX12_copy_143 : decode cX12_copy 143 = .ok (.imul, 1) := by decide +kernel
theorem dX12_copy_144 : decode cX12_copy 144 = .ok (.iload_n 3, 1) := by decide +kernel
theorem dX12_copy_145 : decode cX12_copy 145 = .ok (.iadd, 1) := by decide +kernel
theorem dX12_copy_146 : decode cX12_copy 146 = .ok (.iaload, 1) := by decide +kernel
theorem dX12_copy_147 : decode cX12_copy 147 = .ok (.iastore, 1) := by decide +kernel
theorem dX12_copy_148 : decode cX12_copy 148 = .ok (.iinc 3 1, 3) := by decide +kernel
theorem dX12_copy_151 : decode cX12_copy 151 = .ok (.goto (-31), 3) := by decide +kernel
theorem dX12_copy_154 : decode cX12_copy 154 = .ok (.return_, 1) := by decide +kernel
set_option maxRecDepth 20000 in
theorem ggX12_keep_X12_copy : GoodIn wsX12_keep wsX12_copy := goodIn_r _ [6, 7, 8, 9, 10, 11, 12, 13, 14, 15, 16, 17, 18, 19, 20, 21, 22, 23, 24, 25, 26, 27, 28, 29, 30, 31, 32, 33, 34, 35, 36, 37, 38, 39, 40, 41, 42, 43, 44, 45, 46, 47, 48, 49, 50, 51, 52, 53, 54] (by decide +kernel) (by decide +kernel)
set_option maxRecDepth 20000 in
theorem gX12_keep_X12_copy : GoodIn wsX12_keep (wsV RX12 303 RX12 yX12_copy wsX12_copy) := goodIn_app (goodIn_of _ (by decide +kernel)) ggX12_keep_X12_copy
theorem dX12_keep_0 : decode cX12_keep 0 = .ok (.aload_n 0, 1) := by decide +kernel
theorem dX12_keep_1 : decode cX12_keep 1 = .ok (.getfield 300, 3) := by decide +kernel
theorem dX12_keep_4 : decode cX12_keep 4 = .ok (.iconst 2, 1) := by decide +kernel
theorem dX12_keep_5 : decode cX12_keep 5 = .ok (.if_icmp .ne 6, 3) := by decide +kernel
theorem dX12_keep_8 : decode cX12_keep 8 = .ok (.bipush (-3), 2) := by decide +kernel
theorem dX12_keep_10 : decode cX12_keep 10 = .ok (.ireturn, 1) := by decide +kernel
theorem dX12_keep_11 : decode cX12_keep 11 = .ok (.aload_n 0, 1) := by decide +kernel
theorem dX12_keep_12 : decode cX12_keep 12 = .ok (.iconst 0, 1) := by decide +kernel
theorem dX12_keep_13 : decode cX12_keep 13 = .ok (.iconst 1, 1) := by decide +kernel
theorem dX12_keep_14 : decode cX12_keep 14 = .ok (.aload_n 0, 1) := by decide +kernel
theorem dX12_keep_15 : decode cX12_keep 15 = .ok (.getfield 300, 3) := by decide +kernel
theorem dX12_keep_18 : decode cX12_keep 18 = .ok (.iadd, 1) := by decide +kernel
theorem dX12_keep_19 : decode cX12_keep 19 = .ok (.invokevirtual 303, 3) := by decide +kernel
theorem dX12_keep_22 : decode cX12_keep 22 = .ok (.aload_n 0, 1) := by decide +kernel
theorem dX12_keep_23 : decode cX12_keep 23 = .ok (.dup, 1) := by decide +kernel
theorem dX12_keep_24 : decode cX12_keep 24 = .ok (.getfield 300, 3) := by decide +kernel
theorem dX12_keep_27 : decode cX12_keep 27 = .ok (.iconst 1, 1) := by decide +kernel
theorem dX12_keep_28 : decode cX12_keep 28 = .ok (.iadd, 1) := by decide +kernel
theorem dX12_keep_29 : decode cX12_keep 29 = .ok (.putfield 300, 3) := by decide +kernel
theorem dX12_keep_32 : decode cX12_keep 32 = .ok (.aload_n 0, 1) := by decide +kernel
theorem dX12_keep_33 : decode cX12_keep 33 = .ok (.getfield 300, 3) := by decide +kernel
theorem dX12_keep_36 : decode cX12_keep 36 = .ok (.ireturn, 1) := by decide +kernel
set_option maxRecDepth 20000 in
theorem ggX12_back_X12_copy : GoodIn wsX12_back wsX12_copy := goodIn_r _ [6, 7, 8, 9, 10, 11, 12, 13, 14, 15, 16, 17, 18, 19, 20, 21, 22, 23, 24, 25, 26, 27, 28, 29, 30, 31, 32, 33, 34, 35, 36, 37, 38, 39, 40, 41, 42, 43, 44, 45, 46, 47, 48, 49, 50, 51, 52, 53, 54] (by decide +kernel) (by decide +kernel)
set_option maxRecDepth 20000 in
theorem gX12_back_X12_copy : GoodIn wsX12_back (wsV RX12 303 RX12 yX12_copy wsX12_copy) := goodIn_app (goodIn_of _ (by decide +kernel)) ggX12_back_X12_copy
theorem dX12_back_0 : decode cX12_back 0 = .ok (.aload_n 0, 1) := by decide +kernel
theorem dX12_back_1 : decode cX12_back 1 = .ok (.getfield 300, 3) := by decide +kernel
theorem dX12_back_4 : decode cX12_back 4 = .ok (.ifCond .ne 6, 3) := by decide +kernel
theorem dX12_back_7 : decode cX12_back 7 = .ok (.bipush (-2), 2) := by decide +kernel
theorem dX12_back_9 : decode cX12_back 9 = .ok (.ireturn, 1) := by decide +kernel
theorem dX12_back_10 : decode cX12_back 10 = .ok (.aload_n 0, 1) := by decide +kernel
theorem dX12_back_11 : decode cX12_back 11 = .ok (.dup, 1) := by decide +kernel
theorem dX12_back_12 : decode cX12_back 12 = .ok (.getfield 300, 3) := by decide +kernel
theorem dX12_back_15 : decode cX12_back 15 = .ok (.iconst 1, 1) := by decide +kernel
theorem dX12_back_16 : decode cX12_back 16 = .ok (.isub, 1) := by decide +kernel
theorem dX12_back_17 : decode cX12_back 17 = .ok (.putfield 300, 3) := by decide +kernel
theorem dX12_back_20 : decode cX12_back 20 = .ok (.aload_n 0, 1) := by decide +kernel
theorem dX12_back_21 : decode cX12_back 21 = .ok (.iconst 1, 1) := by decide +kernel
theorem dX12_back_22 : decode cX12_back 22 = .ok (.aload_n 0, 1) := by decide +kernel
theorem dX12_back_23 : decode cX12_back 23 = .ok (.getfield 300, 3) := by decide +kernel
theorem dX12_back_26 : decode cX12_back 26 = .ok (.iadd, 1) := by decide +kernel
theorem dX12_back_27 : decode cX12_back 27 = .ok (.iconst 0, 1) := by decide +kernel
theorem dX12_back_28 : decode cX12_back 28 = .ok (.invokevirtual 303, 3) := by decide +kernel
theorem dX12_back_31 : decode cX12_back 31 = .ok (.aload_n 0, 1) := by decide +kernel
theorem dX12_back_32 : decode cX12_back 32 = .ok (.getfield 300, 3) := by decide +kernel
theorem dX12_back_35 : decode cX12_back 35 = .ok (.ireturn, 1) := by decide +kernel
theorem dX12_count_0 : decode cX12_count 0 = .ok (.iconst 0, 1) := by decide +kernel
theorem dX12_count_1 : decode cX12_count 1 = .ok (.istore_n 2, 1) := by decide +kernel
theorem dX12_count_2 : decode cX12_count 2 = .ok (.iload_n 1, 1) := by decide +kernel
theorem dX12_count_3 : decode cX12_count 3 = .ok (.tableswitch 187 0 10 #[57, 62, 98, 103, 108, 113, 120, 125, 132, 139, 182], 57) := by decide +kernel
theorem dX12_count_60 : decode cX12_count 60 = .ok (.aload_n 0, 1) := by decide +kernel
theorem dX12_count_61 : decode cX12_count 61 = .ok (.getfield 90, 3) := by decide +kernel
theorem dX12_count_64 : decode cX12_count 64 = .ok (.ireturn, 1) := by decide +kernel
theorem dX12_count_65 : decode cX12_count 65 = .ok (.iconst 0, 1) := by decide +kernel
theorem dX12_count_66 : decode cX12_count 66 = .ok (.istore_n 3, 1) := by decide +kernel
theorem dX12_count_67 : decode cX12_count 67 = .ok (.iload_n 3, 1) := by decide +kernel
theorem dX12_count_68 : decode cX12_count 68 = .ok (.sipush 256, 3) := by decide +kernel
theorem dX12_count_71 : decode cX12_count 71 = .ok (.if_icmp .ge 28, 3) := by decide +kernel
theorem dX12_count_74 : decode cX12_count 74 = .ok (.iload_n 2, 1) := by decide +kernel
theorem dX12_count_75 : decode cX12_count 75 = .ok (.aload_n 0, 1) := by decide +kernel
theorem dX12_count_76 : decode cX12_count 76 = .ok (.getfield 19, 3) := by decide +kernel
theorem dX12_count_79 : decode cX12_count 79 = .ok (.iconst 3, 1) := by decide +kernel
theorem dX12_count_80 : decode cX12_count 80 = .ok (.iload_n 3, 1) := by decide +kernel
theorem dX12_count_81 : decode cX12_count 81 = .ok (.imul, 1) := by decide +kernel
theorem dX12_count_82 : decode cX12_count 82 = .ok (.iaload, 1) := by decide +kernel
theorem dX12_count_83 : decode cX12_count 83 = .ok (.ifCond .le 7, 3) := by decide +kernel
theorem dX12_count_86 : decode cX12_count 86 = .ok (.iconst 1, 1) := by decide +kernel
theorem dX12_count_87 : decode cX12_count 87 = .ok (.goto 4, 3) := by decide +kernel
theorem dX12_count_90 : decode cX12_count 90 = .ok (.iconst 0, 1) := by decide +kernel
theorem dX12_count_91 : decode cX12_count 91 = .ok (.iadd, 1) := by decide +kernel
theorem dX12_count_92 : decode cX12_count 92 = .ok (.istore_n 2, 1) := by decide +kernel
theorem dX12_count_93 : decode cX12_count 93 = .ok (.iinc 3 1, 3) := by decide +kernel
theorem dX12_count_96 : decode cX12_count 96 = .ok (.goto (-29), 3) := by decide +kernel
theorem dX12_count_99 : decode cX12_count 99 = .ok (.iload_n 2, 1) := by decide +kernel
theorem dX12_count_100 : decode cX12_count 100 = .ok (.ireturn, 1) := by decide +kernel
theorem dX12_count_101 : decode cX12_count 101 = .ok (.aload_n 0, 1) := by decide +kernel
theorem dX12_count_102 : decode cX12_count 102 = .ok (.getfield 154, 3) := by decide +kernel
theorem dX12_count_105 : decode cX12_count 105 = .ok (.ireturn, 1) := by decide +kernel
theorem dX12_count_106 : decode cX12_count 106 = .ok (.aload_n 0, 1) := by decide +kernel
theorem dX12_count_107 : decode cX12_count 107 = .ok (.getfield 165, 3) := by decide +kernel
theorem dX12_count_110 : decode cX12_count 110 = .ok (.ireturn, 1) := by decide +kernel
theorem dX12_count_111 : decode cX12_count 111 = .ok (.aload_n 0, 1) := by decide +kernel
theorem dX12_count_112 : decode cX12_count 112 = .ok (.getfield 182, 3) := by decide +kernel
theorem dX12_count_115 : decode cX12_count 115 = .ok (.ireturn, 1) := by decide +kernel
theorem dX12_count_116 : decode cX12_count 116 = .ok (.aload_n 0, 1) := by decide +kernel
theorem dX12_count_117 : decode cX12_count 117 = .ok (.getfield 38, 3) := by decide +kernel
theorem dX12_count_120 : decode cX12_count 120 = .ok (.iconst 1, 1) := by decide +kernel
theorem dX12_count_121 : decode cX12_count 121 = .ok (.iaload, 1) := by decide +kernel
theorem dX12_count_122 : decode cX12_count 122 = .ok (.ireturn, 1) := by decide +kernel
theorem dX12_count_123 : decode cX12_count 123 = .ok (.aload_n 0, 1) := by decide +kernel
theorem dX12_count_124 : decode cX12_count 124 = .ok (.getfield 232, 3) := by decide +kernel
theorem dX12_count_127 : decode cX12_count 127 = .ok (.ireturn, 1) := by decide +kernel
theorem dX12_count_128 : decode cX12_count 128 = .ok (.aload_n 0, 1) := by decide +kernel
theorem dX12_count_129 : decode cX12_count 129 = .ok (.getfield 47, 3) := by decide +kernel
theorem dX12_count_132 : decode cX12_count 132 = .ok (.iconst 0, 1) := by decide +kernel
theorem dX12_count_133 : decode cX12_count 133 = .ok (.iaload, 1) := by decide +kernel
theorem dX12_count_134 : decode cX12_count 134 = .ok (.ireturn, 1) := by decide +kernel
theorem dX12_count_135 : decode cX12_count 135 = .ok (.aload_n 0, 1) := by decide +kernel
theorem dX12_count_136 : decode cX12_count 136 = .ok (.getfield 53, 3) := by decide +kernel
theorem dX12_count_139 : decode cX12_count 139 = .ok (.iconst 0, 1) := by decide +kernel
theorem dX12_count_140 : decode cX12_count 140 = .ok (.iaload, 1) := by decide +kernel
theorem dX12_count_141 : decode cX12_count 141 = .ok (.ireturn, 1) := by decide +kernel
theorem dX12_count_142 : decode cX12_count 142 = .ok (.iconst 0, 1) := by decide +kernel
theorem dX12_count_143 : decode cX12_count 143 = .ok (.istore_n 3, 1) := by decide +kernel
theorem dX12_count_144 : decode cX12_count 144 = .ok (.iload_n 3, 1) := by decide +kernel
theorem dX12_count_145 : decode cX12_count 145 = .ok (.aload_n 0, 1) := by decide +kernel
theorem dX12_count_146 : decode cX12_count 146 = .ok (.getfield 47, 3) := by decide +kernel
theorem dX12_count_149 : decode cX12_count 149 = .ok (.iconst 0, 1) := by decide +kernel
theorem dX12_count_150 : decode cX12_count 150 = .ok (.iaload, 1) := by decide +kernel
theorem dX12_count_151 : decode cX12_count 151 = .ok (.if_icmp .ge 32, 3) := by decide +kernel
theorem dX12_count_154 : decode cX12_count 154 = .ok (.iload_n 2, 1) := by decide +kernel
theorem dX12_count_155 : decode cX12_count 155 = .ok (.aload_n 0, 1) := by decide +kernel
theorem dX12_count_156 : decode cX12_count 156 = .ok (.getfield 50, 3) := by decide +kernel
theorem dX12_count_159 : decode cX12_count 159 = .ok (.bipush 8, 2) := by decide +kernel
theorem dX12_count_161 : decode cX12_count 161 = .ok (.iload_n 3, 1) := by decide +kernel
theorem dX12_count_162 : decode cX12_count 162 = .ok (.imul, 1) := by decide +kernel
theorem dX12_count_163 : decode cX12_count 163 = .ok (.bipush 7, 2) := by decide +kernel
theorem dX12_count_165 : decode cX12_count 165 = .ok (.iadd, 1) := by decide +kernel
theorem dX12_count_166 : decode cX12_count 166 = .ok (.iaload, 1) := by decide +kernel
theorem dX12_count_167 : decode cX12_count 167 = .ok (.ifCond .ge 7, 3) := by decide +kernel
theorem dX12_count_170 : decode cX12_count 170 = .ok (.iconst 0, 1) := by decide +kernel
theorem dX12_count_171 : decode cX12_count 171 = .ok (.goto 4, 3) := by decide +kernel
theorem dX12_count_174 : decode cX12_count 174 = .ok (.iconst 1, 1) := by decide +kernel
theorem dX12_count_175 : decode cX12_count 175 = .ok (.iadd, 1) := by decide +kernel
theorem dX12_count_176 : decode cX12_count 176 = .ok (.istore_n 2, 1) := by decide +kernel
theorem dX12_count_177 : decode cX12_count 177 = .ok (.iinc 3 1, 3) := by decide +kernel
theorem dX12_count_180 : decode cX12_count 180 = .ok (.goto (-36), 3) := by decide +kernel
theorem dX12_count_183 : decode cX12_count 183 = .ok (.iload_n 2, 1) := by decide +kernel
theorem dX12_count_184 : decode cX12_count 184 = .ok (.ireturn, 1) := by decide +kernel
theorem dX12_count_185 : decode cX12_count 185 = .ok (.aload_n 0, 1) := by decide +kernel
theorem dX12_count_186 : decode cX12_count 186 = .ok (.getfield 300, 3) := by decide +kernel
theorem dX12_count_189 : decode cX12_count 189 = .ok (.ireturn, 1) := by decide +kernel
theorem dX12_count_190 : decode cX12_count 190 = .ok (.iconst (-1), 1) := by decide +kernel
theorem dX12_count_191 : decode cX12_count 191 = .ok (.ireturn, 1) := by decide +kernel
