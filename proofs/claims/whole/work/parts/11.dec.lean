theorem dX12_whyOf_35 : decode cX12_whyOf 35 = .ok (.bipush 97, 2) := by decide +kernel
theorem dX12_whyOf_37 : decode cX12_whyOf 37 = .ok (.if_icmp .eq 15, 3) := by decide +kernel
theorem dX12_whyOf_40 : decode cX12_whyOf 40 = .ok (.aload_n 0, 1) := by decide +kernel
theorem dX12_whyOf_41 : decode cX12_whyOf 41 = .ok (.getfield 41, 3) := by decide +kernel
theorem dX12_whyOf_44 : decode cX12_whyOf 44 = .ok (.iload 6, 2) := by decide +kernel
theorem dX12_whyOf_46 : decode cX12_whyOf 46 = .ok (.iaload, 1) := by decide +kernel
theorem dX12_whyOf_47 : decode cX12_whyOf 47 = .ok (.bipush 98, 2) := by decide +kernel
theorem dX12_whyOf_49 : decode cX12_whyOf 49 = .ok (.if_icmp .ne 61, 3) := by decide +kernel
theorem dX12_whyOf_52 : decode cX12_whyOf 52 = .ok (.aload_n 0, 1) := by decide +kernel
theorem dX12_whyOf_53 : decode cX12_whyOf 53 = .ok (.getfield 41, 3) := by decide +kernel
theorem dX12_whyOf_56 : decode cX12_whyOf 56 = .ok (.iload 6, 2) := by decide +kernel
theorem dX12_whyOf_58 : decode cX12_whyOf 58 = .ok (.iconst 1, 1) := by decide +kernel
theorem dX12_whyOf_59 : decode cX12_whyOf 59 = .ok (.iadd, 1) := by decide +kernel
theorem dX12_whyOf_60 : decode cX12_whyOf 60 = .ok (.iaload, 1) := by decide +kernel
theorem dX12_whyOf_61 : decode cX12_whyOf 61 = .ok (.iload_n 1, 1) := by decide +kernel
theorem dX12_whyOf_62 : decode cX12_whyOf 62 = .ok (.if_icmp .ne 48, 3) := by decide +kernel
theorem dX12_whyOf_65 : decode cX12_whyOf 65 = .ok (.aload_n 0, 1) := by decide +kernel
theorem dX12_whyOf_66 : decode cX12_whyOf 66 = .ok (.getfield 41, 3) := by decide +kernel
theorem dX12_whyOf_69 : decode cX12_whyOf 69 = .ok (.iload 6, 2) := by decide +kernel
theorem dX12_whyOf_71 : decode cX12_whyOf 71 = .ok (.iconst 2, 1) := by decide +kernel
theorem dX12_whyOf_72 : decode cX12_whyOf 72 = .ok (.iadd, 1) := by decide +kernel
theorem dX12_whyOf_73 : decode cX12_whyOf 73 = .ok (.iaload, 1) := by decide +kernel
theorem dX12_whyOf_74 : decode cX12_whyOf 74 = .ok (.iload_n 2, 1) := by decide +kernel
theorem dX12_whyOf_75 : decode cX12_whyOf 75 = .ok (.if_icmp .ne 35, 3) := by decide +kernel
theorem dX12_whyOf_78 : decode cX12_whyOf 78 = .ok (.iload_n 3, 1) := by decide +kernel
theorem dX12_whyOf_79 : decode cX12_whyOf 79 = .ok (.i2l, 1) := by decide +kernel
theorem dX12_whyOf_80 : decode cX12_whyOf 80 = .ok (.aload_n 0, 1) := by decide +kernel
theorem dX12_whyOf_81 : decode cX12_whyOf 81 = .ok (.getfield 41, 3) := by decide +kernel
theorem dX12_whyOf_84 : decode cX12_whyOf 84 = .ok (.iload 6, 2) := by decide +kernel
theorem dX12_whyOf_86 : decode cX12_whyOf 86 = .ok (.iconst 3, 1) := by decide +kernel
theorem dX12_whyOf_87 : decode cX12_whyOf 87 = .ok (.iadd, 1) := by decide +kernel
theorem dX12_whyOf_88 : decode cX12_whyOf 88 = .ok (.iaload, 1) := by decide +kernel
theorem dX12_whyOf_89 : decode cX12_whyOf 89 = .ok (.i2l, 1) := by decide +kernel
theorem dX12_whyOf_90 : decode cX12_whyOf 90 = .ok (.aload_n 0, 1) := by decide +kernel
theorem dX12_whyOf_91 : decode cX12_whyOf 91 = .ok (.getfield 41, 3) := by decide +kernel
theorem dX12_whyOf_94 : decode cX12_whyOf 94 = .ok (.iload 6, 2) := by decide +kernel
theorem dX12_whyOf_96 : decode cX12_whyOf 96 = .ok (.iconst 4, 1) := by decide +kernel
theorem dX12_whyOf_97 : decode cX12_whyOf 97 = .ok (.iadd, 1) := by decide +kernel
theorem dX12_whyOf_98 : decode cX12_whyOf 98 = .ok (.iaload, 1) := by decide +kernel
theorem dX12_whyOf_99 : decode cX12_whyOf 99 = .ok (.i2l, 1) := by decide +kernel
theorem dX12_whyOf_100 : decode cX12_whyOf 100 = .ok (.invokestatic 93, 3) := by decide +kernel
theorem dX12_whyOf_103 : decode cX12_whyOf 103 = .ok (.ifCond .eq 7, 3) := by decide +kernel
theorem dX12_whyOf_106 : decode cX12_whyOf 106 = .ok (.iconst 1, 1) := by decide +kernel
theorem dX12_whyOf_107 : decode cX12_whyOf 107 = .ok (.goto 4, 3) := by decide +kernel
theorem dX12_whyOf_110 : decode cX12_whyOf 110 = .ok (.iconst 0, 1) := by decide +kernel
theorem dX12_whyOf_111 : decode cX12_whyOf 111 = .ok (.istore 7, 2) := by decide +kernel
theorem dX12_whyOf_113 : decode cX12_whyOf 113 = .ok (.iload 7, 2) := by decide +kernel
theorem dX12_whyOf_115 : decode cX12_whyOf 115 = .ok (.ifCond .eq 8, 3) := by decide +kernel
theorem dX12_whyOf_118 : decode cX12_whyOf 118 = .ok (.iload 5, 2) := by decide +kernel
theorem dX12_whyOf_120 : decode cX12_whyOf 120 = .ok (.goto 5, 3) := by decide +kernel
theorem dX12_whyOf_123 : decode cX12_whyOf 123 = .ok (.iload 4, 2) := by decide +kernel
theorem dX12_whyOf_125 : decode cX12_whyOf 125 = .ok (.istore 4, 2) := by decide +kernel
theorem dX12_whyOf_127 : decode cX12_whyOf 127 = .ok (.iinc 5 1, 3) := by decide +kernel
theorem dX12_whyOf_130 : decode cX12_whyOf 130 = .ok (.goto (-123), 3) := by decide +kernel
theorem dX12_whyOf_133 : decode cX12_whyOf 133 = .ok (.iload 4, 2) := by decide +kernel
theorem dX12_whyOf_135 : decode cX12_whyOf 135 = .ok (.ireturn, 1) := by decide +kernel
set_option maxRecDepth 20000 in
theorem ggX12_isLet_X12_whyOf : GoodIn wsX12_isLet wsX12_whyOf := goodIn_r _ [6, 7, 1, 8, 9, 5, 10, 11, 12, 13, 14, 15, 16, 17, 18, 19, 20, 21, 22, 23, 24, 25, 26, 27, 28, 29, 30, 31, 32, 33, 34, 35, 36, 37, 38, 39, 40, 41, 42, 43, 44, 45, 46, 47, 48, 49, 50, 51, 52] (by decide +kernel) (by decide +kernel)
set_option maxRecDepth 20000 in
theorem gX12_isLet_X12_whyOf : GoodIn wsX12_isLet (wsV RX12 213 RX12 yX12_whyOf wsX12_whyOf) := goodIn_app (goodIn_of _ (by decide +kernel)) ggX12_isLet_X12_whyOf
theorem dX12_isLet_0 : decode cX12_isLet 0 = .ok (.aload_n 0, 1) := by decide +kernel
theorem dX12_isLet_1 : decode cX12_isLet 1 = .ok (.iload_n 1, 1) := by decide +kernel
theorem dX12_isLet_2 : decode cX12_isLet 2 = .ok (.iload_n 2, 1) := by decide +kernel
theorem dX12_isLet_3 : decode cX12_isLet 3 = .ok (.iload_n 3, 1) := by decide +kernel
theorem dX12_isLet_4 : decode cX12_isLet 4 = .ok (.invokevirtual 213, 3) := by decide +kernel
theorem dX12_isLet_7 : decode cX12_isLet 7 = .ok (.istore 4, 2) := by decide +kernel
theorem dX12_isLet_9 : decode cX12_isLet 9 = .ok (.iload 4, 2) := by decide +kernel
theorem dX12_isLet_11 : decode cX12_isLet 11 = .ok (.bipush (-4), 2) := by decide +kernel
theorem dX12_isLet_13 : decode cX12_isLet 13 = .ok (.if_icmp .eq 21, 3) := by decide +kernel
theorem dX12_isLet_16 : decode cX12_isLet 16 = .ok (.aload_n 0, 1) := by decide +kernel
theorem dX12_isLet_17 : decode cX12_isLet 17 = .ok (.getfield 41, 3) := by decide +kernel
theorem dX12_isLet_20 : decode cX12_isLet 20 = .ok (.sipush 300, 3) := by decide +kernel
theorem dX12_isLet_23 : decode cX12_isLet 23 = .ok (.iconst 5, 1) := by decide +kernel
theorem dX12_isLet_24 : decode cX12_isLet 24 = .ok (.iload 4, 2) := by decide +kernel
theorem dX12_isLet_26 : decode cX12_isLet 26 = .ok (.imul, 1) := by decide +kernel
theorem dX12_isLet_27 : decode cX12_isLet 27 = .ok (.iadd, 1) := by decide +kernel
theorem dX12_isLet_28 : decode cX12_isLet 28 = .ok (.iaload, 1) := by decide +kernel
theorem dX12_isLet_29 : decode cX12_isLet 29 = .ok (.bipush 97, 2) := by decide +kernel
theorem dX12_isLet_31 : decode cX12_isLet 31 = .ok (.if_icmp .ne 7, 3) := by decide +kernel
theorem dX12_isLet_34 : decode cX12_isLet 34 = .ok (.iconst 1, 1) := by decide +kernel
theorem dX12_isLet_35 : decode cX12_isLet 35 = .ok (.goto 4, 3) := by decide +kernel
theorem dX12_isLet_38 : decode cX12_isLet 38 = .ok (.iconst 0, 1) := by decide +kernel
theorem dX12_isLet_39 : decode cX12_isLet 39 = .ok (.ireturn, 1) := by decide +kernel
set_option maxRecDepth 20000 in
theorem ggX12_let_X12_isAsked : GoodIn wsX12_let wsX12_isAsked := goodIn_r _ [4, 5, 6, 7, 8, 9, 3, 10] (by decide +kernel) (by decide +kernel)
set_option maxRecDepth 20000 in
theorem gX12_let_X12_isAsked : GoodIn wsX12_let (va_wsS RX12 217 yX12_isAsked wsX12_isAsked) := goodIn_app (goodIn_of _ (by decide +kernel)) ggX12_let_X12_isAsked
set_option maxRecDepth 20000 in
theorem ggX12_let_X12_isLet : GoodIn wsX12_let wsX12_isLet := goodIn_r _ [14, 15, 16, 17, 18, 3, 19, 20, 8, 9, 10, 21, 22, 23, 24, 25, 26, 27, 28, 29, 30, 31, 32, 33, 34, 35, 36, 37, 38, 39, 40, 41, 42, 43, 44, 45, 46, 47, 48, 49, 50, 51, 52, 53, 54, 55, 56, 57, 58, 59, 60, 61, 62] (by decide +kernel) (by decide +kernel)
set_option maxRecDepth 20000 in
theorem gX12_let_X12_isLet : GoodIn wsX12_let (wsV RX12 220 RX12 yX12_isLet wsX12_isLet) := goodIn_app (goodIn_of _ (by decide +kernel)) ggX12_let_X12_isLet
theorem dX12_let_0 : decode cX12_let 0 = .ok (.iload_n 1, 1) := by decide +kernel
theorem dX12_let_1 : decode cX12_let 1 = .ok (.iload_n 2, 1) := by decide +kernel
theorem dX12_let_2 : decode cX12_let 2 = .ok (.iload_n 3, 1) := by decide +kernel
theorem dX12_let_3 : decode cX12_let 3 = .ok (.invokestatic 217, 3) := by decide +kernel
theorem dX12_let_6 : decode cX12_let 6 = .ok (.ifCond .ne 7, 3) := by decide +kernel
theorem dX12_let_9 : decode cX12_let 9 = .ok (.iconst (-1), 1) := by decide +kernel
theorem dX12_let_10 : decode cX12_let 10 = .ok (.goto 18, 3) := by decide +kernel
theorem dX12_let_13 : decode cX12_let 13 = .ok (.aload_n 0, 1) := by decide +kernel
theorem dX12_let_14 : decode cX12_let 14 = .ok (.iload_n 1, 1) := by decide +kernel
theorem dX12_let_15 : decode cX12_let 15 = .ok (.iload_n 2, 1) := by decide +kernel
theorem dX12_let_16 : decode cX12_let 16 = .ok (.iload_n 3, 1) := by decide +kernel
theorem dX12_let_17 : decode cX12_let 17 = .ok (.invokevirtual 220, 3) := by decide +kernel
theorem dX12_let_20 : decode cX12_let 20 = .ok (.ifCond .eq 7, 3) := by decide +kernel
theorem dX12_let_23 : decode cX12_let 23 = .ok (.iconst 1, 1) := by decide +kernel
theorem dX12_let_24 : decode cX12_let 24 = .ok (.goto 4, 3) := by decide +kernel
theorem dX12_let_27 : decode cX12_let 27 = .ok (.iconst 0, 1) := by decide +kernel
theorem dX12_let_28 : decode cX12_let 28 = .ok (.ireturn, 1) := by decide +kernel
set_option maxRecDepth 20000 in
theorem ggX12_why_X12_isAsked : GoodIn wsX12_why wsX12_isAsked := goodIn_r _ [4, 5, 6, 7, 8, 9, 3, 10] (by decide +kernel) (by decide +kernel)
set_option maxRecDepth 20000 in
theorem gX12_why_X12_isAsked : GoodIn wsX12_why (va_wsS RX12 217 yX12_isAsked wsX12_isAsked) := goodIn_app (goodIn_of _ (by decide +kernel)) ggX12_why_X12_isAsked
set_option maxRecDepth 20000 in
theorem ggX12_why_X12_whyOf : GoodIn wsX12_why wsX12_whyOf := goodIn_r _ [14, 15, 16, 8, 9, 3, 10, 17, 18, 19, 20, 21, 22, 23, 24, 25, 26, 27, 28, 29, 30, 31, 32, 33, 34, 35, 36, 37, 38, 39, 40, 41, 42, 43, 44, 45, 46, 47, 48, 49, 50, 51, 52, 53, 54, 55, 56, 57, 58] (by decide +kernel) (by decide +kernel)
set_option maxRecDepth 20000 in
theorem gX12_why_X12_whyOf : GoodIn wsX12_why (wsV RX12 213 RX12 yX12_whyOf wsX12_whyOf) := goodIn_app (goodIn_of _ (by decide +kernel)) ggX12_why_X12_whyOf
theorem dX12_why_0 : decode cX12_why 0 = .ok (.iload_n 1, 1) := by decide +kernel
theorem dX12_why_1 : decode cX12_why 1 = .ok (.iload_n 2, 1) := by decide +kernel
theorem dX12_why_2 : decode cX12_why 2 = .ok (.iload_n 3, 1) := by decide +kernel
theorem dX12_why_3 : decode cX12_why 3 = .ok (.invokestatic 217, 3) := by decide +kernel
theorem dX12_why_6 : decode cX12_why 6 = .ok (.ifCond .eq 13, 3) := by decide +kernel
theorem dX12_why_9 : decode cX12_why 9 = .ok (.aload_n 0, 1) := by decide +kernel
theorem dX12_why_10 : decode cX12_why 10 = .ok (.iload_n 1, 1) := by decide +kernel
theorem dX12_why_11 : decode cX12_why 11 = .ok (.iload_n 2, 1) := by decide +kernel
theorem dX12_why_12 : decode cX12_why 12 = .ok (.iload_n 3, 1) := by decide +kernel
theorem dX12_why_13 : decode cX12_why 13 = .ok (.invokevirtual 213, 3) := by decide +kernel
theorem dX12_why_16 : decode cX12_why 16 = .ok (.goto 4, 3) := by decide +kernel
theorem dX12_why_19 : decode cX12_why 19 = .ok (.iconst (-1), 1) := by decide +kernel
theorem dX12_why_20 : decode cX12_why 20 = .ok (.ireturn, 1) := by decide +kernel
set_option maxRecDepth 20000 in
theorem ggX12_tells_X12_in : GoodIn wsX12_tells wsX12_in := goodIn_r _ [6] (by decide +kernel) (by decide +kernel)
set_option maxRecDepth 20000 in
theorem gX12_tells_X12_in : GoodIn wsX12_tells (va_wsS RX12 93 yX12_in wsX12_in) := goodIn_app (goodIn_of _ (by decide +kernel)) ggX12_tells_X12_in
theorem dX12_tells_0 : decode cX12_tells 0 = .ok (.iconst 0, 1) := by decide +kernel
theorem dX12_tells_1 : decode cX12_tells 1 = .ok (.istore 5, 2) := by decide +kernel
theorem dX12_tells_3 : decode cX12_tells 3 = .ok (.iload 5, 2) := by decide +kernel
theorem dX12_tells_5 : decode cX12_tells 5 = .ok (.aload_n 0, 1) := by decide +kernel
theorem dX12_tells_6 : decode cX12_tells 6 = .ok (.getfield 38, 3) := by decide +kernel
theorem dX12_tells_9 : decode cX12_tells 9 = .ok (.iconst 1, 1) := by decide +kernel
theorem dX12_tells_10 : decode cX12_tells 10 = .ok (.iaload, 1) := by decide +kernel
theorem dX12_tells_11 : decode cX12_tells 11 = .ok (.if_icmp .ge 87, 3) := by decide +kernel
theorem dX12_tells_14 : decode cX12_tells 14 = .ok (.sipush 300, 3) := by decide +kernel
theorem dX12_tells_17 : decode cX12_tells 17 = .ok (.iconst 5, 1) := by decide +kernel
theorem dX12_tells_18 : decode cX12_tells 18 = .ok (.iload 5, 2) := by decide +kernel
theorem dX12_tells_20 : decode cX12_tells 20 = .ok (.imul, 1) := by decide +kernel
theorem dX12_tells_21 : decode cX12_tells 21 = .ok (.iadd, 1) := by decide +kernel
theorem dX12_tells_22 : decode cX12_tells 22 = .ok (.istore 6, 2) := by decide +kernel
theorem dX12_tells_24 : decode cX12_tells 24 = .ok (.aload_n 0, 1) := by decide +kernel
theorem dX12_tells_25 : decode cX12_tells 25 = .ok (.getfield 41, 3) := by decide +kernel
theorem dX12_tells_28 : decode cX12_tells 28 = .ok (.iload 6, 2) := by decide +kernel
theorem dX12_tells_30 : decode cX12_tells 30 = .ok (.iaload, 1) := by decide +kernel
theorem dX12_tells_31 : decode cX12_tells 31 = .ok (.iload_n 1, 1) := by decide +kernel
theorem dX12_tells_32 : decode cX12_tells 32 = .ok (.if_icmp .ne 60, 3) := by decide +kernel
theorem dX12_tells_35 : decode cX12_tells 35 = .ok (.aload_n 0, 1) := by decide +kernel
theorem dX12_tells_36 : decode cX12_tells 36 = .ok (.getfield 41, 3) := by decide +kernel
theorem dX12_tells_39 : decode cX12_tells 39 = .ok (.iload 6, 2) := by decide +kernel
theorem dX12_tells_41 : decode cX12_tells 41 = .ok (.iconst 1, 1) := by decide +kernel
theorem dX12_tells_42 : decode cX12_tells 42 = .ok (.iadd, 1) := by decide +kernel
theorem dX12_tells_43 : decode cX12_tells 43 = .ok (.iaload, 1) := by decide +kernel
theorem dX12_tells_44 : decode cX12_tells 44 = .ok (.iload_n 2, 1) := by decide +kernel
theorem dX12_tells_45 : decode cX12_tells 45 = .ok (.if_icmp .ne 47, 3) := by decide +kernel
theorem dX12_tells_48 : decode cX12_tells 48 = .ok (.aload_n 0, 1) := by decide +kernel
theorem dX12_tells_49 : decode cX12_tells 49 = .ok (.getfield 41, 3) := by decide +kernel
theorem dX12_tells_52 : decode cX12_tells 52 = .ok (.iload 6, 2) := by decide +kernel
theorem dX12_tells_54 : decode cX12_tells 54 = .ok (.iconst 2, 1) := by decide +kernel
theorem dX12_tells_55 : decode cX12_tells 55 = .ok (.iadd, 1) := by decide +kernel
theorem dX12_tells_56 : decode cX12_tells 56 = .ok (.iaload, 1) := by decide +kernel
theorem dX12_tells_57 : decode cX12_tells 57 = .ok (.iload_n 3, 1) := by decide +kernel
theorem dX12_tells_58 : decode cX12_tells 58 = .ok (.if_icmp .ne 34, 3) := by decide +kernel
theorem dX12_tells_61 : decode cX12_tells 61 = .ok (.iload 4, 2) := by decide +kernel
theorem dX12_tells_63 : decode cX12_tells 63 = .ok (.i2l, 1) := by decide +kernel
theorem dX12_tells_64 : decode cX12_tells 64 = .ok (.aload_n 0, 1) := by decide +kernel
theorem dX12_tells_65 : decode cX12_tells 65 = .ok (.getfield 41, 3) := by decide +kernel
theorem dX12_tells_68 : decode cX12_tells 68 = .ok (.iload 6, 2) := by decide +kernel
theorem dX12_tells_70 : decode cX12_tells 70 = .ok (.iconst 3, 1) := by decide +kernel
theorem dX12_tells_71 : decode cX12_tells 71 = .ok (.iadd, 1) := by decide +kernel
theorem dX12_tells_72 : decode cX12_tells 72 = .ok (.iaload, 1) := by decide +kernel
theorem dX12_tells_73 : decode cX12_tells 73 = .ok (.i2l, 1) := by decide +kernel
theorem dX12_tells_74 : decode cX12_tells 74 = .ok (.aload_n 0, 1) := by decide +kernel
theorem dX12_tells_75 : decode cX12_tells 75 = .ok (.getfield 41, 3) := by decide +kernel
theorem dX12_tells_78 : decode cX12_tells 78 = .ok (.iload 6, 2) := by decide +kernel
theorem dX12_tells_80 : decode cX12_tells 80 = .ok (.iconst 4, 1) := by decide +kernel
theorem dX12_tells_81 : decode cX12_tells 81 = .ok (.iadd, 1) := by decide +kernel
theorem dX12_tells_82 : decode cX12_tells 82 = .ok (.iaload, 1) := by decide +kernel
theorem dX12_tells_83 : decode cX12_tells 83 = .ok (.i2l, 1) := by decide +kernel
theorem dX12_tells_84 : decode cX12_tells 84 = .ok (.invokestatic 93, 3) := by decide +kernel
theorem dX12_tells_87 : decode cX12_tells 87 = .ok (.ifCond .eq 5, 3) := by decide +kernel
theorem dX12_tells_90 : decode cX12_tells 90 = .ok (.iconst 1, 1) := by decide +kernel
theorem dX12_tells_91 : decode cX12_tells 91 = .ok (.ireturn, 1) := by decide +kernel
theorem dX12_tells_92 : decode cX12_tells 92 = .ok (.iinc 5 1, 3) := by decide +kernel
theorem dX12_tells_95 : decode cX12_tells 95 = .ok (.goto (-92), 3) := by decide +kernel
theorem dX12_tells_98 : decode cX12_tells 98 = .ok (.iconst 0, 1) := by decide +kernel
theorem dX12_tells_99 : decode cX12_tells 99 = .ok (.ireturn, 1) := by decide +kernel
set_option maxRecDepth 20000 in
theorem ggX12_quarrels_X12_in : GoodIn wsX12_quarrels wsX12_in := goodIn_r _ [6] (by decide +kernel) (by decide +kernel)
set_option maxRecDepth 20000 in
theorem gX12_quarrels_X12_in : GoodIn wsX12_quarrels (va_wsS RX12 93 yX12_in wsX12_in) := goodIn_app (goodIn_of _ (by decide +kernel)) ggX12_quarrels_X12_in
set_option maxRecDepth 20000 in
theorem ggX12_quarrels_X12_tells : GoodIn wsX12_quarrels wsX12_tells := goodIn_r _ [10, 11, 12, 3, 4, 5, 6, 13, 14, 15, 16, 17, 18, 19, 20, 21, 22, 23, 24, 25, 26, 27, 28, 29, 30, 31, 32, 33, 34, 35, 36, 37, 38, 39, 40, 41, 42, 43, 44, 45, 46, 47, 48, 49, 50, 51, 52, 53, 54] (by decide +kernel) (by decide +kernel)
set_option maxRecDepth 20000 in
theorem gX12_quarrels_X12_tells : GoodIn wsX12_quarrels (wsV RX12 223 RX12 yX12_tells wsX12_tells) := goodIn_app (goodIn_of _ (by decide +kernel)) ggX12_quarrels_X12_tells
theorem dX12_quarrels_0 : decode cX12_quarrels 0 = .ok (.iload_n 1, 1) := by decide +kernel
theorem dX12_quarrels_1 : decode cX12_quarrels 1 = .ok (.i2l, 1) := by decide +kernel
theorem dX12_quarrels_2 : decode cX12_quarrels 2 = .ok (.lconst 0, 1) := by decide +kernel
theorem dX12_quarrels_3 : decode cX12_quarrels 3 = .ok (.ldc2_w 198, 3) := by decide +kernel
theorem dX12_quarrels_6 : decode cX12_quarrels 6 = .ok (.invokestatic 93, 3) := by decide +kernel
theorem dX12_quarrels_9 : decode cX12_quarrels 9 = .ok (.ifCond .eq 25, 3) := by decide +kernel
theorem dX12_quarrels_12 : decode cX12_quarrels 12 = .ok (.iload_n 2, 1) := by decide +kernel
theorem dX12_quarrels_13 : decode cX12_quarrels 13 = .ok (.i2l, 1) := by decide +kernel
theorem dX12_quarrels_14 : decode cX12_quarrels 14 = .ok (.lconst 0, 1) := by decide +kernel
theorem dX12_quarrels_15 : decode cX12_quarrels 15 = .ok (.ldc2_w 200, 3) := by decide +kernel
theorem dX12_quarrels_18 : decode cX12_quarrels 18 = .ok (.invokestatic 93, 3) := by decide +kernel
theorem dX12_quarrels_21 : decode cX12_quarrels 21 = .ok (.ifCond .eq 13, 3) := by decide +kernel
theorem dX12_quarrels_24 : decode cX12_quarrels 24 = .ok (.iload_n 3, 1) := by decide +kernel
theorem dX12_quarrels_25 : decode cX12_quarrels 25 = .ok (.i2l, 1) := by decide +kernel
theorem dX12_quarrels_26 : decode cX12_quarrels 26 = .ok (.lconst 0, 1) := by decide +kernel
theorem dX12_quarrels_27 : decode cX12_quarrels 27 = .ok (.lconst 1, 1) := by decide +kernel
theorem dX12_quarrels_28 : decode cX12_quarrels 28 = .ok (.invokestatic 93, 3) := by decide +kernel
theorem dX12_quarrels_31 : decode cX12_quarrels 31 = .ok (.ifCond .ne 5, 3) := by decide +kernel
theorem dX12_quarrels_34 : decode cX12_quarrels 34 = .ok (.iconst (-1), 1) := by decide +kernel
theorem dX12_quarrels_35 : decode cX12_quarrels 35 = .ok (.ireturn, 1) := by decide +kernel
theorem dX12_quarrels_36 : decode cX12_quarrels 36 = .ok (.iconst 0, 1) := by decide +kernel
theorem dX12_quarrels_37 : decode cX12_quarrels 37 = .ok (.istore 4, 2) := by decide +kernel
theorem dX12_quarrels_39 : decode cX12_quarrels 39 = .ok (.iconst 0, 1) := by decide +kernel
theorem dX12_quarrels_40 : decode cX12_quarrels 40 = .ok (.istore 5, 2) := by decide +kernel
theorem dX12_quarrels_42 : decode cX12_quarrels 42 = .ok (.iload 5, 2) := by decide +kernel
theorem dX12_quarrels_44 : decode cX12_quarrels 44 = .ok (.sipush 10000, 3) := by decide +kernel
theorem dX12_quarrels_47 : decode cX12_quarrels 47 = .ok (.if_icmp .ge 46, 3) := by decide +kernel
theorem dX12_quarrels_50 : decode cX12_quarrels 50 = .ok (.aload_n 0, 1) := by decide +kernel
theorem dX12_quarrels_51 : decode cX12_quarrels 51 = .ok (.bipush 97, 2) := by decide +kernel
theorem dX12_quarrels_53 : decode cX12_quarrels 53 = .ok (.iload_n 1, 1) := by decide +kernel
theorem dX12_quarrels_54 : decode cX12_quarrels 54 = .ok (.iload_n 2, 1) := by decide +kernel
theorem dX12_quarrels_55 : decode cX12_quarrels 55 = .ok (.iload 5, 2) := by decide +kernel
theorem dX12_quarrels_57 : decode cX12_quarrels 57 = .ok (.invokevirtual 223, 3) := by decide +kernel
theorem dX12_quarrels_60 : decode cX12_quarrels 60 = .ok (.ifCond .eq 27, 3) := by decide +kernel
theorem dX12_quarrels_63 : decode cX12_quarrels 63 = .ok (.aload_n 0, 1) := by decide +kernel
theorem dX12_quarrels_64 : decode cX12_quarrels 64 = .ok (.bipush 98, 2) := by decide +kernel
theorem dX12_quarrels_66 : decode cX12_quarrels 66 = .ok (.iload_n 1, 1) := by decide +kernel
theorem dX12_quarrels_67 : decode cX12_quarrels 67 = .ok (.iload_n 2, 1) := by decide +kernel
theorem dX12_quarrels_68 : decode cX12_quarrels 68 = .ok (.iload 5, 2) := by decide +kernel
theorem dX12_quarrels_70 : decode cX12_quarrels 70 = .ok (.invokevirtual 223, 3) := by decide +kernel
theorem dX12_quarrels_73 : decode cX12_quarrels 73 = .ok (.ifCond .eq 14, 3) := by decide +kernel
theorem dX12_quarrels_76 : decode cX12_quarrels 76 = .ok (.iload_n 3, 1) := by decide +kernel
theorem dX12_quarrels_77 : decode cX12_quarrels 77 = .ok (.iconst 1, 1) := by decide +kernel
theorem dX12_quarrels_78 : decode cX12_quarrels 78 = .ok (.if_icmp .ne 6, 3) := by decide +kernel
theorem dX12_quarrels_81 : decode cX12_quarrels 81 = .ok (.iload 5, 2) := by decide +kernel
theorem dX12_quarrels_83 : decode cX12_quarrels 83 = .ok (.ireturn, 1) := by decide +kernel
theorem dX12_quarrels_84 : decode cX12_quarrels 84 = .ok (.iinc 4 1, 3) := by decide +kernel
theorem dX12_quarrels_87 : decode cX12_quarrels 87 = .ok (.iinc 5 1, 3) := by decide +kernel
theorem dX12_quarrels_90 : decode cX12_quarrels 90 = .ok (.goto (-48), 3) := by decide +kernel
theorem dX12_quarrels_93 : decode cX12_quarrels 93 = .ok (.iload_n 3, 1) := by decide +kernel
theorem dX12_quarrels_94 : decode cX12_quarrels 94 = .ok (.ifCond .ne 8, 3) := by decide +kernel
theorem dX12_quarrels_97 : decode cX12_quarrels 97 = .ok (.iload 4, 2) := by decide +kernel
theorem dX12_quarrels_99 : decode cX12_quarrels 99 = .ok (.goto 5, 3) := by decide +kernel
theorem dX12_quarrels_102 : decode cX12_quarrels 102 = .ok (.bipush (-4), 2) := by decide +kernel
theorem dX12_quarrels_104 : decode cX12_quarrels 104 = .ok (.ireturn, 1) := by decide +kernel
theorem dX12_meaning_0 : decode cX12_meaning 0 = .ok (.iconst 0, 1) := by decide +kernel
theorem dX12_meaning_1 : decode cX12_meaning 1 = .ok (.istore 4, 2) := by decide +kernel
theorem dX12_meaning_3 : decode cX12_meaning 3 = .ok (.iconst 0, 1) := by decide +kernel
theorem dX12_meaning_4 : decode cX12_meaning 4 = .ok (.istore 5, 2) := by decide +kernel
theorem dX12_meaning_6 : decode cX12_meaning 6 = .ok (.iload 5, 2) := by decide +kernel
theorem dX12_meaning_8 : decode cX12_meaning 8 = .ok (.aload_n 0, 1) := by decide +kernel
theorem dX12_meaning_9 : decode cX12_meaning 9 = .ok (.getfield 38, 3) := by decide +kernel
theorem dX12_meaning_12 : decode cX12_meaning 12 = .ok (.iconst 1, 1) := by decide +kernel
theorem dX12_meaning_13 : decode cX12_meaning 13 = .ok (.iaload, 1) := by decide +kernel
theorem dX12_meaning_14 : decode cX12_meaning 14 = .ok (.if_icmp .ge 102, 3) := by decide +kernel
theorem dX12_meaning_17 : decode cX12_meaning 17 = .ok (.sipush 300, 3) := by decide +kernel
theorem dX12_meaning_20 : decode cX12_meaning 20 = .ok (.iconst 5, 1) := by decide +kernel
theorem dX12_meaning_21 : decode cX12_meaning 21 = .ok (.iload 5, 2) := by decide +kernel
theorem dX12_meaning_23 : decode cX12_meaning 23 = .ok (.imul, 1) := by decide +kernel
theorem dX12_meaning_24 : decode cX12_meaning 24 = .ok (.iadd, 1) := by decide +kernel
theorem dX12_meaning_25 : decode cX12_meaning 25 = .ok (.istore 6, 2) := by decide +kernel
theorem dX12_meaning_27 : decode cX12_meaning 27 = .ok (.aload_n 0, 1) := by decide +kernel
theorem dX12_meaning_28 : decode cX12_meaning 28 = .ok (.getfield 41, 3) := by decide +kernel
theorem dX12_meaning_31 : decode cX12_meaning 31 = .ok (.iload 6, 2) := by decide +kernel
theorem dX12_meaning_33 : decode cX12_meaning 33 = .ok (.iaload, 1) := by decide +kernel
theorem dX12_meaning_34 : decode cX12_meaning 34 = .ok (.bipush 110, 2) := by decide +kernel
theorem dX12_meaning_36 : decode cX12_meaning 36 = .ok (.if_icmp .ne 46, 3) := by decide +kernel
theorem dX12_meaning_39 : decode cX12_meaning 39 = .ok (.aload_n 0, 1) := by decide +kernel
theorem dX12_meaning_40 : decode cX12_meaning 40 = .ok (.getfield 41, 3) := by decide +kernel
theorem dX12_meaning_43 : decode cX12_meaning 43 = .ok (.iload 6, 2) := by decide +kernel
theorem dX12_meaning_45 : decode cX12_meaning 45 = .ok (.iconst 1, 1) := by decide +kernel
theorem dX12_meaning_46 : decode cX12_meaning 46 = .ok (.iadd, 1) := by decide +kernel
theorem dX12_meaning_47 : decode cX12_meaning 47 = .ok (.iaload, 1) := by decide +kernel
theorem dX12_meaning_48 : decode cX12_meaning 48 = .ok (.iload_n 1, 1) := by decide +kernel
theorem dX12_meaning_49 : decode cX12_meaning 49 = .ok (.if_icmp .ne 33, 3) := by decide +kernel
theorem dX12_meaning_52 : decode cX12_meaning 52 = .ok (.aload_n 0, 1) := by decide +kernel
theorem dX12_meaning_53 : decode cX12_meaning 53 = .ok (.getfield 41, 3) := by decide +kernel
theorem dX12_meaning_56 : decode cX12_meaning 56 = .ok (.iload 6, 2) := by decide +kernel
theorem dX12_meaning_58 : decode cX12_meaning 58 = .ok (.iconst 3, 1) := by decide +kernel
theorem dX12_meaning_59 : decode cX12_meaning 59 = .ok (.iadd, 1) := by decide +kernel
theorem dX12_meaning_60 : decode cX12_meaning 60 = .ok (.iaload, 1) := by decide +kernel
theorem dX12_meaning_61 : decode cX12_meaning 61 = .ok (.iload_n 2, 1) := by decide +kernel
theorem dX12_meaning_62 : decode cX12_meaning 62 = .ok (.if_icmp .ne 20, 3) := by decide +kernel
theorem dX12_meaning_65 : decode cX12_meaning 65 = .ok (.aload_n 0, 1) := by decide +kernel
theorem dX12_meaning_66 : decode cX12_meaning 66 = .ok (.getfield 41, 3) := by decide +kernel
theorem dX12_meaning_69 : decode cX12_meaning 69 = .ok (.iload 6, 2) := by decide +kernel
theorem dX12_meaning_71 : decode cX12_meaning 71 = .ok (.iconst 4, 1) := by decide +kernel
theorem dX12_meaning_72 : decode cX12_meaning 72 = .ok (.iadd, 1) := by decide +kernel
theorem dX12_meaning_73 : decode cX12_meaning 73 = .ok (.iaload, 1) := by decide +kernel
theorem dX12_meaning_74 : decode cX12_meaning 74 = .ok (.iload_n 3, 1) := by decide +kernel
theorem dX12_meaning_75 : decode cX12_meaning 75 = .ok (.if_icmp .gt 7, 3) := by decide +kernel
theorem dX12_meaning_78 : decode cX12_meaning 78 = .ok (.iconst 1, 1) := by decide +kernel
theorem dX12_meaning_79 : decode cX12_meaning 79 = .ok (.goto 4, 3) := by decide +kernel
theorem dX12_meaning_82 : decode cX12_meaning 82 = .ok (.iconst 0, 1) := by decide +kernel
theorem dX12_meaning_83 : decode cX12_meaning 83 = .ok (.istore 7, 2) := by decide +kernel
theorem dX12_meaning_85 : decode cX12_meaning 85 = .ok (.iload 4, 2) := by decide +kernel
theorem dX12_meaning_87 : decode cX12_meaning 87 = .ok (.iload 7, 2) := by decide +kernel
theorem dX12_meaning_89 : decode cX12_meaning 89 = .ok (.ifCond .eq 17, 3) := by decide +kernel
theorem dX12_meaning_92 : decode cX12_meaning 92 = .ok (.iconst 1, 1) := by decide +kernel
theorem dX12_meaning_93 : decode cX12_meaning 93 = .ok (.aload_n 0, 1) := by decide +kernel
theorem dX12_meaning_94 : decode cX12_meaning 94 = .ok (.getfield 41, 3) := by decide +kernel
theorem dX12_meaning_97 : decode cX12_meaning 97 = .ok (.iload 6, 2) := by decide +kernel
theorem dX12_meaning_99 : decode cX12_meaning 99 = .ok (.iconst 2, 1) := by decide +kernel
theorem dX12_meaning_100 : decode cX12_meaning 100 = .ok (.iadd, 1) := by decide +kernel
theorem dX12_meaning_101 : decode cX12_meaning 101 = .ok (.iaload, 1) := by decide +kernel
theorem dX12_meaning_102 : decode cX12_meaning 102 = .ok (.ishl, 1) := by decide +kernel
theorem dX12_meaning_103 : decode cX12_meaning 103 = .ok (.goto 4, 3) := by decide +kernel
theorem dX12_meaning_106 : decode cX12_meaning 106 = .ok (.iconst 0, 1) := by decide +kernel
theorem dX12_meaning_107 : decode cX12_meaning 107 = .ok (.ior, 1) := by decide +kernel
theorem dX12_meaning_108 : decode cX12_meaning 108 = .ok (.istore 4, 2) := by decide +kernel
theorem dX12_meaning_110 : decode cX12_meaning 110 = .ok (.iinc 5 1, 3) := by decide +kernel
theorem dX12_meaning_113 : decode cX12_meaning 113 = .ok (.goto (-107), 3) := by decide +kernel
theorem dX12_meaning_116 : decode cX12_meaning 116 = .ok (.iload 4, 2) := by decide +kernel
theorem dX12_meaning_118 : decode cX12_meaning 118 = .ok (.ireturn, 1) := by decide +kernel
set_option maxRecDepth 20000 in
theorem ggX12_means_X12_in : GoodIn wsX12_means wsX12_in := goodIn_r _ [9] (by decide +kernel) (by decide +kernel)
set_option maxRecDepth 20000 in
theorem gX12_means_X12_in : GoodIn wsX12_means (va_wsS RX12 93 yX12_in wsX12_in) := goodIn_app (goodIn_of _ (by decide +kernel)) ggX12_means_X12_in
set_option maxRecDepth 20000 in
theorem ggX12_means_X12_meaning : GoodIn wsX12_means wsX12_meaning := goodIn_r _ [13, 4, 5, 22, 23, 24, 25, 26, 27, 28, 29, 30, 31, 32, 33, 34, 35, 36, 37, 38, 39, 40, 41, 42, 43, 44, 45, 46, 47, 48, 49, 50, 51, 52, 53, 54, 55, 56, 57, 58, 59, 60, 61, 62, 63] (by decide +kernel) (by decide +kernel)
set_option maxRecDepth 20000 in
theorem gX12_means_X12_meaning : GoodIn wsX12_means (wsV RX12 227 RX12 yX12_meaning wsX12_meaning) := goodIn_app (goodIn_of _ (by decide +kernel)) ggX12_means_X12_meaning
set_option maxRecDepth 20000 in
theorem ggX12_means_X12_isLet : GoodIn wsX12_means wsX12_isLet := goodIn_r _ [17, 5, 18, 19, 20, 8, 21, 4, 6, 7, 9, 22, 23, 24, 25, 26, 27, 28, 29, 30, 31, 32, 33, 34, 35, 36, 37, 38, 39, 40, 41, 42, 43, 44, 45, 46, 47, 48, 49, 50, 51, 52, 53, 54, 55, 56, 57, 58, 59, 60, 61, 62, 63] (by decide +kernel) (by decide +kernel)
set_option maxRecDepth 20000 in
theorem gX12_means_X12_isLet : GoodIn wsX12_means (wsV RX12 220 RX12 yX12_isLet wsX12_isLet) := goodIn_app (goodIn_of _ (by decide +kernel)) ggX12_means_X12_isLet
theorem dX12_means_0 : decode cX12_means 0 = .ok (.iload_n 1, 1) := by decide +kernel
theorem dX12_means_1 : decode cX12_means 1 = .ok (.i2l, 1) := by decide +kernel
theorem dX12_means_2 : decode cX12_means 2 = .ok (.lconst 0, 1) := by decide +kernel
theorem dX12_means_3 : decode cX12_means 3 = .ok (.ldc2_w 202, 3) := by decide +kernel
theorem dX12_means_6 : decode cX12_means 6 = .ok (.invokestatic 93, 3) := by decide +kernel
theorem dX12_means_9 : decode cX12_means 9 = .ok (.ifCond .eq 38, 3) := by decide +kernel
theorem dX12_means_12 : decode cX12_means 12 = .ok (.iload_n 2, 1) := by decide +kernel
theorem dX12_means_13 : decode cX12_means 13 = .ok (.i2l, 1) := by decide +kernel
theorem dX12_means_14 : decode cX12_means 14 = .ok (.lconst 0, 1) := by decide +kernel
theorem dX12_means_15 : decode cX12_means 15 = .ok (.ldc2_w 200, 3) := by decide +kernel
theorem dX12_means_18 : decode cX12_means 18 = .ok (.invokestatic 93, 3) := by decide +kernel
theorem dX12_means_21 : decode cX12_means 21 = .ok (.ifCond .eq 26, 3) := by decide +kernel
theorem dX12_means_24 : decode cX12_means 24 = .ok (.iload_n 3, 1) := by decide +kernel
theorem dX12_means_25 : decode cX12_means 25 = .ok (.i2l, 1) := by decide +kernel
theorem dX12_means_26 : decode cX12_means 26 = .ok (.lconst 0, 1) := by decide +kernel
theorem dX12_means_27 : decode cX12_means 27 = .ok (.ldc2_w 211, 3) := by decide +kernel
theorem dX12_means_30 : decode cX12_means 30 = .ok (.invokestatic 93, 3) := by decide +kernel
theorem dX12_means_33 : decode cX12_means 33 = .ok (.ifCond .eq 14, 3) := by decide +kernel
theorem dX12_means_36 : decode cX12_means 36 = .ok (.iload 4, 2) := by decide +kernel
theorem dX12_means_38 : decode cX12_means 38 = .ok (.i2l, 1) := by decide +kernel
theorem dX12_means_39 : decode cX12_means 39 = .ok (.lconst 0, 1) := by decide +kernel
theorem dX12_means_40 : decode cX12_means 40 = .ok (.lconst 1, 1) := by decide +kernel
theorem dX12_means_41 : decode cX12_means 41 = .ok (.invokestatic 93, 3) := by decide +kernel
theorem dX12_means_44 : decode cX12_means 44 = .ok (.ifCond .ne 5, 3) := by decide +kernel
theorem dX12_means_47 : decode cX12_means 47 = .ok (.iconst (-1), 1) := by decide +kernel
theorem dX12_means_48 : decode cX12_means 48 = .ok (.ireturn, 1) := by decide +kernel
theorem dX12_means_49 : decode cX12_means 49 = .ok (.aload_n 0, 1) := by decide +kernel
theorem dX12_means_50 : decode cX12_means 50 = .ok (.iload_n 1, 1) := by decide +kernel
theorem dX12_means_51 : decode cX12_means 51 = .ok (.iload_n 2, 1) := by decide +kernel
theorem dX12_means_52 : decode cX12_means 52 = .ok (.iload_n 3, 1) := by decide +kernel
theorem dX12_means_53 : decode cX12_means 53 = .ok (.invokevirtual 227, 3) := by decide +kernel
theorem dX12_means_56 : decode cX12_means 56 = .ok (.istore 5, 2) := by decide +kernel
theorem dX12_means_58 : decode cX12_means 58 = .ok (.iload 4, 2) := by decide +kernel
theorem dX12_means_60 : decode cX12_means 60 = .ok (.ifCond .ne 6, 3) := by decide +kernel
theorem dX12_means_63 : decode cX12_means 63 = .ok (.iload 5, 2) := by decide +kernel
theorem dX12_means_65 : decode cX12_means 65 = .ok (.ireturn, 1) := by decide +kernel
theorem dX12_means_66 : decode cX12_means 66 = .ok (.bipush (-4), 2) := by decide +kernel
theorem dX12_means_68 : decode cX12_means 68 = .ok (.istore 6, 2) := by decide +kernel
theorem dX12_means_70 : decode cX12_means 70 = .ok (.iconst (-1), 1) := by decide +kernel
theorem dX12_means_71 : decode cX12_means 71 = .ok (.istore 7, 2) := by decide +kernel
theorem dX12_means_73 : decode cX12_means 73 = .ok (.iconst 0, 1) := by decide +kernel
theorem dX12_means_74 : decode cX12_means 74 = .ok (.istore 8, 2) := by decide +kernel
theorem dX12_means_76 : decode cX12_means 76 = .ok (.iload 8, 2) := by decide +kernel
theorem dX12_means_78 : decode cX12_means 78 = .ok (.aload_n 0, 1) := by decide +kernel
theorem dX12_means_79 : decode cX12_means 79 = .ok (.getfield 38, 3) := by decide +kernel
theorem dX12_means_82 : decode cX12_means 82 = .ok (.iconst 1, 1) := by decide +kernel
theorem dX12_means_83 : decode cX12_means 83 = .ok (.iaload, 1) := by decide +kernel
theorem dX12_means_84 : decode cX12_means 84 = .ok (.if_icmp .ge 118, 3) := by decide +kernel
theorem dX12_means_87 : decode cX12_means 87 = .ok (.sipush 300, 3) := by decide +kernel
theorem dX12_means_90 : decode cX12_means 90 = .ok (.iconst 5, 1) := by decide +kernel
theorem dX12_means_91 : decode cX12_means 91 = .ok (.iload 8, 2) := by decide +kernel
theorem dX12_means_93 : decode cX12_means 93 = .ok (.imul, 1) := by decide +kernel
theorem dX12_means_94 : decode cX12_means 94 = .ok (.iadd, 1) := by decide +kernel
theorem dX12_means_95 : decode cX12_means 95 = .ok (.istore 9, 2) := by decide +kernel
theorem dX12_means_97 : decode cX12_means 97 = .ok (.aload_n 0, 1) := by decide +kernel
theorem dX12_means_98 : decode cX12_means 98 = .ok (.getfield 41, 3) := by decide +kernel
theorem dX12_means_101 : decode cX12_means 101 = .ok (.iload 9, 2) := by decide +kernel
theorem dX12_means_103 : decode cX12_means 103 = .ok (.iaload, 1) := by decide +kernel
theorem dX12_means_104 : decode cX12_means 104 = .ok (.bipush 110, 2) := by decide +kernel
theorem dX12_means_106 : decode cX12_means 106 = .ok (.if_icmp .ne 46, 3) := by decide +kernel
theorem dX12_means_109 : decode cX12_means 109 = .ok (.aload_n 0, 1) := by decide +kernel
theorem dX12_means_110 : decode cX12_means 110 = .ok (.getfield 41, 3) := by decide +kernel
theorem dX12_means_113 : decode cX12_means 113 = .ok (.iload 9, 2) := by decide +kernel
theorem dX12_means_115 : decode cX12_means 115 = .ok (.iconst 1, 1) := by decide +kernel
theorem dX12_means_116 : decode cX12_means 116 = .ok (.iadd, 1) := by decide +kernel
theorem dX12_means_117 : decode cX12_means 117 = .ok (.iaload, 1) := by decide +kernel
theorem dX12_means_118 : decode cX12_means 118 = .ok (.iload_n 1, 1) := by decide +kernel
theorem dX12_means_119 : decode cX12_means 119 = .ok (.if_icmp .ne 33, 3) := by decide +kernel
theorem dX12_means_122 : decode cX12_means 122 = .ok (.aload_n 0, 1) := by decide +kernel
theorem dX12_means_123 : decode cX12_means 123 = .ok (.getfield 41, 3) := by decide +kernel
theorem dX12_means_126 : decode cX12_means 126 = .ok (.iload 9, 2) := by decide +kernel
theorem dX12_means_128 : decode cX12_means 128 = .ok (.iconst 3, 1) := by decide +kernel
theorem dX12_means_129 : decode cX12_means 129 = .ok (.iadd, 1) := by decide +kernel
theorem dX12_means_130 : decode cX12_means 130 = .ok (.iaload, 1) := by decide +kernel
theorem dX12_means_131 : decode cX12_means 131 = .ok (.iload_n 2, 1) := by decide +kernel
theorem dX12_means_132 : decode cX12_means 132 = .ok (.if_icmp .ne 20, 3) := by decide +kernel
theorem dX12_means_135 : decode cX12_means 135 = .ok (.aload_n 0, 1) := by decide +kernel
theorem dX12_means_136 : decode cX12_means 136 = .ok (.getfield 41, 3) := by decide +kernel
theorem dX12_means_139 : decode cX12_means 139 = .ok (.iload 9, 2) := by decide +kernel
theorem dX12_means_141 : decode cX12_means 141 = .ok (.iconst 4, 1) := by decide +kernel
theorem dX12_means_142 : decode cX12_means 142 = .ok (.iadd, 1) := by decide +kernel
theorem dX12_means_143 : decode cX12_means 143 = .ok (.iaload, 1) := by decide +kernel
theorem dX12_means_144 : decode cX12_means 144 = .ok (.iload_n 3, 1) := by decide +kernel
theorem dX12_means_145 : decode cX12_means 145 = .ok (.if_icmp .gt 7, 3) := by decide +kernel
theorem dX12_means_148 : decode cX12_means 148 = .ok (.iconst 1, 1) := by decide +kernel
theorem dX12_means_149 : decode cX12_means 149 = .ok (.goto 4, 3) := by decide +kernel
theorem dX12_means_152 : decode cX12_means 152 = .ok (.iconst 0, 1) := by decide +kernel
theorem dX12_means_153 : decode cX12_means 153 = .ok (.istore 10, 2) := by decide +kernel
theorem dX12_means_155 : decode cX12_means 155 = .ok (.iload 10, 2) := by decide +kernel
theorem dX12_means_157 : decode cX12_means 157 = .ok (.ifCond .eq 39, 3) := by decide +kernel
theorem dX12_means_160 : decode cX12_means 160 = .ok (.aload_n 0, 1) := by decide +kernel
theorem dX12_means_161 : decode cX12_means 161 = .ok (.getfield 41, 3) := by decide +kernel
theorem dX12_means_164 : decode cX12_means 164 = .ok (.iload 9, 2) := by decide +kernel
theorem dX12_means_166 : decode cX12_means 166 = .ok (.iconst 4, 1) := by decide +kernel
theorem dX12_means_167 : decode cX12_means 167 = .ok (.iadd, 1) := by decide +kernel
theorem dX12_means_168 : decode cX12_means 168 = .ok (.iaload, 1) := by decide +kernel
theorem dX12_means_169 : decode cX12_means 169 = .ok (.iload 7, 2) := by decide +kernel
theorem dX12_means_171 : decode cX12_means 171 = .ok (.if_icmp .lt 25, 3) := by decide +kernel
theorem dX12_means_174 : decode cX12_means 174 = .ok (.aload_n 0, 1) := by decide +kernel
theorem dX12_means_175 : decode cX12_means 175 = .ok (.getfield 41, 3) := by decide +kernel
theorem dX12_means_178 : decode cX12_means 178 = .ok (.iload 9, 2) := by decide +kernel
theorem dX12_means_180 : decode cX12_means 180 = .ok (.iconst 4, 1) := by decide +kernel
theorem dX12_means_181 : decode cX12_means 181 = .ok (.iadd, 1) := by decide +kernel
theorem dX12_means_182 : decode cX12_means 182 = .ok (.iaload, 1) := by decide +kernel
theorem dX12_means_183 : decode cX12_means 183 = .ok (.istore 7, 2) := by decide +kernel
theorem dX12_means_185 : decode cX12_means 185 = .ok (.aload_n 0, 1) := by decide +kernel
theorem dX12_means_186 : decode cX12_means 186 = .ok (.getfield 41, 3) := by decide +kernel
theorem dX12_means_189 : decode cX12_means 189 = .ok (.iload 9, 2) := by decide +kernel
theorem dX12_means_191 : decode cX12_means 191 = .ok (.iconst 2, 1) := by decide +kernel
theorem dX12_means_192 : decode cX12_means 192 = .ok (.iadd, 1) := by decide +kernel
theorem dX12_means_193 : decode cX12_means 193 = .ok (.iaload, 1) := by decide +kernel
theorem dX12_means_194 : decode cX12_means 194 = .ok (.istore 6, 2) := by decide +kernel
theorem dX12_means_196 : decode cX12_means 196 = .ok (.iinc 8 1, 3) := by decide +kernel
theorem dX12_means_199 : decode cX12_means 199 = .ok (.goto (-123), 3) := by decide +kernel
theorem dX12_means_202 : decode cX12_means 202 = .ok (.iload 6, 2) := by decide +kernel
theorem dX12_means_204 : decode cX12_means 204 = .ok (.bipush (-4), 2) := by decide +kernel
theorem dX12_means_206 : decode cX12_means 206 = .ok (.if_icmp .eq 7, 3) := by decide +kernel
theorem dX12_means_209 : decode cX12_means 209 = .ok (.iconst 1, 1) := by decide +kernel
theorem dX12_means_210 : decode cX12_means 210 = .ok (.goto 4, 3) := by decide +kernel
theorem dX12_means_213 : decode cX12_means 213 = .ok (.iconst 0, 1) := by decide +kernel
theorem dX12_means_214 : decode cX12_means 214 = .ok (.istore 8, 2) := by decide +kernel
theorem dX12_means_216 : decode cX12_means 216 = .ok (.iconst 0, 1) := by decide +kernel
theorem dX12_means_217 : decode cX12_means 217 = .ok (.istore 9, 2) := by decide +kernel
theorem dX12_means_219 : decode cX12_means 219 = .ok (.iload 9, 2) := by decide +kernel
theorem dX12_means_221 : decode cX12_means 221 = .ok (.bipush 16, 2) := by decide +kernel
theorem dX12_means_223 : decode cX12_means 223 = .ok (.if_icmp .ge 49, 3) := by decide +kernel
theorem dX12_means_226 : decode cX12_means 226 = .ok (.iload 8, 2) := by decide +kernel
theorem dX12_means_228 : decode cX12_means 228 = .ok (.ifCond .eq 35, 3) := by decide +kernel
theorem dX12_means_231 : decode cX12_means 231 = .ok (.iload 5, 2) := by decide +kernel
theorem dX12_means_233 : decode cX12_means 233 = .ok (.iload 9, 2) := by decide +kernel
theorem dX12_means_235 : decode cX12_means 235 = .ok (.ishr, 1) := by decide +kernel
theorem dX12_means_236 : decode cX12_means 236 = .ok (.iconst 1, 1) := by decide +kernel
theorem dX12_means_237 : decode cX12_means 237 = .ok (.iand, 1) := by decide +kernel
theorem dX12_means_238 : decode cX12_means 238 = .ok (.ifCond .eq 21, 3) := by decide +kernel
theorem dX12_means_241 : decode cX12_means 241 = .ok (.iload 9, 2) := by decide +kernel
theorem dX12_means_243 : decode cX12_means 243 = .ok (.iload 6, 2) := by decide +kernel
theorem dX12_means_245 : decode cX12_means 245 = .ok (.if_icmp .eq 14, 3) := by decide +kernel
theorem dX12_means_248 : decode cX12_means 248 = .ok (.aload_n 0, 1) := by decide +kernel
theorem dX12_means_249 : decode cX12_means 249 = .ok (.iload 9, 2) := by decide +kernel
theorem dX12_means_251 : decode cX12_means 251 = .ok (.iload_n 2, 1) := by decide +kernel
theorem dX12_means_252 : decode cX12_means 252 = .ok (.iload_n 3, 1) := by decide +kernel
theorem dX12_means_253 : decode cX12_means 253 = .ok (.invokevirtual 220, 3) := by decide +kernel
theorem dX12_means_256 : decode cX12_means 256 = .ok (.ifCond .ne 7, 3) := by decide +kernel
theorem dX12_means_259 : decode cX12_means 259 = .ok (.iconst 1, 1) := by decide +kernel
theorem dX12_means_260 : decode cX12_means 260 = .ok (.goto 4, 3) := by decide +kernel
theorem dX12_means_263 : decode cX12_means 263 = .ok (.iconst 0, 1) := by decide +kernel
theorem dX12_means_264 : decode cX12_means 264 = .ok (.istore 8, 2) := by decide +kernel
theorem dX12_means_266 : decode cX12_means 266 = .ok (.iinc 9 1, 3) := by decide +kernel
theorem dX12_means_269 : decode cX12_means 269 = .ok (.goto (-50), 3) := by decide +kernel
theorem dX12_means_272 : decode cX12_means 272 = .ok (.iload 8, 2) := by decide +kernel
theorem dX12_means_274 : decode cX12_means 274 = .ok (.ifCond .eq 8, 3) := by decide +kernel
theorem dX12_means_277 : decode cX12_means 277 = .ok (.iload 6, 2) := by decide +kernel
theorem dX12_means_279 : decode cX12_means 279 = .ok (.goto 5, 3) := by decide +kernel
theorem dX12_means_282 : decode cX12_means 282 = .ok (.bipush (-4), 2) := by decide +kernel
theorem dX12_means_284 : decode cX12_means 284 = .ok (.ireturn, 1) := by decide +kernel
set_option maxRecDepth 20000 in
theorem ggX12_paper_X12_in : GoodIn wsX12_paper wsX12_in := goodIn_r _ [11] (by decide +kernel) (by decide +kernel)
set_option maxRecDepth 20000 in
theorem gX12_paper_X12_in : GoodIn wsX12_paper (va_wsS RX12 93 yX12_in wsX12_in) := goodIn_app (goodIn_of _ (by decide +kernel)) ggX12_paper_X12_in
theorem dX12_paper_0 : decode cX12_paper 0 = .ok (.iload_n 1, 1) := by decide +kernel
theorem dX12_paper_1 : decode cX12_paper 1 = .ok (.i2l, 1) := by decide +kernel
theorem dX12_paper_2 : decode cX12_paper 2 = .ok (.lconst 0, 1) := by decide +kernel
theorem dX12_paper_3 : decode cX12_paper 3 = .ok (.ldc2_w 200, 3) := by decide +kernel
theorem dX12_paper_6 : decode cX12_paper 6 = .ok (.invokestatic 93, 3) := by decide +kernel
theorem dX12_paper_9 : decode cX12_paper 9 = .ok (.ifCond .eq 53, 3) := by decide +kernel
theorem dX12_paper_12 : decode cX12_paper 12 = .ok (.iload_n 2, 1) := by decide +kernel
theorem dX12_paper_13 : decode cX12_paper 13 = .ok (.i2l, 1) := by decide +kernel
theorem dX12_paper_14 : decode cX12_paper 14 = .ok (.lconst 0, 1) := by decide +kernel
theorem dX12_paper_15 : decode cX12_paper 15 = .ok (.ldc2_w 202, 3) := by decide +kernel
theorem dX12_paper_18 : decode cX12_paper 18 = .ok (.invokestatic 93, 3) := by decide +kernel
theorem dX12_paper_21 : decode cX12_paper 21 = .ok (.ifCond .eq 41, 3) := by decide +kernel
theorem dX12_paper_24 : decode cX12_paper 24 = .ok (.iload_n 3, 1) := by decide +kernel
theorem dX12_paper_25 : decode cX12_paper 25 = .ok (.i2l, 1) := by decide +kernel
theorem dX12_paper_26 : decode cX12_paper 26 = .ok (.lconst 0, 1) := by decide +kernel
theorem dX12_paper_27 : decode cX12_paper 27 = .ok (.ldc2_w 211, 3) := by decide +kernel
theorem dX12_paper_30 : decode cX12_paper 30 = .ok (.invokestatic 93, 3) := by decide +kernel
theorem dX12_paper_33 : decode cX12_paper 33 = .ok (.ifCond .eq 29, 3) := by decide +kernel
theorem dX12_paper_36 : decode cX12_paper 36 = .ok (.iload 4, 2) := by decide +kernel
theorem dX12_paper_38 : decode cX12_paper 38 = .ok (.i2l, 1) := by decide +kernel
theorem dX12_paper_39 : decode cX12_paper 39 = .ok (.lconst 1, 1) := by decide +kernel
theorem dX12_paper_40 : decode cX12_paper 40 = .ok (.ldc2_w 97, 3) := by decide +kernel
theorem dX12_paper_43 : decode cX12_paper 43 = .ok (.invokestatic 93, 3) := by decide +kernel
theorem dX12_paper_46 : decode cX12_paper 46 = .ok (.ifCond .eq 16, 3) := by decide +kernel
theorem dX12_paper_49 : decode cX12_paper 49 = .ok (.iload 5, 2) := by decide +kernel
theorem dX12_paper_51 : decode cX12_paper 51 = .ok (.i2l, 1) := by decide +kernel
theorem dX12_paper_52 : decode cX12_paper 52 = .ok (.lconst 0, 1) := by decide +kernel
theorem dX12_paper_53 : decode cX12_paper 53 = .ok (.ldc2_w 230, 3) := by decide +kernel
theorem dX12_paper_56 : decode cX12_paper 56 = .ok (.invokestatic 93, 3) := by decide +kernel
theorem dX12_paper_59 : decode cX12_paper 59 = .ok (.ifCond .ne 5, 3) := by decide +kernel
theorem dX12_paper_62 : decode cX12_paper 62 = .ok (.iconst (-1), 1) := by decide +kernel
theorem dX12_paper_63 : decode cX12_paper 63 = .ok (.ireturn, 1) := by decide +kernel
theorem dX12_paper_64 : decode cX12_paper 64 = .ok (.aload_n 0, 1) := by decide +kernel
theorem dX12_paper_65 : decode cX12_paper 65 = .ok (.getfield 232, 3) := by decide +kernel
theorem dX12_paper_68 : decode cX12_paper 68 = .ok (.bipush 10, 2) := by decide +kernel
theorem dX12_paper_70 : decode cX12_paper 70 = .ok (.if_icmp .ne 6, 3) := by decide +kernel
theorem dX12_paper_73 : decode cX12_paper 73 = .ok (.bipush (-3), 2) := by decide +kernel
theorem dX12_paper_75 : decode cX12_paper 75 = .ok (.ireturn, 1) := by decide +kernel
theorem dX12_paper_76 : decode cX12_paper 76 = .ok (.iconst 5, 1) := by decide +kernel
theorem dX12_paper_77 : decode cX12_paper 77 = .ok (.aload_n 0, 1) := by decide +kernel
theorem dX12_paper_78 : decode cX12_paper 78 = .ok (.getfield 232, 3) := by decide +kernel
theorem dX12_paper_81 : decode cX12_paper 81 = .ok (.imul, 1) := by decide +kernel
theorem dX12_paper_82 : decode cX12_paper 82 = .ok (.istore 6, 2) := by decide +kernel
theorem dX12_paper_84 : decode cX12_paper 84 = .ok (.aload_n 0, 1) := by decide +kernel
theorem dX12_paper_85 : decode cX12_paper 85 = .ok (.getfield 44, 3) := by decide +kernel
theorem dX12_paper_88 : decode cX12_paper 88 = .ok (.iload 6, 2) := by decide +kernel
theorem dX12_paper_90 : decode cX12_paper 90 = .ok (.iload_n 1, 1) := by decide +kernel
theorem dX12_paper_91 : decode cX12_paper 91 = .ok (.iastore, 1) := by decide +kernel
theorem dX12_paper_92 : decode cX12_paper 92 = .ok (.aload_n 0, 1) := by decide +kernel
theorem dX12_paper_93 : decode cX12_paper 93 = .ok (.getfield 44, 3) := by decide +kernel
theorem dX12_paper_96 : decode cX12_paper 96 = .ok (.iload 6, 2) := by decide +kernel
theorem dX12_paper_98 : decode cX12_paper 98 = .ok (.iconst 1, 1) := by decide +kernel
theorem dX12_paper_99 : decode cX12_paper 99 = .ok (.iadd, 1) := by decide +kernel
theorem dX12_paper_100 : decode cX12_paper 100 = .ok (.iload_n 2, 1) := by decide +kernel
theorem dX12_paper_101 : decode cX12_paper 101 = .ok (.iastore, 1) := by decide +kernel
theorem dX12_paper_102 : decode cX12_paper 102 = .ok (.aload_n 0, 1) := by decide +kernel
theorem dX12_paper_103 : decode cX12_paper 103 = .ok (.getfield 44, 3) := by decide +kernel
theorem dX12_paper_106 : decode cX12_paper 106 = .ok (.iload 6, 2) := by decide +kernel
theorem dX12_paper_108 : decode cX12_paper 108 = .ok (.iconst 2, 1) := by decide +kernel
theorem dX12_paper_109 : decode cX12_paper 109 = .ok (.iadd, 1) := by decide +kernel
theorem dX12_paper_110 : decode cX12_paper 110 = .ok (.iload_n 3, 1) := by decide +kernel
theorem dX12_paper_111 : decode cX12_paper 111 = .ok (.iastore, 1) := by decide +kernel
theorem dX12_paper_112 : decode cX12_paper 112 = .ok (.aload_n 0, 1) := by decide +kernel
theorem dX12_paper_113 : decode cX12_paper 113 = .ok (.getfield 44, 3) := by decide +kernel
theorem dX12_paper_116 : decode cX12_paper 116 = .ok (.iload 6, 2) := by decide +kernel
theorem dX12_paper_118 : decode cX12_paper 118 = .ok (.iconst 3, 1) := by decide +kernel
theorem dX12_paper_119 : decode cX12_paper 119 = .ok (.iadd, 1) := by decide +kernel
theorem dX12_paper_120 : decode cX12_paper 120 = .ok (.iload 4, 2) := by decide +kernel
theorem dX12_paper_122 : decode cX12_paper 122 = .ok (.iastore, 1) := by decide +kernel
theorem dX12_paper_123 : decode cX12_paper 123 = .ok (.aload_n 0, 1) := by decide +kernel
theorem dX12_paper_124 : decode cX12_paper 124 = .ok (.getfield 44, 3) := by decide +kernel
theorem dX12_paper_127 : decode cX12_paper 127 = .ok (.iload 6, 2) := by decide +kernel
theorem dX12_paper_129 : decode cX12_paper 129 = .ok (.iconst 4, 1) := by decide +kernel
theorem dX12_paper_130 : decode cX12_paper 130 = .ok (.iadd, 1) := by decide +kernel
theorem dX12_paper_131 : decode cX12_paper 131 = .ok (.iload 5, 2) := by decide +kernel
theorem dX12_paper_133 : decode cX12_paper 133 = .ok (.iastore, 1) := by decide +kernel
theorem dX12_paper_134 : decode cX12_paper 134 = .ok (.aload_n 0, 1) := by decide +kernel
theorem dX12_paper_135 : decode cX12_paper 135 = .ok (.dup, 1) := by decide +kernel
theorem dX12_paper_136 : decode cX12_paper 136 = .ok (.getfield 232, 3) := by decide +kernel
theorem dX12_paper_139 : decode cX12_paper 139 = .ok (.iconst 1, 1) := by decide +kernel
theorem dX12_paper_140 : decode cX12_paper 140 = .ok (.iadd, 1) := by decide +kernel
theorem dX12_paper_141 : decode cX12_paper 141 = .ok (.putfield 232, 3) := by decide +kernel
theorem dX12_paper_144 : decode cX12_paper 144 = .ok (.aload_n 0, 1) := by decide +kernel
theorem dX12_paper_145 : decode cX12_paper 145 = .ok (.getfield 232, 3) := by decide +kernel
theorem dX12_paper_148 : decode cX12_paper 148 = .ok (.iconst 1, 1) := by decide +kernel
theorem dX12_paper_149 : decode cX12_paper 149 = .ok (.isub, 1) := by decide +kernel
theorem dX12_paper_150 : decode cX12_paper 150 = .ok (.ireturn, 1) := by decide +kernel
set_option maxRecDepth 20000 in
theorem ggX12_custom_X12_in : GoodIn wsX12_custom wsX12_in := goodIn_r _ [6] (by decide +kernel) (by decide +kernel)
set_option maxRecDepth 20000 in
theorem gX12_custom_X12_in : GoodIn wsX12_custom (va_wsS RX12 93 yX12_in wsX12_in) := goodIn_app (goodIn_of _ (by decide +kernel)) ggX12_custom_X12_in
theorem dX12_custom_0 : decode cX12_custom 0 = .ok (.bipush (-4), 2) := by decide +kernel
theorem dX12_custom_2 : decode cX12_custom 2 = .ok (.istore_n 3, 1) := by decide +kernel
theorem dX12_custom_3 : decode cX12_custom 3 = .ok (.iconst 0, 1) := by decide +kernel
theorem dX12_custom_4 : decode cX12_custom 4 = .ok (.istore 4, 2) := by decide +kernel
theorem dX12_custom_6 : decode cX12_custom 6 = .ok (.iload 4, 2) := by decide +kernel
theorem dX12_custom_8 : decode cX12_custom 8 = .ok (.aload_n 0, 1) := by decide +kernel
theorem dX12_custom_9 : decode cX12_custom 9 = .ok (.getfield 38, 3) := by decide +kernel
theorem dX12_custom_12 : decode cX12_custom 12 = .ok (.iconst 1, 1) := by decide +kernel
theorem dX12_custom_13 : decode cX12_custom 13 = .ok (.iaload, 1) := by decide +kernel
theorem dX12_custom_14 : decode cX12_custom 14 = .ok (.if_icmp .ge 86, 3) := by decide +kernel
theorem dX12_custom_17 : decode cX12_custom 17 = .ok (.sipush 300, 3) := by decide +kernel
theorem dX12_custom_20 : decode cX12_custom 20 = .ok (.iconst 5, 1) := by decide +kernel
theorem dX12_custom_21 : decode cX12_custom 21 = .ok (.iload 4, 2) := by decide +kernel
theorem dX12_custom_23 : decode cX12_custom 23 = .ok (.imul, 1) := by decide +kernel
theorem dX12_custom_24 : decode cX12_custom 24 = .ok (.iadd, 1) := by decide +kernel
theorem dX12_custom_25 : decode cX12_custom 25 = .ok (.istore 5, 2) := by decide +kernel
theorem dX12_custom_27 : decode cX12_custom 27 = .ok (.aload_n 0, 1) := by decide +kernel
theorem dX12_custom_28 : decode cX12_custom 28 = .ok (.getfield 41, 3) := by decide +kernel
theorem dX12_custom_31 : decode cX12_custom 31 = .ok (.iload 5, 2) := by decide +kernel
theorem dX12_custom_33 : decode cX12_custom 33 = .ok (.iaload, 1) := by decide +kernel
theorem dX12_custom_34 : decode cX12_custom 34 = .ok (.bipush 104, 2) := by decide +kernel
theorem dX12_custom_36 : decode cX12_custom 36 = .ok (.if_icmp .ne 56, 3) := by decide +kernel
theorem dX12_custom_39 : decode cX12_custom 39 = .ok (.aload_n 0, 1) := by decide +kernel
theorem dX12_custom_40 : decode cX12_custom 40 = .ok (.getfield 41, 3) := by decide +kernel
theorem dX12_custom_43 : decode cX12_custom 43 = .ok (.iload 5, 2) := by decide +kernel
theorem dX12_custom_45 : decode cX12_custom 45 = .ok (.iconst 1, 1) := by decide +kernel
theorem dX12_custom_46 : decode cX12_custom 46 = .ok (.iadd, 1) := by decide +kernel
theorem dX12_custom_47 : decode cX12_custom 47 = .ok (.iaload, 1) := by decide +kernel
theorem dX12_custom_48 : decode cX12_custom 48 = .ok (.iload_n 1, 1) := by decide +kernel
theorem dX12_custom_49 : decode cX12_custom 49 = .ok (.if_icmp .ne 43, 3) := by decide +kernel
theorem dX12_custom_52 : decode cX12_custom 52 = .ok (.iload_n 2, 1) := by decide +kernel
theorem dX12_custom_53 : decode cX12_custom 53 = .ok (.i2l, 1) := by decide +kernel
theorem dX12_custom_54 : decode cX12_custom 54 = .ok (.aload_n 0, 1) := by decide +kernel
theorem dX12_custom_55 : decode cX12_custom 55 = .ok (.getfield 41, 3) := by decide +kernel
theorem dX12_custom_58 : decode cX12_custom 58 = .ok (.iload 5, 2) := by decide +kernel
theorem dX12_custom_60 : decode cX12_custom 60 = .ok (.iconst 3, 1) := by decide +kernel
theorem dX12_custom_61 : decode cX12_custom 61 = .ok (.iadd, 1) := by decide +kernel
theorem dX12_custom_62 : decode cX12_custom 62 = .ok (.iaload, 1) := by decide +kernel
theorem dX12_custom_63 : decode cX12_custom 63 = .ok (.i2l, 1) := by decide +kernel
theorem dX12_custom_64 : decode cX12_custom 64 = .ok (.aload_n 0, 1) := by decide +kernel
theorem dX12_custom_65 : decode cX12_custom 65 = .ok (.getfield 41, 3) := by decide +kernel
theorem dX12_custom_68 : decode cX12_custom 68 = .ok (.iload 5, 2) := by decide +kernel
theorem dX12_custom_70 : decode cX12_custom 70 = .ok (.iconst 4, 1) := by decide +kernel
theorem dX12_custom_71 : decode cX12_custom 71 = .ok (.iadd, 1) := by decide +kernel
theorem dX12_custom_72 : decode cX12_custom 72 = .ok (.iaload, 1) := by decide +kernel
theorem dX12_custom_73 : decode cX12_custom 73 = .ok (.i2l, 1) := by decide +kernel
theorem dX12_custom_74 : decode cX12_custom 74 = .ok (.invokestatic 93, 3) := by decide +kernel
theorem dX12_custom_77 : decode cX12_custom 77 = .ok (.ifCond .eq 15, 3) := by decide +kernel
theorem dX12_custom_80 : decode cX12_custom 80 = .ok (.aload_n 0, 1) := by decide +kernel
theorem dX12_custom_81 : decode cX12_custom 81 = .ok (.getfield 41, 3) := by decide +kernel
theorem dX12_custom_84 : decode cX12_custom 84 = .ok (.iload 5, 2) := by decide +kernel
theorem dX12_custom_86 : decode cX12_custom 86 = .ok (.iconst 2, 1) := by decide +kernel
theorem dX12_custom_87 : decode cX12_custom 87 = .ok (.iadd, 1) := by decide +kernel
theorem dX12_custom_88 : decode cX12_custom 88 = .ok (.iaload, 1) := by decide +kernel
theorem dX12_custom_89 : decode cX12_custom 89 = .ok (.goto 4, 3) := by decide +kernel
theorem dX12_custom_92 : decode cX12_custom 92 = .ok (.iload_n 3, 1) := by decide +kernel
theorem dX12_custom_93 : decode cX12_custom 93 = .ok (.istore_n 3, 1) := by decide +kernel
theorem dX12_custom_94 : decode cX12_custom 94 = .ok (.iinc 4 1, 3) := by decide +kernel
theorem dX12_custom_97 : decode cX12_custom 97 = .ok (.goto (-91), 3) := by decide +kernel
theorem dX12_custom_100 : decode cX12_custom 100 = .ok (.iload_n 3, 1) := by decide +kernel
theorem dX12_custom_101 : decode cX12_custom 101 = .ok (.ireturn, 1) := by decide +kernel
set_option maxRecDepth 20000 in
theorem ggX12_layOwed_X12_meaning : GoodIn wsX12_layOwed wsX12_meaning := goodIn_r _ [15, 16, 17, 25, 26, 27, 28, 29, 30, 31, 32, 33, 34, 35, 36, 37, 38, 39, 40, 41, 42, 43, 44, 45, 46, 47, 48, 49, 50, 51, 52, 53, 54, 55, 56, 57, 58, 59, 60, 61, 62, 63, 64, 65, 66] (by decide +kernel) (by decide +kernel)
set_option maxRecDepth 20000 in
theorem gX12_layOwed_X12_meaning : GoodIn wsX12_layOwed (wsV RX12 227 RX12 yX12_meaning wsX12_meaning) := goodIn_app (goodIn_of _ (by decide +kernel)) ggX12_layOwed_X12_meaning
set_option maxRecDepth 20000 in
theorem ggX12_layOwed_X12_custom : GoodIn wsX12_layOwed wsX12_custom := goodIn_r _ [21, 16, 17, 22, 23, 14, 24, 25, 26, 27, 28, 29, 30, 31, 32, 33, 34, 35, 36, 37, 38, 39, 40, 41, 42, 43, 44, 45, 46, 47, 48, 49, 50, 51, 52, 53, 54, 55, 56, 57, 58, 59, 60, 61, 62, 63, 64, 65, 66] (by decide +kernel) (by decide +kernel)
set_option maxRecDepth 20000 in
theorem gX12_layOwed_X12_custom : GoodIn wsX12_layOwed (wsV RX12 235 RX12 yX12_custom wsX12_custom) := goodIn_app (goodIn_of _ (by decide +kernel)) ggX12_layOwed_X12_custom
theorem dX12_layOwed_0 : decode cX12_layOwed 0 = .ok (.iconst 5, 1) := by decide +kernel
theorem dX12_layOwed_1 : decode cX12_layOwed 1 = .ok (.iload_n 1, 1) := by decide +kernel
theorem dX12_layOwed_2 : decode cX12_layOwed 2 = .ok (.imul, 1) := by decide +kernel
theorem dX12_layOwed_3 : decode cX12_layOwed 3 = .ok (.istore_n 3, 1) := by decide +kernel
theorem dX12_layOwed_4 : decode cX12_layOwed 4 = .ok (.aload_n 0, 1) := by decide +kernel
theorem dX12_layOwed_5 : decode cX12_layOwed 5 = .ok (.aload_n 0, 1) := by decide +kernel
theorem dX12_layOwed_6 : decode cX12_layOwed 6 = .ok (.getfield 44, 3) := by decide +kernel
theorem dX12_layOwed_9 : decode cX12_layOwed 9 = .ok (.iload_n 3, 1) := by decide +kernel
theorem dX12_layOwed_10 : decode cX12_layOwed 10 = .ok (.iconst 1, 1) := by decide +kernel
theorem dX12_layOwed_11 : decode cX12_layOwed 11 = .ok (.iadd, 1) := by decide +kernel
theorem dX12_layOwed_12 : decode cX12_layOwed 12 = .ok (.iaload, 1) := by decide +kernel
theorem dX12_layOwed_13 : decode cX12_layOwed 13 = .ok (.aload_n 0, 1) := by decide +kernel
theorem dX12_layOwed_14 : decode cX12_layOwed 14 = .ok (.getfield 44, 3) := by decide +kernel
theorem dX12_layOwed_17 : decode cX12_layOwed 17 = .ok (.iload_n 3, 1) := by decide +kernel
theorem dX12_layOwed_18 : decode cX12_layOwed 18 = .ok (.iaload, 1) := by decide +kernel
theorem dX12_layOwed_19 : decode cX12_layOwed 19 = .ok (.iload_n 2, 1) := by decide +kernel
theorem dX12_layOwed_20 : decode cX12_layOwed 20 = .ok (.invokevirtual 227, 3) := by decide +kernel
theorem dX12_layOwed_23 : decode cX12_layOwed 23 = .ok (.istore 4, 2) := by decide +kernel
theorem dX12_layOwed_25 : decode cX12_layOwed 25 = .ok (.aload_n 0, 1) := by decide +kernel
theorem dX12_layOwed_26 : decode cX12_layOwed 26 = .ok (.getfield 44, 3) := by decide +kernel
theorem dX12_layOwed_29 : decode cX12_layOwed 29 = .ok (.iload_n 3, 1) := by decide +kernel
theorem dX12_layOwed_30 : decode cX12_layOwed 30 = .ok (.iconst 4, 1) := by decide +kernel
theorem dX12_layOwed_31 : decode cX12_layOwed 31 = .ok (.iadd, 1) := by decide +kernel
theorem dX12_layOwed_32 : decode cX12_layOwed 32 = .ok (.iaload, 1) := by decide +kernel
theorem dX12_layOwed_33 : decode cX12_layOwed 33 = .ok (.iconst 2, 1) := by decide +kernel
theorem dX12_layOwed_34 : decode cX12_layOwed 34 = .ok (.if_icmp .ne 17, 3) := by decide +kernel
theorem dX12_layOwed_37 : decode cX12_layOwed 37 = .ok (.aload_n 0, 1) := by decide +kernel
theorem dX12_layOwed_38 : decode cX12_layOwed 38 = .ok (.aload_n 0, 1) := by decide +kernel
theorem dX12_layOwed_39 : decode cX12_layOwed 39 = .ok (.getfield 44, 3) := by decide +kernel
theorem dX12_layOwed_42 : decode cX12_layOwed 42 = .ok (.iload_n 3, 1) := by decide +kernel
theorem dX12_layOwed_43 : decode cX12_layOwed 43 = .ok (.iaload, 1) := by decide +kernel
theorem dX12_layOwed_44 : decode cX12_layOwed 44 = .ok (.iload_n 2, 1) := by decide +kernel
theorem dX12_layOwed_45 : decode cX12_layOwed 45 = .ok (.invokevirtual 235, 3) := by decide +kernel
theorem dX12_layOwed_48 : decode cX12_layOwed 48 = .ok (.goto 13, 3) := by decide +kernel
theorem dX12_layOwed_51 : decode cX12_layOwed 51 = .ok (.iconst 1, 1) := by decide +kernel
theorem dX12_layOwed_52 : decode cX12_layOwed 52 = .ok (.aload_n 0, 1) := by decide +kernel
theorem dX12_layOwed_53 : decode cX12_layOwed 53 = .ok (.getfield 44, 3) := by decide +kernel
theorem dX12_layOwed_56 : decode cX12_layOwed 56 = .ok (.iload_n 3, 1) := by decide +kernel
theorem dX12_layOwed_57 : decode cX12_layOwed 57 = .ok (.iconst 4, 1) := by decide +kernel
theorem dX12_layOwed_58 : decode cX12_layOwed 58 = .ok (.iadd, 1) := by decide +kernel
theorem dX12_layOwed_59 : decode cX12_layOwed 59 = .ok (.iaload, 1) := by decide +kernel
theorem dX12_layOwed_60 : decode cX12_layOwed 60 = .ok (.isub, 1) := by decide +kernel
theorem dX12_layOwed_61 : decode cX12_layOwed 61 = .ok (.istore 5, 2) := by decide +kernel
theorem dX12_layOwed_63 : decode cX12_layOwed 63 = .ok (.aload_n 0, 1) := by decide +kernel
theorem dX12_layOwed_64 : decode cX12_layOwed 64 = .ok (.ldc2_w 119, 3) := by decide +kernel
theorem dX12_layOwed_67 : decode cX12_layOwed 67 = .ok (.putfield 239, 3) := by decide +kernel
theorem dX12_layOwed_70 : decode cX12_layOwed 70 = .ok (.aload_n 0, 1) := by decide +kernel
theorem dX12_layOwed_71 : decode cX12_layOwed 71 = .ok (.ldc2_w 119, 3) := by decide +kernel
theorem dX12_layOwed_74 : decode cX12_layOwed 74 = .ok (.putfield 242, 3) := by decide +kernel
theorem dX12_layOwed_77 : decode cX12_layOwed 77 = .ok (.iconst 0, 1) := by decide +kernel
theorem dX12_layOwed_78 : decode cX12_layOwed 78 = .ok (.istore 6, 2) := by decide +kernel
theorem dX12_layOwed_80 : decode cX12_layOwed 80 = .ok (.iload 6, 2) := by decide +kernel
theorem dX12_layOwed_82 : decode cX12_layOwed 82 = .ok (.aload_n 0, 1) := by decide +kernel
theorem dX12_layOwed_83 : decode cX12_layOwed 83 = .ok (.getfield 90, 3) := by decide +kernel
theorem dX12_layOwed_86 : decode cX12_layOwed 86 = .ok (.if_icmp .ge 198, 3) := by decide +kernel
theorem dX12_layOwed_89 : decode cX12_layOwed 89 = .ok (.iconst 0, 1) := by decide +kernel
theorem dX12_layOwed_90 : decode cX12_layOwed 90 = .ok (.istore 7, 2) := by decide +kernel
theorem dX12_layOwed_92 : decode cX12_layOwed 92 = .ok (.iload 7, 2) := by decide +kernel
theorem dX12_layOwed_94 : decode cX12_layOwed 94 = .ok (.iconst 2, 1) := by decide +kernel
theorem dX12_layOwed_95 : decode cX12_layOwed 95 = .ok (.if_icmp .ge 183, 3) := by decide +kernel
theorem dX12_layOwed_98 : decode cX12_layOwed 98 = .ok (.iload 4, 2) := by decide +kernel
theorem dX12_layOwed_100 : decode cX12_layOwed 100 = .ok (.iload 6, 2) := by decide +kernel
theorem dX12_layOwed_102 : decode cX12_layOwed 102 = .ok (.ishr, 1) := by decide +kernel
theorem dX12_layOwed_103 : decode cX12_layOwed 103 = .ok (.iconst 1, 1) := by decide +kernel
theorem dX12_layOwed_104 : decode cX12_layOwed 104 = .ok (.iand, 1) := by decide +kernel
theorem dX12_layOwed_105 : decode cX12_layOwed 105 = .ok (.iconst 1, 1) := by decide +kernel
theorem dX12_layOwed_106 : decode cX12_layOwed 106 = .ok (.if_icmp .ne 172, 3) := by decide +kernel
theorem dX12_layOwed_109 : decode cX12_layOwed 109 = .ok (.aload_n 0, 1) := by decide +kernel
theorem dX12_layOwed_110 : decode cX12_layOwed 110 = .ok (.getfield 7, 3) := by decide +kernel
theorem dX12_layOwed_113 : decode cX12_layOwed 113 = .ok (.iload 6, 2) := by decide +kernel
theorem dX12_layOwed_115 : decode cX12_layOwed 115 = .ok (.iaload, 1) := by decide +kernel
theorem dX12_layOwed_116 : decode cX12_layOwed 116 = .ok (.ifCond .ne 16, 3) := by decide +kernel
theorem dX12_layOwed_119 : decode cX12_layOwed 119 = .ok (.iload 7, 2) := by decide +kernel
theorem dX12_layOwed_121 : decode cX12_layOwed 121 = .ok (.ifCond .ne 7, 3) := by decide +kernel
theorem dX12_layOwed_124 : decode cX12_layOwed 124 = .ok (.iconst 1, 1) := by decide +kernel
theorem dX12_layOwed_125 : decode cX12_layOwed 125 = .ok (.goto 26, 3) := by decide +kernel
theorem dX12_layOwed_128 : decode cX12_layOwed 128 = .ok (.iconst 0, 1) := by decide +kernel
theorem dX12_layOwed_129 : decode cX12_layOwed 129 = .ok (.goto 22, 3) := by decide +kernel
theorem dX12_layOwed_132 : decode cX12_layOwed 132 = .ok (.iload 5, 2) := by decide +kernel
theorem dX12_layOwed_134 : decode cX12_layOwed 134 = .ok (.bipush (-4), 2) := by decide +kernel
theorem dX12_layOwed_136 : decode cX12_layOwed 136 = .ok (.if_icmp .eq 10, 3) := by decide +kernel
theorem dX12_layOwed_139 : decode cX12_layOwed 139 = .ok (.iload 5, 2) := by decide +kernel
theorem dX12_layOwed_141 : decode cX12_layOwed 141 = .ok (.iload 7, 2) := by decide +kernel
theorem dX12_layOwed_143 : decode cX12_layOwed 143 = .ok (.if_icmp .ne 7, 3) := by decide +kernel
theorem dX12_layOwed_146 : decode cX12_layOwed 146 = .ok (.iconst 1, 1) := by decide +kernel
theorem dX12_layOwed_147 : decode cX12_layOwed 147 = .ok (.goto 4, 3) := by decide +kernel
theorem dX12_layOwed_150 : decode cX12_layOwed 150 = .ok (.iconst 0, 1) := by decide +kernel
theorem dX12_layOwed_151 : decode cX12_layOwed 151 = .ok (.istore 8, 2) := by decide +kernel
theorem dX12_layOwed_153 : decode cX12_layOwed 153 = .ok (.iload 8, 2) := by decide +kernel
theorem dX12_layOwed_155 : decode cX12_layOwed 155 = .ok (.ifCond .eq 117, 3) := by decide +kernel
theorem dX12_layOwed_158 : decode cX12_layOwed 158 = .ok (.aload_n 0, 1) := by decide +kernel
theorem dX12_layOwed_159 : decode cX12_layOwed 159 = .ok (.getfield 44, 3) := by decide +kernel
theorem dX12_layOwed_162 : decode cX12_layOwed 162 = .ok (.iload_n 3, 1) := by decide +kernel
theorem dX12_layOwed_163 : decode cX12_layOwed 163 = .ok (.iconst 3, 1) := by decide +kernel
theorem dX12_layOwed_164 : decode cX12_layOwed 164 = .ok (.iadd, 1) := by decide +kernel
theorem dX12_layOwed_165 : decode cX12_layOwed 165 = .ok (.iaload, 1) := by decide +kernel
theorem dX12_layOwed_166 : decode cX12_layOwed 166 = .ok (.i2l, 1) := by decide +kernel
theorem dX12_layOwed_167 : decode cX12_layOwed 167 = .ok (.aload_n 0, 1) := by decide +kernel
theorem dX12_layOwed_168 : decode cX12_layOwed 168 = .ok (.getfield 13, 3) := by decide +kernel
theorem dX12_layOwed_171 : decode cX12_layOwed 171 = .ok (.iload 6, 2) := by decide +kernel
theorem dX12_layOwed_173 : decode cX12_layOwed 173 = .ok (.iaload, 1) := by decide +kernel
theorem dX12_layOwed_174 : decode cX12_layOwed 174 = .ok (.i2l, 1) := by decide +kernel
theorem dX12_layOwed_175 : decode cX12_layOwed 175 = .ok (.lmul, 1) := by decide +kernel
theorem dX12_layOwed_176 : decode cX12_layOwed 176 = .ok (.lstore 9, 2) := by decide +kernel
theorem dX12_layOwed_178 : decode cX12_layOwed 178 = .ok (.iload 7, 2) := by decide +kernel
theorem dX12_layOwed_180 : decode cX12_layOwed 180 = .ok (.iconst 1, 1) := by decide +kernel
theorem dX12_layOwed_181 : decode cX12_layOwed 181 = .ok (.if_icmp .ne 24, 3) := by decide +kernel
theorem dX12_layOwed_184 : decode cX12_layOwed 184 = .ok (.lload 9, 2) := by decide +kernel
theorem dX12_layOwed_186 : decode cX12_layOwed 186 = .ok (.bipush 100, 2) := by decide +kernel
theorem dX12_layOwed_188 : decode cX12_layOwed 188 = .ok (.aload_n 0, 1) := by decide +kernel
theorem dX12_layOwed_189 : decode cX12_layOwed 189 = .ok (.getfield 16, 3) := by decide +kernel
theorem dX12_layOwed_192 : decode cX12_layOwed 192 = .ok (.iload 6, 2) := by decide +kernel
theorem dX12_layOwed_194 : decode cX12_layOwed 194 = .ok (.iaload, 1) := by decide +kernel
theorem dX12_layOwed_195 : decode cX12_layOwed 195 = .ok (.iadd, 1) := by decide +kernel
theorem dX12_layOwed_196 : decode cX12_layOwed 196 = .ok (.i2l, 1) := by decide +kernel
theorem dX12_layOwed_197 : decode cX12_layOwed 197 = .ok (.lmul, 1) := by decide +kernel
theorem dX12_layOwed_198 : decode cX12_layOwed 198 = .ok (.ldc2_w 99, 3) := by decide +kernel
theorem dX12_layOwed_201 : decode cX12_layOwed 201 = .ok (.ldiv, 1) := by decide +kernel
theorem dX12_layOwed_202 : decode cX12_layOwed 202 = .ok (.goto 5, 3) := by decide +kernel
theorem dX12_layOwed_205 : decode cX12_layOwed 205 = .ok (.lload 9, 2) := by decide +kernel
theorem dX12_layOwed_207 : decode cX12_layOwed 207 = .ok (.lstore 9, 2) := by decide +kernel
theorem dX12_layOwed_209 : decode cX12_layOwed 209 = .ok (.lload 9, 2) := by decide +kernel
theorem dX12_layOwed_211 : decode cX12_layOwed 211 = .ok (.ldc2_w 109, 3) := by decide +kernel
theorem dX12_layOwed_214 : decode cX12_layOwed 214 = .ok (.ldiv, 1) := by decide +kernel
theorem dX12_layOwed_215 : decode cX12_layOwed 215 = .ok (.lstore 9, 2) := by decide +kernel
theorem dX12_layOwed_217 : decode cX12_layOwed 217 = .ok (.aload_n 0, 1) := by decide +kernel
theorem dX12_layOwed_218 : decode cX12_layOwed 218 = .ok (.aload_n 0, 1) := by decide +kernel
theorem dX12_layOwed_219 : decode cX12_layOwed 219 = .ok (.getfield 239, 3) := by decide +kernel
theorem dX12_layOwed_222 : decode cX12_layOwed 222 = .ok (.lconst 0, 1) := by decide +kernel
theorem dX12_layOwed_223 : decode cX12_layOwed 223 = .ok (.lcmp, 1) := by decide +kernel
theorem dX12_layOwed_224 : decode cX12_layOwed 224 = .ok (.ifCond .lt 13, 3) := by decide +kernel
theorem dX12_layOwed_227 : decode cX12_layOwed 227 = .ok (.lload 9, 2) := by decide +kernel
theorem dX12_layOwed_229 : decode cX12_layOwed 229 = .ok (.aload_n 0, 1) := by decide +kernel
theorem dX12_layOwed_230 : decode cX12_layOwed 230 = .ok (.getfield 239, 3) := by decide +kernel
theorem dX12_layOwed_233 : decode cX12_layOwed 233 = .ok (.lcmp, 1) := by decide +kernel
theorem dX12_layOwed_234 : decode cX12_layOwed 234 = .ok (.ifCond .ge 8, 3) := by decide +kernel
theorem dX12_layOwed_237 : decode cX12_layOwed 237 = .ok (.lload 9, 2) := by decide +kernel
theorem dX12_layOwed_239 : decode cX12_layOwed 239 = .ok (.goto 7, 3) := by decide +kernel
theorem dX12_layOwed_242 : decode cX12_layOwed 242 = .ok (.aload_n 0, 1) := by decide +kernel
theorem dX12_layOwed_243 : decode cX12_layOwed 243 = .ok (.getfield 239, 3) := by decide +kernel
theorem dX12_layOwed_246 : decode cX12_layOwed 246 = .ok (.putfield 239, 3) := by decide +kernel
theorem dX12_layOwed_249 : decode cX12_layOwed 249 = .ok (.aload_n 0, 1) := by decide +kernel
theorem dX12_layOwed_250 : decode cX12_layOwed 250 = .ok (.lload 9, 2) := by decide +kernel
theorem dX12_layOwed_252 : decode cX12_layOwed 252 = .ok (.aload_n 0, 1) := by decide +kernel
theorem dX12_layOwed_253 : decode cX12_layOwed 253 = .ok (.getfield 242, 3) := by decide +kernel
theorem dX12_layOwed_256 : decode cX12_layOwed 256 = .ok (.lcmp, 1) := by decide +kernel
theorem dX12_layOwed_257 : decode cX12_layOwed 257 = .ok (.ifCond .le 8, 3) := by decide +kernel
theorem dX12_layOwed_260 : decode cX12_layOwed 260 = .ok (.lload 9, 2) := by decide +kernel
theorem dX12_layOwed_262 : decode cX12_layOwed 262 = .ok (.goto 7, 3) := by decide +kernel
theorem dX12_layOwed_265 : decode cX12_layOwed 265 = .ok (.aload_n 0, 1) := by decide +kernel
theorem dX12_layOwed_266 : decode cX12_layOwed 266 = .ok (.getfield 242, 3) := by decide +kernel
theorem dX12_layOwed_269 : decode cX12_layOwed 269 = .ok (.putfield 242, 3) := by decide +kernel
theorem dX12_layOwed_272 : decode cX12_layOwed 272 = .ok (.iinc 7 1, 3) := by decide +kernel
theorem dX12_layOwed_275 : decode cX12_layOwed 275 = .ok (.goto (-183), 3) := by decide +kernel
theorem dX12_layOwed_278 : decode cX12_layOwed 278 = .ok (.iinc 6 1, 3) := by decide +kernel
theorem dX12_layOwed_281 : decode cX12_layOwed 281 = .ok (.goto (-201), 3) := by decide +kernel
theorem dX12_layOwed_284 : decode cX12_layOwed 284 = .ok (.aload_n 0, 1) := by decide +kernel
theorem dX12_layOwed_285 : decode cX12_layOwed 285 = .ok (.getfield 242, 3) := by decide +kernel
theorem dX12_layOwed_288 : decode cX12_layOwed 288 = .ok (.lconst 0, 1) := by decide +kernel
theorem dX12_layOwed_289 : decode cX12_layOwed 289 = .ok (.lcmp, 1) := by decide +kernel
theorem dX12_layOwed_290 : decode cX12_layOwed 290 = .ok (.ifCond .lt 7, 3) := by decide +kernel
theorem dX12_layOwed_293 : decode cX12_layOwed 293 = .ok (.iconst 1, 1) := by decide +kernel
theorem dX12_layOwed_294 : decode cX12_layOwed 294 = .ok (.goto 4, 3) := by decide +kernel
theorem dX12_layOwed_297 : decode cX12_layOwed 297 = .ok (.iconst 0, 1) := by decide +kernel
theorem dX12_layOwed_298 : decode cX12_layOwed 298 = .ok (.ireturn, 1) := by decide +kernel
set_option maxRecDepth 20000 in
theorem ggX12_owed_X12_in : GoodIn wsX12_owed wsX12_in := goodIn_r _ [11] (by decide +kernel) (by decide +kernel)
set_option maxRecDepth 20000 in
theorem gX12_owed_X12_in : GoodIn wsX12_owed (va_wsS RX12 93 yX12_in wsX12_in) := goodIn_app (goodIn_of _ (by decide +kernel)) ggX12_owed_X12_in
set_option maxRecDepth 20000 in
theorem ggX12_owed_X12_layOwed : GoodIn wsX12_owed wsX12_layOwed := goodIn_r _ [15, 4, 2, 6, 7, 16, 17, 18, 19, 20, 21, 22, 23, 24, 10, 25, 26, 27, 28, 29, 30, 31, 8, 9, 11, 32, 33, 34, 35, 36, 37, 38, 39, 40, 41, 42, 43, 44, 45, 46, 47, 48, 49, 50, 51, 52, 53, 54, 55, 56, 57, 58, 59, 60, 61, 62, 63, 64, 65, 66, 67, 68, 69, 70, 71, 72, 73] (by decide +kernel) (by decide +kernel)
set_option maxRecDepth 20000 in
theorem gX12_owed_X12_layOwed : GoodIn wsX12_owed (wsV RX12 245 RX12 yX12_layOwed wsX12_layOwed) := goodIn_app (goodIn_of _ (by decide +kernel)) ggX12_owed_X12_layOwed
theorem dX12_owed_0 : decode cX12_owed 0 = .ok (.iload_n 1, 1) := by decide +kernel
theorem dX12_owed_1 : decode cX12_owed 1 = .ok (.i2l, 1) := by decide +kernel
theorem dX12_owed_2 : decode cX12_owed 2 = .ok (.lconst 0, 1) := by decide +kernel
theorem dX12_owed_3 : decode cX12_owed 3 = .ok (.aload_n 0, 1) := by decide +kernel
theorem dX12_owed_4 : decode cX12_owed 4 = .ok (.getfield 232, 3) := by decide +kernel
theorem dX12_owed_7 : decode cX12_owed 7 = .ok (.iconst 1, 1) := by decide +kernel
theorem dX12_owed_8 : decode cX12_owed 8 = .ok (.isub, 1) := by decide +kernel
theorem dX12_owed_9 : decode cX12_owed 9 = .ok (.i2l, 1) := by decide +kernel
theorem dX12_owed_10 : decode cX12_owed 10 = .ok (.invokestatic 93, 3) := by decide +kernel
theorem dX12_owed_13 : decode cX12_owed 13 = .ok (.ifCond .eq 27, 3) := by decide +kernel
theorem dX12_owed_16 : decode cX12_owed 16 = .ok (.iload_n 2, 1) := by decide +kernel
theorem dX12_owed_17 : decode cX12_owed 17 = .ok (.i2l, 1) := by decide +kernel
theorem dX12_owed_18 : decode cX12_owed 18 = .ok (.ldc2_w 119, 3) := by decide +kernel
theorem dX12_owed_21 : decode cX12_owed 21 = .ok (.ldc2_w 211, 3) := by decide +kernel
theorem dX12_owed_24 : decode cX12_owed 24 = .ok (.invokestatic 93, 3) := by decide +kernel
theorem dX12_owed_27 : decode cX12_owed 27 = .ok (.ifCond .eq 13, 3) := by decide +kernel
theorem dX12_owed_30 : decode cX12_owed 30 = .ok (.iload_n 3, 1) := by decide +kernel
theorem dX12_owed_31 : decode cX12_owed 31 = .ok (.i2l, 1) := by decide +kernel
theorem dX12_owed_32 : decode cX12_owed 32 = .ok (.lconst 0, 1) := by decide +kernel
theorem dX12_owed_33 : decode cX12_owed 33 = .ok (.lconst 1, 1) := by decide +kernel
theorem dX12_owed_34 : decode cX12_owed 34 = .ok (.invokestatic 93, 3) := by decide +kernel
theorem dX12_owed_37 : decode cX12_owed 37 = .ok (.ifCond .ne 7, 3) := by decide +kernel
theorem dX12_owed_40 : decode cX12_owed 40 = .ok (.ldc2_w 119, 3) := by decide +kernel
theorem dX12_owed_43 : decode cX12_owed 43 = .ok (.lreturn, 1) := by decide +kernel
theorem dX12_owed_44 : decode cX12_owed 44 = .ok (.aload_n 0, 1) := by decide +kernel
theorem dX12_owed_45 : decode cX12_owed 45 = .ok (.iload_n 1, 1) := by decide +kernel
theorem dX12_owed_46 : decode cX12_owed 46 = .ok (.iload_n 2, 1) := by decide +kernel
theorem dX12_owed_47 : decode cX12_owed 47 = .ok (.ifCond .ge 16, 3) := by decide +kernel
theorem dX12_owed_50 : decode cX12_owed 50 = .ok (.aload_n 0, 1) := by decide +kernel
theorem dX12_owed_51 : decode cX12_owed 51 = .ok (.getfield 44, 3) := by decide +kernel
theorem dX12_owed_54 : decode cX12_owed 54 = .ok (.iconst 5, 1) := by decide +kernel
theorem dX12_owed_55 : decode cX12_owed 55 = .ok (.iload_n 1, 1) := by decide +kernel
theorem dX12_owed_56 : decode cX12_owed 56 = .ok (.imul, 1) := by decide +kernel
theorem dX12_owed_57 : decode cX12_owed 57 = .ok (.iconst 2, 1) := by decide +kernel
theorem dX12_owed_58 : decode cX12_owed 58 = .ok (.iadd, 1) := by decide +kernel
theorem dX12_owed_59 : decode cX12_owed 59 = .ok (.iaload, 1) := by decide +kernel
theorem dX12_owed_60 : decode cX12_owed 60 = .ok (.goto 4, 3) := by decide +kernel
theorem dX12_owed_63 : decode cX12_owed 63 = .ok (.iload_n 2, 1) := by decide +kernel
theorem dX12_owed_64 : decode cX12_owed 64 = .ok (.invokevirtual 245, 3) := by decide +kernel
theorem dX12_owed_67 : decode cX12_owed 67 = .ok (.ifCond .ne 7, 3) := by decide +kernel
theorem dX12_owed_70 : decode cX12_owed 70 = .ok (.ldc2_w 135, 3) := by decide +kernel
theorem dX12_owed_73 : decode cX12_owed 73 = .ok (.lreturn, 1) := by decide +kernel
theorem dX12_owed_74 : decode cX12_owed 74 = .ok (.iload_n 3, 1) := by decide +kernel
theorem dX12_owed_75 : decode cX12_owed 75 = .ok (.ifCond .ne 10, 3) := by decide +kernel
theorem dX12_owed_78 : decode cX12_owed 78 = .ok (.aload_n 0, 1) := by decide +kernel
theorem dX12_owed_79 : decode cX12_owed 79 = .ok (.getfield 239, 3) := by decide +kernel
theorem dX12_owed_82 : decode cX12_owed 82 = .ok (.goto 7, 3) := by decide +kernel
theorem dX12_owed_85 : decode cX12_owed 85 = .ok (.aload_n 0, 1) := by decide +kernel
theorem dX12_owed_86 : decode cX12_owed 86 = .ok (.getfield 242, 3) := by decide +kernel
theorem dX12_owed_89 : decode cX12_owed 89 = .ok (.lreturn, 1) := by decide +kernel
set_option maxRecDepth 20000 in
theorem ggX12_gained_X12_in : GoodIn wsX12_gained wsX12_in := goodIn_r _ [11] (by decide +kernel) (by decide +kernel)
set_option maxRecDepth 20000 in
theorem gX12_gained_X12_in : GoodIn wsX12_gained (va_wsS RX12 93 yX12_in wsX12_in) := goodIn_app (goodIn_of _ (by decide +kernel)) ggX12_gained_X12_in
set_option maxRecDepth 20000 in
theorem ggX12_gained_X12_layOwed : GoodIn wsX12_gained wsX12_layOwed := goodIn_r _ [15, 6, 16, 7, 5, 17, 18, 19, 20, 21, 22, 23, 24, 25, 10, 26, 27, 28, 29, 30, 31, 32, 8, 9, 11, 33, 34, 35, 36, 37, 38, 39, 40, 41, 42, 43, 44, 45, 46, 47, 48, 49, 50, 51, 52, 53, 54, 55, 56, 57, 58, 59, 60, 61, 62, 63, 64, 65, 66, 67, 68, 69, 70, 71, 72, 73, 74] (by decide +kernel) (by decide +kernel)
set_option maxRecDepth 20000 in
theorem gX12_gained_X12_layOwed : GoodIn wsX12_gained (wsV RX12 245 RX12 yX12_layOwed wsX12_layOwed) := goodIn_app (goodIn_of _ (by decide +kernel)) ggX12_gained_X12_layOwed
theorem dX12_gained_0 : decode cX12_gained 0 = .ok (.iload_n 1, 1) := by decide +kernel
theorem dX12_gained_1 : decode cX12_gained 1 = .ok (.i2l, 1) := by decide +kernel
theorem dX12_gained_2 : decode cX12_gained 2 = .ok (.lconst 0, 1) := by decide +kernel
theorem dX12_gained_3 : decode cX12_gained 3 = .ok (.aload_n 0, 1) := by decide +kernel
theorem dX12_gained_4 : decode cX12_gained 4 = .ok (.getfield 232, 3) := by decide +kernel
theorem dX12_gained_7 : decode cX12_gained 7 = .ok (.iconst 1, 1) := by decide +kernel
theorem dX12_gained_8 : decode cX12_gained 8 = .ok (.isub, 1) := by decide +kernel
theorem dX12_gained_9 : decode cX12_gained 9 = .ok (.i2l, 1) := by decide +kernel
theorem dX12_gained_10 : decode cX12_gained 10 = .ok (.invokestatic 93, 3) := by decide +kernel
theorem dX12_gained_13 : decode cX12_gained 13 = .ok (.ifCond .eq 15, 3) := by decide +kernel
theorem dX12_gained_16 : decode cX12_gained 16 = .ok (.iload_n 2, 1) := by decide +kernel
theorem dX12_gained_17 : decode cX12_gained 17 = .ok (.i2l, 1) := by decide +kernel
theorem dX12_gained_18 : decode cX12_gained 18 = .ok (.lconst 0, 1) := by decide +kernel
theorem dX12_gained_19 : decode cX12_gained 19 = .ok (.ldc2_w 211, 3) := by decide +kernel
theorem dX12_gained_22 : decode cX12_gained 22 = .ok (.invokestatic 93, 3) := by decide +kernel
theorem dX12_gained_25 : decode cX12_gained 25 = .ok (.ifCond .ne 7, 3) := by decide +kernel
theorem dX12_gained_28 : decode cX12_gained 28 = .ok (.ldc2_w 248, 3) := by decide +kernel
theorem dX12_gained_31 : decode cX12_gained 31 = .ok (.lreturn, 1) := by decide +kernel
theorem dX12_gained_32 : decode cX12_gained 32 = .ok (.aload_n 0, 1) := by decide +kernel
theorem dX12_gained_33 : decode cX12_gained 33 = .ok (.iload_n 1, 1) := by decide +kernel
theorem dX12_gained_34 : decode cX12_gained 34 = .ok (.iload_n 2, 1) := by decide +kernel
theorem dX12_gained_35 : decode cX12_gained 35 = .ok (.invokevirtual 245, 3) := by decide +kernel
theorem dX12_gained_38 : decode cX12_gained 38 = .ok (.ifCond .ne 7, 3) := by decide +kernel
theorem dX12_gained_41 : decode cX12_gained 41 = .ok (.ldc2_w 250, 3) := by decide +kernel
theorem dX12_gained_44 : decode cX12_gained 44 = .ok (.lreturn, 1) := by decide +kernel
theorem dX12_gained_45 : decode cX12_gained 45 = .ok (.aload_n 0, 1) := by decide +kernel
theorem dX12_gained_46 : decode cX12_gained 46 = .ok (.getfield 242, 3) := by decide +kernel
theorem dX12_gained_49 : decode cX12_gained 49 = .ok (.lstore_n 3, 1) := by decide +kernel
theorem dX12_gained_50 : decode cX12_gained 50 = .ok (.aload_n 0, 1) := by decide +kernel
theorem dX12_gained_51 : decode cX12_gained 51 = .ok (.iload_n 1, 1) := by decide +kernel
theorem dX12_gained_52 : decode cX12_gained 52 = .ok (.aload_n 0, 1) := by decide +kernel
theorem dX12_gained_53 : decode cX12_gained 53 = .ok (.getfield 44, 3) := by decide +kernel
theorem dX12_gained_56 : decode cX12_gained 56 = .ok (.iconst 5, 1) := by decide +kernel
theorem dX12_gained_57 : decode cX12_gained 57 = .ok (.iload_n 1, 1) := by decide +kernel
theorem dX12_gained_58 : decode cX12_gained 58 = .ok (.imul, 1) := by decide +kernel
theorem dX12_gained_59 : decode cX12_gained 59 = .ok (.iconst 2, 1) := by decide +kernel
theorem dX12_gained_60 : decode cX12_gained 60 = .ok (.iadd, 1) := by decide +kernel
theorem dX12_gained_61 : decode cX12_gained 61 = .ok (.iaload, 1) := by decide +kernel
theorem dX12_gained_62 : decode cX12_gained 62 = .ok (.invokevirtual 245, 3) := by decide +kernel
theorem dX12_gained_65 : decode cX12_gained 65 = .ok (.ifCond .eq 12, 3) := by decide +kernel
theorem dX12_gained_68 : decode cX12_gained 68 = .ok (.lload_n 3, 1) := by decide +kernel
theorem dX12_gained_69 : decode cX12_gained 69 = .ok (.aload_n 0, 1) := by decide +kernel
theorem dX12_gained_70 : decode cX12_gained 70 = .ok (.getfield 239, 3) := by decide +kernel
theorem dX12_gained_73 : decode cX12_gained 73 = .ok (.lsub, 1) := by decide +kernel
theorem dX12_gained_74 : decode cX12_gained 74 = .ok (.goto 6, 3) := by decide +kernel
theorem dX12_gained_77 : decode cX12_gained 77 = .ok (.ldc2_w 250, 3) := by decide +kernel
theorem dX12_gained_80 : decode cX12_gained 80 = .ok (.lreturn, 1) := by decide +kernel
set_option maxRecDepth 20000 in
theorem ggX12_rod_X12_isUnit : GoodIn wsX12_rod wsX12_isUnit := goodIn_r _ [13, 14, 15, 16, 12, 17, 18, 19, 20, 21, 22, 23, 24, 25, 26, 27, 28, 29, 30, 31, 32, 33, 34, 35, 36, 37, 38, 39, 40, 41, 42, 43, 44, 45, 46, 47, 48, 49, 50, 51, 52, 53, 54, 55, 56, 57, 58, 59] (by decide +kernel) (by decide +kernel)
set_option maxRecDepth 20000 in
theorem gX12_rod_X12_isUnit : GoodIn wsX12_rod (wsV RX12 101 RX12 yX12_isUnit wsX12_isUnit) := goodIn_app (goodIn_of _ (by decide +kernel)) ggX12_rod_X12_isUnit
set_option maxRecDepth 20000 in
theorem ggX12_rod_X12_in : GoodIn wsX12_rod wsX12_in := goodIn_r _ [17] (by decide +kernel) (by decide +kernel)
set_option maxRecDepth 20000 in
theorem gX12_rod_X12_in : GoodIn wsX12_rod (va_wsS RX12 93 yX12_in wsX12_in) := goodIn_app (goodIn_of _ (by decide +kernel)) ggX12_rod_X12_in
