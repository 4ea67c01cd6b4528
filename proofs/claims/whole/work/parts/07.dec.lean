theorem dX9_add_10 : decode cX9_add 10 = .ok (.aload_n 0, 1) := by decide +kernel
theorem dX9_add_11 : decode cX9_add 11 = .ok (.getfield 15, 3) := by decide +kernel
theorem dX9_add_14 : decode cX9_add 14 = .ok (.aload_n 0, 1) := by decide +kernel
theorem dX9_add_15 : decode cX9_add 15 = .ok (.getfield 21, 3) := by decide +kernel
theorem dX9_add_18 : decode cX9_add 18 = .ok (.iload_n 2, 1) := by decide +kernel
theorem dX9_add_19 : decode cX9_add 19 = .ok (.iastore, 1) := by decide +kernel
theorem dX9_add_20 : decode cX9_add 20 = .ok (.aload_n 0, 1) := by decide +kernel
theorem dX9_add_21 : decode cX9_add 21 = .ok (.getfield 18, 3) := by decide +kernel
theorem dX9_add_24 : decode cX9_add 24 = .ok (.aload_n 0, 1) := by decide +kernel
theorem dX9_add_25 : decode cX9_add 25 = .ok (.getfield 21, 3) := by decide +kernel
theorem dX9_add_28 : decode cX9_add 28 = .ok (.iload_n 3, 1) := by decide +kernel
theorem dX9_add_29 : decode cX9_add 29 = .ok (.iastore, 1) := by decide +kernel
theorem dX9_add_30 : decode cX9_add 30 = .ok (.aload_n 0, 1) := by decide +kernel
theorem dX9_add_31 : decode cX9_add 31 = .ok (.dup, 1) := by decide +kernel
theorem dX9_add_32 : decode cX9_add 32 = .ok (.getfield 21, 3) := by decide +kernel
theorem dX9_add_35 : decode cX9_add 35 = .ok (.dup_x1, 1) := by decide +kernel
theorem dX9_add_36 : decode cX9_add 36 = .ok (.iconst 1, 1) := by decide +kernel
theorem dX9_add_37 : decode cX9_add 37 = .ok (.iadd, 1) := by decide +kernel
theorem dX9_add_38 : decode cX9_add 38 = .ok (.putfield 21, 3) := by decide +kernel
theorem dX9_add_41 : decode cX9_add 41 = .ok (.ireturn, 1) := by decide +kernel
theorem dX9_told_0 : decode cX9_told 0 = .ok (.iload_n 1, 1) := by decide +kernel
theorem dX9_told_1 : decode cX9_told 1 = .ok (.ifCond .lt 15, 3) := by decide +kernel
theorem dX9_told_4 : decode cX9_told 4 = .ok (.iload_n 1, 1) := by decide +kernel
theorem dX9_told_5 : decode cX9_told 5 = .ok (.aload_n 0, 1) := by decide +kernel
theorem dX9_told_6 : decode cX9_told 6 = .ok (.getfield 21, 3) := by decide +kernel
theorem dX9_told_9 : decode cX9_told 9 = .ok (.if_icmp .ge 7, 3) := by decide +kernel
theorem dX9_told_12 : decode cX9_told 12 = .ok (.iconst 1, 1) := by decide +kernel
theorem dX9_told_13 : decode cX9_told 13 = .ok (.goto 4, 3) := by decide +kernel
theorem dX9_told_16 : decode cX9_told 16 = .ok (.iconst 0, 1) := by decide +kernel
theorem dX9_told_17 : decode cX9_told 17 = .ok (.ireturn, 1) := by decide +kernel
theorem dX9_alike_0 : decode cX9_alike 0 = .ok (.aload_n 0, 1) := by decide +kernel
theorem dX9_alike_1 : decode cX9_alike 1 = .ok (.getfield 9, 3) := by decide +kernel
theorem dX9_alike_4 : decode cX9_alike 4 = .ok (.iload_n 1, 1) := by decide +kernel
theorem dX9_alike_5 : decode cX9_alike 5 = .ok (.iaload, 1) := by decide +kernel
theorem dX9_alike_6 : decode cX9_alike 6 = .ok (.aload_n 0, 1) := by decide +kernel
theorem dX9_alike_7 : decode cX9_alike 7 = .ok (.getfield 9, 3) := by decide +kernel
theorem dX9_alike_10 : decode cX9_alike 10 = .ok (.iload_n 2, 1) := by decide +kernel
theorem dX9_alike_11 : decode cX9_alike 11 = .ok (.iaload, 1) := by decide +kernel
theorem dX9_alike_12 : decode cX9_alike 12 = .ok (.if_icmp .ne 7, 3) := by decide +kernel
theorem dX9_alike_15 : decode cX9_alike 15 = .ok (.iconst 1, 1) := by decide +kernel
theorem dX9_alike_16 : decode cX9_alike 16 = .ok (.goto 4, 3) := by decide +kernel
theorem dX9_alike_19 : decode cX9_alike 19 = .ok (.iconst 0, 1) := by decide +kernel
theorem dX9_alike_20 : decode cX9_alike 20 = .ok (.ireturn, 1) := by decide +kernel
theorem dX10_init_0 : decode cX10_init 0 = .ok (.aload_n 0, 1) := by decide +kernel
theorem dX10_init_1 : decode cX10_init 1 = .ok (.invokespecial 3, 3) := by decide +kernel
theorem dX10_init_4 : decode cX10_init 4 = .ok (.aload_n 0, 1) := by decide +kernel
theorem dX10_init_5 : decode cX10_init 5 = .ok (.iconst 4, 1) := by decide +kernel
theorem dX10_init_6 : decode cX10_init 6 = .ok (.newarray .int, 2) := by decide +kernel
theorem dX10_init_8 : decode cX10_init 8 = .ok (.putfield 11, 3) := by decide +kernel
theorem dX10_init_11 : decode cX10_init 11 = .ok (.aload_n 0, 1) := by decide +kernel
theorem dX10_init_12 : decode cX10_init 12 = .ok (.lconst 0, 1) := by decide +kernel
theorem dX10_init_13 : decode cX10_init 13 = .ok (.putfield 15, 3) := by decide +kernel
theorem dX10_init_16 : decode cX10_init 16 = .ok (.aload_n 0, 1) := by decide +kernel
theorem dX10_init_17 : decode cX10_init 17 = .ok (.iconst 0, 1) := by decide +kernel
theorem dX10_init_18 : decode cX10_init 18 = .ok (.putfield 19, 3) := by decide +kernel
theorem dX10_init_21 : decode cX10_init 21 = .ok (.aload_n 0, 1) := by decide +kernel
theorem dX10_init_22 : decode cX10_init 22 = .ok (.iconst 4, 1) := by decide +kernel
theorem dX10_init_23 : decode cX10_init 23 = .ok (.newarray .int, 2) := by decide +kernel
theorem dX10_init_25 : decode cX10_init 25 = .ok (.putfield 23, 3) := by decide +kernel
theorem dX10_init_28 : decode cX10_init 28 = .ok (.aload_n 0, 1) := by decide +kernel
theorem dX10_init_29 : decode cX10_init 29 = .ok (.iconst 0, 1) := by decide +kernel
theorem dX10_init_30 : decode cX10_init 30 = .ok (.putfield 26, 3) := by decide +kernel
theorem dX10_init_33 : decode cX10_init 33 = .ok (.return_, 1) := by decide +kernel
theorem dX10_forget_0 : decode cX10_forget 0 = .ok (.aload_n 0, 1) := by decide +kernel
theorem dX10_forget_1 : decode cX10_forget 1 = .ok (.iconst 0, 1) := by decide +kernel
theorem dX10_forget_2 : decode cX10_forget 2 = .ok (.putfield 26, 3) := by decide +kernel
theorem dX10_forget_5 : decode cX10_forget 5 = .ok (.return_, 1) := by decide +kernel
set_option maxRecDepth 20000 in
theorem ggX10_find_X10_walk : GoodIn wsX10_find wsX10_walk := goodIn_r _ [9, 4, 10, 11, 12, 13, 14, 15, 16, 17, 18, 19, 20, 21, 22, 23, 24, 25, 8, 26, 2, 3, 27, 6, 7, 28, 29, 30, 31, 32, 33, 34, 35, 36] (by decide +kernel) (by decide +kernel)
set_option maxRecDepth 20000 in
theorem gX10_find_X10_walk : GoodIn wsX10_find (va_wsS RX10 32 yX10_walk wsX10_walk) := goodIn_app (goodIn_of _ (by decide +kernel)) ggX10_find_X10_walk
theorem dX10_find_0 : decode cX10_find 0 = .ok (.aload_n 0, 1) := by decide +kernel
theorem dX10_find_1 : decode cX10_find 1 = .ok (.getfield 26, 3) := by decide +kernel
theorem dX10_find_4 : decode cX10_find 4 = .ok (.ifCond .eq 4, 3) := by decide +kernel
theorem dX10_find_7 : decode cX10_find 7 = .ok (.return_, 1) := by decide +kernel
theorem dX10_find_8 : decode cX10_find 8 = .ok (.aload_n 0, 1) := by decide +kernel
theorem dX10_find_9 : decode cX10_find 9 = .ok (.iconst 0, 1) := by decide +kernel
theorem dX10_find_10 : decode cX10_find 10 = .ok (.putfield 19, 3) := by decide +kernel
theorem dX10_find_13 : decode cX10_find 13 = .ok (.aload_n 0, 1) := by decide +kernel
theorem dX10_find_14 : decode cX10_find 14 = .ok (.lconst 0, 1) := by decide +kernel
theorem dX10_find_15 : decode cX10_find 15 = .ok (.putfield 15, 3) := by decide +kernel
theorem dX10_find_18 : decode cX10_find 18 = .ok (.iconst 0, 1) := by decide +kernel
theorem dX10_find_19 : decode cX10_find 19 = .ok (.istore_n 2, 1) := by decide +kernel
theorem dX10_find_20 : decode cX10_find 20 = .ok (.iload_n 2, 1) := by decide +kernel
theorem dX10_find_21 : decode cX10_find 21 = .ok (.bipush 16, 2) := by decide +kernel
theorem dX10_find_23 : decode cX10_find 23 = .ok (.if_icmp .ge 28, 3) := by decide +kernel
theorem dX10_find_26 : decode cX10_find 26 = .ok (.aload_n 0, 1) := by decide +kernel
theorem dX10_find_27 : decode cX10_find 27 = .ok (.getfield 23, 3) := by decide +kernel
theorem dX10_find_30 : decode cX10_find 30 = .ok (.iconst 0, 1) := by decide +kernel
theorem dX10_find_31 : decode cX10_find 31 = .ok (.iload_n 2, 1) := by decide +kernel
theorem dX10_find_32 : decode cX10_find 32 = .ok (.iastore, 1) := by decide +kernel
theorem dX10_find_33 : decode cX10_find 33 = .ok (.aload_n 0, 1) := by decide +kernel
theorem dX10_find_34 : decode cX10_find 34 = .ok (.aload_n 1, 1) := by decide +kernel
theorem dX10_find_35 : decode cX10_find 35 = .ok (.iconst 1, 1) := by decide +kernel
theorem dX10_find_36 : decode cX10_find 36 = .ok (.ldc2_w 30, 3) := by decide +kernel
theorem dX10_find_39 : decode cX10_find 39 = .ok (.iconst 1, 1) := by decide +kernel
theorem dX10_find_40 : decode cX10_find 40 = .ok (.iload_n 2, 1) := by decide +kernel
theorem dX10_find_41 : decode cX10_find 41 = .ok (.ishl, 1) := by decide +kernel
theorem dX10_find_42 : decode cX10_find 42 = .ok (.invokestatic 32, 3) := by decide +kernel
theorem dX10_find_45 : decode cX10_find 45 = .ok (.iinc 2 1, 3) := by decide +kernel
theorem dX10_find_48 : decode cX10_find 48 = .ok (.goto (-28), 3) := by decide +kernel
theorem dX10_find_51 : decode cX10_find 51 = .ok (.aload_n 0, 1) := by decide +kernel
theorem dX10_find_52 : decode cX10_find 52 = .ok (.iconst 1, 1) := by decide +kernel
theorem dX10_find_53 : decode cX10_find 53 = .ok (.putfield 26, 3) := by decide +kernel
theorem dX10_find_56 : decode cX10_find 56 = .ok (.return_, 1) := by decide +kernel
set_option maxRecDepth 20000 in
theorem ggX10_walk_X6_has : GoodIn wsX10_walk wsX6_has := goodIn_r _ [7, 8, 30, 31, 32, 33] (by decide +kernel) (by decide +kernel)
set_option maxRecDepth 20000 in
theorem gX10_walk_X6_has : GoodIn wsX10_walk (wsV RX10 36 RX6 yX6_has wsX6_has) := goodIn_app (goodIn_of _ (by decide +kernel)) ggX10_walk_X6_has
set_option maxRecDepth 20000 in
theorem ggX10_walk_X6_turned : GoodIn wsX10_walk wsX6_turned := goodIn_r _ [12, 8, 13, 14, 30, 31, 32, 33] (by decide +kernel) (by decide +kernel)
set_option maxRecDepth 20000 in
theorem gX10_walk_X6_turned : GoodIn wsX10_walk (wsV RX10 42 RX6 yX6_turned wsX6_turned) := goodIn_app (goodIn_of _ (by decide +kernel)) ggX10_walk_X6_turned
set_option maxRecDepth 20000 in
theorem ggX10_walk_X10_close : GoodIn wsX10_walk wsX10_close := goodIn_r _ [19, 2, 20, 21, 22, 1, 25, 26, 27, 28, 29] (by decide +kernel) (by decide +kernel)
set_option maxRecDepth 20000 in
theorem gX10_walk_X10_close : GoodIn wsX10_walk (wsV RX10 46 RX10 yX10_close wsX10_close) := goodIn_app (goodIn_of _ (by decide +kernel)) ggX10_walk_X10_close
set_option maxRecDepth 20000 in
theorem ggX10_walk_X10_walk : GoodIn wsX10_walk wsX10_walk := goodIn_r _ [0, 1, 2, 3, 4, 5, 6, 7, 8, 9, 10, 11, 12, 13, 14, 15, 16, 17, 18, 19, 20, 21, 22, 23, 24, 25, 26, 27, 28, 29, 30, 31, 32, 33] (by decide +kernel) (by decide +kernel)
set_option maxRecDepth 20000 in
theorem gX10_walk_X10_walk : GoodIn wsX10_walk (va_wsS RX10 32 yX10_walk wsX10_walk) := goodIn_app (goodIn_of _ (by decide +kernel)) ggX10_walk_X10_walk
theorem dX10_walk_0 : decode cX10_walk 0 = .ok (.iload_n 2, 1) := by decide +kernel
theorem dX10_walk_1 : decode cX10_walk 1 = .ok (.iconst 1, 1) := by decide +kernel
theorem dX10_walk_2 : decode cX10_walk 2 = .ok (.if_icmp .lt 8, 3) := by decide +kernel
theorem dX10_walk_5 : decode cX10_walk 5 = .ok (.iload_n 2, 1) := by decide +kernel
theorem dX10_walk_6 : decode cX10_walk 6 = .ok (.iconst 4, 1) := by decide +kernel
theorem dX10_walk_7 : decode cX10_walk 7 = .ok (.if_icmp .le 4, 3) := by decide +kernel
theorem dX10_walk_10 : decode cX10_walk 10 = .ok (.return_, 1) := by decide +kernel
theorem dX10_walk_11 : decode cX10_walk 11 = .ok (.aload_n 0, 1) := by decide +kernel
theorem dX10_walk_12 : decode cX10_walk 12 = .ok (.getfield 23, 3) := by decide +kernel
theorem dX10_walk_15 : decode cX10_walk 15 = .ok (.iconst 0, 1) := by decide +kernel
theorem dX10_walk_16 : decode cX10_walk 16 = .ok (.iaload, 1) := by decide +kernel
theorem dX10_walk_17 : decode cX10_walk 17 = .ok (.istore 6, 2) := by decide +kernel
theorem dX10_walk_19 : decode cX10_walk 19 = .ok (.aload_n 0, 1) := by decide +kernel
theorem dX10_walk_20 : decode cX10_walk 20 = .ok (.getfield 23, 3) := by decide +kernel
theorem dX10_walk_23 : decode cX10_walk 23 = .ok (.iload_n 2, 1) := by decide +kernel
theorem dX10_walk_24 : decode cX10_walk 24 = .ok (.iconst 1, 1) := by decide +kernel
theorem dX10_walk_25 : decode cX10_walk 25 = .ok (.isub, 1) := by decide +kernel
theorem dX10_walk_26 : decode cX10_walk 26 = .ok (.iaload, 1) := by decide +kernel
theorem dX10_walk_27 : decode cX10_walk 27 = .ok (.istore 7, 2) := by decide +kernel
theorem dX10_walk_29 : decode cX10_walk 29 = .ok (.aload_n 1, 1) := by decide +kernel
theorem dX10_walk_30 : decode cX10_walk 30 = .ok (.iload 7, 2) := by decide +kernel
theorem dX10_walk_32 : decode cX10_walk 32 = .ok (.iload 6, 2) := by decide +kernel
theorem dX10_walk_34 : decode cX10_walk 34 = .ok (.invokevirtual 36, 3) := by decide +kernel
theorem dX10_walk_37 : decode cX10_walk 37 = .ok (.ifCond .eq 17, 3) := by decide +kernel
theorem dX10_walk_40 : decode cX10_walk 40 = .ok (.aload_n 0, 1) := by decide +kernel
theorem dX10_walk_41 : decode cX10_walk 41 = .ok (.aload_n 1, 1) := by decide +kernel
theorem dX10_walk_42 : decode cX10_walk 42 = .ok (.iload 7, 2) := by decide +kernel
theorem dX10_walk_44 : decode cX10_walk 44 = .ok (.iload 6, 2) := by decide +kernel
theorem dX10_walk_46 : decode cX10_walk 46 = .ok (.lload_n 3, 1) := by decide +kernel
theorem dX10_walk_47 : decode cX10_walk 47 = .ok (.invokevirtual 42, 3) := by decide +kernel
theorem dX10_walk_50 : decode cX10_walk 50 = .ok (.iload_n 2, 1) := by decide +kernel
theorem dX10_walk_51 : decode cX10_walk 51 = .ok (.invokevirtual 46, 3) := by decide +kernel
theorem dX10_walk_54 : decode cX10_walk 54 = .ok (.iload_n 2, 1) := by decide +kernel
theorem dX10_walk_55 : decode cX10_walk 55 = .ok (.iconst 4, 1) := by decide +kernel
theorem dX10_walk_56 : decode cX10_walk 56 = .ok (.if_icmp .ne 4, 3) := by decide +kernel
theorem dX10_walk_59 : decode cX10_walk 59 = .ok (.return_, 1) := by decide +kernel
theorem dX10_walk_60 : decode cX10_walk 60 = .ok (.iconst 0, 1) := by decide +kernel
theorem dX10_walk_61 : decode cX10_walk 61 = .ok (.istore 8, 2) := by decide +kernel
theorem dX10_walk_63 : decode cX10_walk 63 = .ok (.iload 8, 2) := by decide +kernel
theorem dX10_walk_65 : decode cX10_walk 65 = .ok (.bipush 16, 2) := by decide +kernel
theorem dX10_walk_67 : decode cX10_walk 67 = .ok (.if_icmp .ge 81, 3) := by decide +kernel
theorem dX10_walk_70 : decode cX10_walk 70 = .ok (.iload 5, 2) := by decide +kernel
theorem dX10_walk_72 : decode cX10_walk 72 = .ok (.iload 8, 2) := by decide +kernel
theorem dX10_walk_74 : decode cX10_walk 74 = .ok (.ishr, 1) := by decide +kernel
theorem dX10_walk_75 : decode cX10_walk 75 = .ok (.iconst 1, 1) := by decide +kernel
theorem dX10_walk_76 : decode cX10_walk 76 = .ok (.iand, 1) := by decide +kernel
theorem dX10_walk_77 : decode cX10_walk 77 = .ok (.ifCond .ne 65, 3) := by decide +kernel
theorem dX10_walk_80 : decode cX10_walk 80 = .ok (.aload_n 1, 1) := by decide +kernel
theorem dX10_walk_81 : decode cX10_walk 81 = .ok (.iload 7, 2) := by decide +kernel
theorem dX10_walk_83 : decode cX10_walk 83 = .ok (.iload 8, 2) := by decide +kernel
theorem dX10_walk_85 : decode cX10_walk 85 = .ok (.invokevirtual 36, 3) := by decide +kernel
theorem dX10_walk_88 : decode cX10_walk 88 = .ok (.ifCond .ne 6, 3) := by decide +kernel
theorem dX10_walk_91 : decode cX10_walk 91 = .ok (.goto 51, 3) := by decide +kernel
theorem dX10_walk_94 : decode cX10_walk 94 = .ok (.aload_n 1, 1) := by decide +kernel
theorem dX10_walk_95 : decode cX10_walk 95 = .ok (.iload 7, 2) := by decide +kernel
theorem dX10_walk_97 : decode cX10_walk 97 = .ok (.iload 8, 2) := by decide +kernel
theorem dX10_walk_99 : decode cX10_walk 99 = .ok (.lload_n 3, 1) := by decide +kernel
theorem dX10_walk_100 : decode cX10_walk 100 = .ok (.invokevirtual 42, 3) := by decide +kernel
theorem dX10_walk_103 : decode cX10_walk 103 = .ok (.lstore 9, 2) := by decide +kernel
theorem dX10_walk_105 : decode cX10_walk 105 = .ok (.lload 9, 2) := by decide +kernel
theorem dX10_walk_107 : decode cX10_walk 107 = .ok (.ldc2_w 50, 3) := by decide +kernel
theorem dX10_walk_110 : decode cX10_walk 110 = .ok (.lcmp, 1) := by decide +kernel
theorem dX10_walk_111 : decode cX10_walk 111 = .ok (.ifCond .le 6, 3) := by decide +kernel
theorem dX10_walk_114 : decode cX10_walk 114 = .ok (.goto 28, 3) := by decide +kernel
theorem dX10_walk_117 : decode cX10_walk 117 = .ok (.aload_n 0, 1) := by decide +kernel
theorem dX10_walk_118 : decode cX10_walk 118 = .ok (.getfield 23, 3) := by decide +kernel
theorem dX10_walk_121 : decode cX10_walk 121 = .ok (.iload_n 2, 1) := by decide +kernel
theorem dX10_walk_122 : decode cX10_walk 122 = .ok (.iload 8, 2) := by decide +kernel
theorem dX10_walk_124 : decode cX10_walk 124 = .ok (.iastore, 1) := by decide +kernel
theorem dX10_walk_125 : decode cX10_walk 125 = .ok (.aload_n 0, 1) := by decide +kernel
theorem dX10_walk_126 : decode cX10_walk 126 = .ok (.aload_n 1, 1) := by decide +kernel
theorem dX10_walk_127 : decode cX10_walk 127 = .ok (.iload_n 2, 1) := by decide +kernel
theorem dX10_walk_128 : decode cX10_walk 128 = .ok (.iconst 1, 1) := by decide +kernel
theorem dX10_walk_129 : decode cX10_walk 129 = .ok (.iadd, 1) := by decide +kernel
theorem dX10_walk_130 : decode cX10_walk 130 = .ok (.lload 9, 2) := by decide +kernel
theorem dX10_walk_132 : decode cX10_walk 132 = .ok (.iload 5, 2) := by decide +kernel
theorem dX10_walk_134 : decode cX10_walk 134 = .ok (.iconst 1, 1) := by decide +kernel
theorem dX10_walk_135 : decode cX10_walk 135 = .ok (.iload 8, 2) := by decide +kernel
theorem dX10_walk_137 : decode cX10_walk 137 = .ok (.ishl, 1) := by decide +kernel
theorem dX10_walk_138 : decode cX10_walk 138 = .ok (.ior, 1) := by decide +kernel
theorem dX10_walk_139 : decode cX10_walk 139 = .ok (.invokestatic 32, 3) := by decide +kernel
theorem dX10_walk_142 : decode cX10_walk 142 = .ok (.iinc 8 1, 3) := by decide +kernel
theorem dX10_walk_145 : decode cX10_walk 145 = .ok (.goto (-82), 3) := by decide +kernel
theorem dX10_walk_148 : decode cX10_walk 148 = .ok (.return_, 1) := by decide +kernel
theorem dX10_close_0 : decode cX10_close 0 = .ok (.lload_n 1, 1) := by decide +kernel
theorem dX10_close_1 : decode cX10_close 1 = .ok (.ldc2_w 50, 3) := by decide +kernel
theorem dX10_close_4 : decode cX10_close 4 = .ok (.lcmp, 1) := by decide +kernel
theorem dX10_close_5 : decode cX10_close 5 = .ok (.ifCond .le 4, 3) := by decide +kernel
theorem dX10_close_8 : decode cX10_close 8 = .ok (.return_, 1) := by decide +kernel
theorem dX10_close_9 : decode cX10_close 9 = .ok (.aload_n 0, 1) := by decide +kernel
theorem dX10_close_10 : decode cX10_close 10 = .ok (.getfield 19, 3) := by decide +kernel
theorem dX10_close_13 : decode cX10_close 13 = .ok (.ifCond .eq 29, 3) := by decide +kernel
theorem dX10_close_16 : decode cX10_close 16 = .ok (.lload_n 1, 1) := by decide +kernel
theorem dX10_close_17 : decode cX10_close 17 = .ok (.aload_n 0, 1) := by decide +kernel
theorem dX10_close_18 : decode cX10_close 18 = .ok (.getfield 15, 3) := by decide +kernel
theorem dX10_close_21 : decode cX10_close 21 = .ok (.lcmp, 1) := by decide +kernel
theorem dX10_close_22 : decode cX10_close 22 = .ok (.ifCond .gt 20, 3) := by decide +kernel
theorem dX10_close_25 : decode cX10_close 25 = .ok (.lload_n 1, 1) := by decide +kernel
theorem dX10_close_26 : decode cX10_close 26 = .ok (.aload_n 0, 1) := by decide +kernel
theorem dX10_close_27 : decode cX10_close 27 = .ok (.getfield 15, 3) := by decide +kernel
theorem dX10_close_30 : decode cX10_close 30 = .ok (.lcmp, 1) := by decide +kernel
theorem dX10_close_31 : decode cX10_close 31 = .ok (.ifCond .ne 15, 3) := by decide +kernel
theorem dX10_close_34 : decode cX10_close 34 = .ok (.iload_n 3, 1) := by decide +kernel
theorem dX10_close_35 : decode cX10_close 35 = .ok (.aload_n 0, 1) := by decide +kernel
theorem dX10_close_36 : decode cX10_close 36 = .ok (.getfield 19, 3) := by decide +kernel
theorem dX10_close_39 : decode cX10_close 39 = .ok (.if_icmp .ge 7, 3) := by decide +kernel
theorem dX10_close_42 : decode cX10_close 42 = .ok (.iconst 1, 1) := by decide +kernel
theorem dX10_close_43 : decode cX10_close 43 = .ok (.goto 4, 3) := by decide +kernel
theorem dX10_close_46 : decode cX10_close 46 = .ok (.iconst 0, 1) := by decide +kernel
theorem dX10_close_47 : decode cX10_close 47 = .ok (.istore 4, 2) := by decide +kernel
theorem dX10_close_49 : decode cX10_close 49 = .ok (.iload 4, 2) := by decide +kernel
theorem dX10_close_51 : decode cX10_close 51 = .ok (.ifCond .ne 4, 3) := by decide +kernel
theorem dX10_close_54 : decode cX10_close 54 = .ok (.return_, 1) := by decide +kernel
theorem dX10_close_55 : decode cX10_close 55 = .ok (.aload_n 0, 1) := by decide +kernel
theorem dX10_close_56 : decode cX10_close 56 = .ok (.lload_n 1, 1) := by decide +kernel
theorem dX10_close_57 : decode cX10_close 57 = .ok (.putfield 15, 3) := by decide +kernel
theorem dX10_close_60 : decode cX10_close 60 = .ok (.aload_n 0, 1) := by decide +kernel
theorem dX10_close_61 : decode cX10_close 61 = .ok (.iload_n 3, 1) := by decide +kernel
theorem dX10_close_62 : decode cX10_close 62 = .ok (.putfield 19, 3) := by decide +kernel
theorem dX10_close_65 : decode cX10_close 65 = .ok (.iconst 0, 1) := by decide +kernel
theorem dX10_close_66 : decode cX10_close 66 = .ok (.istore 5, 2) := by decide +kernel
theorem dX10_close_68 : decode cX10_close 68 = .ok (.iload 5, 2) := by decide +kernel
theorem dX10_close_70 : decode cX10_close 70 = .ok (.iload_n 3, 1) := by decide +kernel
theorem dX10_close_71 : decode cX10_close 71 = .ok (.if_icmp .ge 23, 3) := by decide +kernel
theorem dX10_close_74 : decode cX10_close 74 = .ok (.aload_n 0, 1) := by decide +kernel
theorem dX10_close_75 : decode cX10_close 75 = .ok (.getfield 11, 3) := by decide +kernel
theorem dX10_close_78 : decode cX10_close 78 = .ok (.iload 5, 2) := by decide +kernel
theorem dX10_close_80 : decode cX10_close 80 = .ok (.aload_n 0, 1) := by decide +kernel
theorem dX10_close_81 : decode cX10_close 81 = .ok (.getfield 23, 3) := by decide +kernel
theorem dX10_close_84 : decode cX10_close 84 = .ok (.iload 5, 2) := by decide +kernel
theorem dX10_close_86 : decode cX10_close 86 = .ok (.iaload, 1) := by decide +kernel
theorem dX10_close_87 : decode cX10_close 87 = .ok (.iastore, 1) := by decide +kernel
theorem dX10_close_88 : decode cX10_close 88 = .ok (.iinc 5 1, 3) := by decide +kernel
theorem dX10_close_91 : decode cX10_close 91 = .ok (.goto (-23), 3) := by decide +kernel
theorem dX10_close_94 : decode cX10_close 94 = .ok (.return_, 1) := by decide +kernel
set_option maxRecDepth 20000 in
theorem ggX11_init_X9_init : GoodIn wsX11_init wsX9_init := goodIn_r _ [55, 56, 2, 3, 48, 57, 58, 59, 60, 160, 161, 162, 163] (by decide +kernel) (by decide +kernel)
set_option maxRecDepth 20000 in
theorem gX11_init_X9_init_n9 : GoodIn wsX11_init (wsX9_init) := ggX11_init_X9_init
set_option maxRecDepth 20000 in
theorem ggX11_init_X6_init : GoodIn wsX11_init wsX6_init := goodIn_r _ [62, 63, 2, 3, 48, 64, 65, 66, 67, 180, 181, 182, 183] (by decide +kernel) (by decide +kernel)
set_option maxRecDepth 20000 in
theorem gX11_init_X6_init_n18 : GoodIn wsX11_init (wsX6_init) := ggX11_init_X6_init
set_option maxRecDepth 20000 in
theorem ggX11_init_X10_init : GoodIn wsX11_init wsX10_init := goodIn_r _ [69, 70, 2, 3, 48, 71, 72, 73, 74, 75, 184, 185, 186, 187, 188] (by decide +kernel) (by decide +kernel)
set_option maxRecDepth 20000 in
theorem gX11_init_X10_init_n25 : GoodIn wsX11_init (wsX10_init) := ggX11_init_X10_init
set_option maxRecDepth 20000 in
theorem ggX11_init_X2_init : GoodIn wsX11_init wsX2_init := goodIn_r _ [77, 78, 2, 3, 48, 79, 80, 81, 82, 83, 84, 189, 190, 191, 192, 193, 194] (by decide +kernel) (by decide +kernel)
set_option maxRecDepth 20000 in
theorem gX11_init_X2_init_n32 : GoodIn wsX11_init (wsX2_init) := ggX11_init_X2_init
set_option maxRecDepth 20000 in
theorem ggX11_init_X8_init : GoodIn wsX11_init wsX8_init := goodIn_r _ [86, 87, 2, 3, 48, 88, 89, 90, 91, 92, 93, 94, 95, 96, 97, 98, 195, 196, 197, 198, 199, 200, 201, 202, 203, 204] (by decide +kernel) (by decide +kernel)
set_option maxRecDepth 20000 in
theorem gX11_init_X8_init_n39 : GoodIn wsX11_init (wsX8_init) := ggX11_init_X8_init
set_option maxRecDepth 20000 in
theorem ggX11_init_X5_init : GoodIn wsX11_init wsX5_init := goodIn_r _ [100, 101, 2, 3, 48, 102, 103, 104, 105, 205, 206, 207, 208] (by decide +kernel) (by decide +kernel)
set_option maxRecDepth 20000 in
theorem gX11_init_X5_init_n46 : GoodIn wsX11_init (wsX5_init) := ggX11_init_X5_init
set_option maxRecDepth 20000 in
theorem ggX11_init_X0_init : GoodIn wsX11_init wsX0_init := goodIn_r _ [107, 108, 2, 3, 48, 109, 110, 111, 112, 113, 114, 115, 116, 209, 210, 211, 212, 213, 214, 215, 216] (by decide +kernel) (by decide +kernel)
set_option maxRecDepth 20000 in
theorem gX11_init_X0_init_n53 : GoodIn wsX11_init (wsX0_init) := ggX11_init_X0_init
set_option maxRecDepth 20000 in
theorem ggX11_init_X3_init : GoodIn wsX11_init wsX3_init := goodIn_r _ [118, 119, 2, 3, 48, 120, 121, 122, 123, 124, 125, 126, 127, 128, 217, 218, 219, 220, 221, 222, 223, 224, 225] (by decide +kernel) (by decide +kernel)
set_option maxRecDepth 20000 in
theorem gX11_init_X3_init_n60 : GoodIn wsX11_init (wsX3_init) := ggX11_init_X3_init
set_option maxRecDepth 20000 in
theorem ggX11_init_X4_init : GoodIn wsX11_init wsX4_init := goodIn_r _ [130, 131, 2, 3, 132, 133, 48, 134, 135, 136, 137, 138, 139, 140, 141, 142, 143, 144, 145, 226, 227, 228, 229, 230, 231, 232, 233, 234, 235, 236, 237, 238] (by decide +kernel) (by decide +kernel)
set_option maxRecDepth 20000 in
theorem gX11_init_X4_init_n67 : GoodIn wsX11_init (wsX4_init) := ggX11_init_X4_init
set_option maxRecDepth 20000 in
theorem ggX11_init_X7_init : GoodIn wsX11_init wsX7_init := goodIn_r _ [147, 148, 2, 3, 48, 149, 150, 143, 151, 152, 239, 240, 241, 242] (by decide +kernel) (by decide +kernel)
set_option maxRecDepth 20000 in
theorem gX11_init_X7_init_n74 : GoodIn wsX11_init (wsX7_init) := ggX11_init_X7_init
set_option maxRecDepth 20000 in
theorem ggX11_init_X1_init : GoodIn wsX11_init wsX1_init := goodIn_r _ [154, 155, 2, 3, 48, 156, 157, 158, 159, 243, 244, 245, 246] (by decide +kernel) (by decide +kernel)
set_option maxRecDepth 20000 in
theorem gX11_init_X1_init_n81 : GoodIn wsX11_init (wsX1_init) := ggX11_init_X1_init
theorem dX11_init_0 : decode cX11_init 0 = .ok (.aload_n 0, 1) := by decide +kernel
theorem dX11_init_1 : decode cX11_init 1 = .ok (.invokespecial 1, 3) := by decide +kernel
theorem dX11_init_4 : decode cX11_init 4 = .ok (.aload_n 0, 1) := by decide +kernel
theorem dX11_init_5 : decode cX11_init 5 = .ok (.new 7, 3) := by decide +kernel
theorem dX11_init_8 : decode cX11_init 8 = .ok (.dup, 1) := by decide +kernel
theorem dX11_init_9 : decode cX11_init 9 = .ok (.invokespecial 9, 3) := by decide +kernel
theorem dX11_init_12 : decode cX11_init 12 = .ok (.putfield 10, 3) := by decide +kernel
theorem dX11_init_15 : decode cX11_init 15 = .ok (.aload_n 0, 1) := by decide +kernel
theorem dX11_init_16 : decode cX11_init 16 = .ok (.new 16, 3) := by decide +kernel
theorem dX11_init_19 : decode cX11_init 19 = .ok (.dup, 1) := by decide +kernel
theorem dX11_init_20 : decode cX11_init 20 = .ok (.invokespecial 18, 3) := by decide +kernel
theorem dX11_init_23 : decode cX11_init 23 = .ok (.putfield 19, 3) := by decide +kernel
theorem dX11_init_26 : decode cX11_init 26 = .ok (.aload_n 0, 1) := by decide +kernel
theorem dX11_init_27 : decode cX11_init 27 = .ok (.new 23, 3) := by decide +kernel
theorem dX11_init_30 : decode cX11_init 30 = .ok (.dup, 1) := by decide +kernel
theorem dX11_init_31 : decode cX11_init 31 = .ok (.invokespecial 25, 3) := by decide +kernel
theorem dX11_init_34 : decode cX11_init 34 = .ok (.putfield 26, 3) := by decide +kernel
theorem dX11_init_37 : decode cX11_init 37 = .ok (.aload_n 0, 1) := by decide +kernel
theorem dX11_init_38 : decode cX11_init 38 = .ok (.new 30, 3) := by decide +kernel
theorem dX11_init_41 : decode cX11_init 41 = .ok (.dup, 1) := by decide +kernel
theorem dX11_init_42 : decode cX11_init 42 = .ok (.invokespecial 32, 3) := by decide +kernel
theorem dX11_init_45 : decode cX11_init 45 = .ok (.putfield 33, 3) := by decide +kernel
theorem dX11_init_48 : decode cX11_init 48 = .ok (.aload_n 0, 1) := by decide +kernel
theorem dX11_init_49 : decode cX11_init 49 = .ok (.new 37, 3) := by decide +kernel
theorem dX11_init_52 : decode cX11_init 52 = .ok (.dup, 1) := by decide +kernel
theorem dX11_init_53 : decode cX11_init 53 = .ok (.invokespecial 39, 3) := by decide +kernel
theorem dX11_init_56 : decode cX11_init 56 = .ok (.putfield 40, 3) := by decide +kernel
theorem dX11_init_59 : decode cX11_init 59 = .ok (.aload_n 0, 1) := by decide +kernel
theorem dX11_init_60 : decode cX11_init 60 = .ok (.new 44, 3) := by decide +kernel
theorem dX11_init_63 : decode cX11_init 63 = .ok (.dup, 1) := by decide +kernel
theorem dX11_init_64 : decode cX11_init 64 = .ok (.invokespecial 46, 3) := by decide +kernel
theorem dX11_init_67 : decode cX11_init 67 = .ok (.putfield 47, 3) := by decide +kernel
theorem dX11_init_70 : decode cX11_init 70 = .ok (.aload_n 0, 1) := by decide +kernel
theorem dX11_init_71 : decode cX11_init 71 = .ok (.new 51, 3) := by decide +kernel
theorem dX11_init_74 : decode cX11_init 74 = .ok (.dup, 1) := by decide +kernel
theorem dX11_init_75 : decode cX11_init 75 = .ok (.invokespecial 53, 3) := by decide +kernel
theorem dX11_init_78 : decode cX11_init 78 = .ok (.putfield 54, 3) := by decide +kernel
theorem dX11_init_81 : decode cX11_init 81 = .ok (.aload_n 0, 1) := by decide +kernel
theorem dX11_init_82 : decode cX11_init 82 = .ok (.new 58, 3) := by decide +kernel
theorem dX11_init_85 : decode cX11_init 85 = .ok (.dup, 1) := by decide +kernel
theorem dX11_init_86 : decode cX11_init 86 = .ok (.invokespecial 60, 3) := by decide +kernel
theorem dX11_init_89 : decode cX11_init 89 = .ok (.putfield 61, 3) := by decide +kernel
theorem dX11_init_92 : decode cX11_init 92 = .ok (.aload_n 0, 1) := by decide +kernel
theorem dX11_init_93 : decode cX11_init 93 = .ok (.new 65, 3) := by decide +kernel
theorem dX11_init_96 : decode cX11_init 96 = .ok (.dup, 1) := by decide +kernel
theorem dX11_init_97 : decode cX11_init 97 = .ok (.invokespecial 67, 3) := by decide +kernel
theorem dX11_init_100 : decode cX11_init 100 = .ok (.putfield 68, 3) := by decide +kernel
theorem dX11_init_103 : decode cX11_init 103 = .ok (.aload_n 0, 1) := by decide +kernel
theorem dX11_init_104 : decode cX11_init 104 = .ok (.new 72, 3) := by decide +kernel
theorem dX11_init_107 : decode cX11_init 107 = .ok (.dup, 1) := by decide +kernel
theorem dX11_init_108 : decode cX11_init 108 = .ok (.invokespecial 74, 3) := by decide +kernel
theorem dX11_init_111 : decode cX11_init 111 = .ok (.putfield 75, 3) := by decide +kernel
theorem dX11_init_114 : decode cX11_init 114 = .ok (.aload_n 0, 1) := by decide +kernel
theorem dX11_init_115 : decode cX11_init 115 = .ok (.new 79, 3) := by decide +kernel
theorem dX11_init_118 : decode cX11_init 118 = .ok (.dup, 1) := by decide +kernel
theorem dX11_init_119 : decode cX11_init 119 = .ok (.invokespecial 81, 3) := by decide +kernel
theorem dX11_init_122 : decode cX11_init 122 = .ok (.putfield 82, 3) := by decide +kernel
theorem dX11_init_125 : decode cX11_init 125 = .ok (.aload_n 0, 1) := by decide +kernel
theorem dX11_init_126 : decode cX11_init 126 = .ok (.bipush 10, 2) := by decide +kernel
theorem dX11_init_128 : decode cX11_init 128 = .ok (.newarray .int, 2) := by decide +kernel
theorem dX11_init_130 : decode cX11_init 130 = .ok (.putfield 86, 3) := by decide +kernel
theorem dX11_init_133 : decode cX11_init 133 = .ok (.aload_n 0, 1) := by decide +kernel
theorem dX11_init_134 : decode cX11_init 134 = .ok (.iconst 2, 1) := by decide +kernel
theorem dX11_init_135 : decode cX11_init 135 = .ok (.anewarray 65, 3) := by decide +kernel
theorem dX11_init_138 : decode cX11_init 138 = .ok (.putfield 90, 3) := by decide +kernel
theorem dX11_init_141 : decode cX11_init 141 = .ok (.aload_n 0, 1) := by decide +kernel
theorem dX11_init_142 : decode cX11_init 142 = .ok (.iconst 2, 1) := by decide +kernel
theorem dX11_init_143 : decode cX11_init 143 = .ok (.anewarray 79, 3) := by decide +kernel
theorem dX11_init_146 : decode cX11_init 146 = .ok (.putfield 94, 3) := by decide +kernel
theorem dX11_init_149 : decode cX11_init 149 = .ok (.aload_n 0, 1) := by decide +kernel
theorem dX11_init_150 : decode cX11_init 150 = .ok (.iconst 0, 1) := by decide +kernel
theorem dX11_init_151 : decode cX11_init 151 = .ok (.putfield 98, 3) := by decide +kernel
theorem dX11_init_154 : decode cX11_init 154 = .ok (.aload_n 0, 1) := by decide +kernel
theorem dX11_init_155 : decode cX11_init 155 = .ok (.bipush 20, 2) := by decide +kernel
theorem dX11_init_157 : decode cX11_init 157 = .ok (.putfield 102, 3) := by decide +kernel
theorem dX11_init_160 : decode cX11_init 160 = .ok (.iconst 0, 1) := by decide +kernel
theorem dX11_init_161 : decode cX11_init 161 = .ok (.istore_n 1, 1) := by decide +kernel
theorem dX11_init_162 : decode cX11_init 162 = .ok (.iload_n 1, 1) := by decide +kernel
theorem dX11_init_163 : decode cX11_init 163 = .ok (.iconst 2, 1) := by decide +kernel
theorem dX11_init_164 : decode cX11_init 164 = .ok (.if_icmp .ge 35, 3) := by decide +kernel
theorem dX11_init_167 : decode cX11_init 167 = .ok (.aload_n 0, 1) := by decide +kernel
theorem dX11_init_168 : decode cX11_init 168 = .ok (.getfield 90, 3) := by decide +kernel
theorem dX11_init_171 : decode cX11_init 171 = .ok (.iload_n 1, 1) := by decide +kernel
theorem dX11_init_172 : decode cX11_init 172 = .ok (.new 65, 3) := by decide +kernel
theorem dX11_init_175 : decode cX11_init 175 = .ok (.dup, 1) := by decide +kernel
theorem dX11_init_176 : decode cX11_init 176 = .ok (.invokespecial 67, 3) := by decide +kernel
theorem dX11_init_179 : decode cX11_init 179 = .ok (.aastore, 1) := by decide +kernel
theorem dX11_init_180 : decode cX11_init 180 = .ok (.aload_n 0, 1) := by decide +kernel
theorem dX11_init_181 : decode cX11_init 181 = .ok (.getfield 94, 3) := by decide +kernel
theorem dX11_init_184 : decode cX11_init 184 = .ok (.iload_n 1, 1) := by decide +kernel
theorem dX11_init_185 : decode cX11_init 185 = .ok (.new 79, 3) := by decide +kernel
theorem dX11_init_188 : decode cX11_init 188 = .ok (.dup, 1) := by decide +kernel
theorem dX11_init_189 : decode cX11_init 189 = .ok (.invokespecial 81, 3) := by decide +kernel
theorem dX11_init_192 : decode cX11_init 192 = .ok (.aastore, 1) := by decide +kernel
theorem dX11_init_193 : decode cX11_init 193 = .ok (.iinc 1 1, 3) := by decide +kernel
theorem dX11_init_196 : decode cX11_init 196 = .ok (.goto (-34), 3) := by decide +kernel
theorem dX11_init_199 : decode cX11_init 199 = .ok (.return_, 1) := by decide +kernel
theorem dX11_within_0 : decode cX11_within 0 = .ok (.iload_n 0, 1) := by decide +kernel
theorem dX11_within_1 : decode cX11_within 1 = .ok (.iload_n 1, 1) := by decide +kernel
theorem dX11_within_2 : decode cX11_within 2 = .ok (.if_icmp .lt 12, 3) := by decide +kernel
theorem dX11_within_5 : decode cX11_within 5 = .ok (.iload_n 0, 1) := by decide +kernel
theorem dX11_within_6 : decode cX11_within 6 = .ok (.iload_n 2, 1) := by decide +kernel
theorem dX11_within_7 : decode cX11_within 7 = .ok (.if_icmp .gt 7, 3) := by decide +kernel
theorem dX11_within_10 : decode cX11_within 10 = .ok (.iconst 1, 1) := by decide +kernel
theorem dX11_within_11 : decode cX11_within 11 = .ok (.goto 4, 3) := by decide +kernel
theorem dX11_within_14 : decode cX11_within 14 = .ok (.iconst 0, 1) := by decide +kernel
theorem dX11_within_15 : decode cX11_within 15 = .ok (.ireturn, 1) := by decide +kernel
set_option maxRecDepth 20000 in
theorem ggX11_isDistrict_X11_within : GoodIn wsX11_isDistrict wsX11_within := goodIn_r _ [4] (by decide +kernel) (by decide +kernel)
set_option maxRecDepth 20000 in
theorem gX11_isDistrict_X11_within : GoodIn wsX11_isDistrict (va_wsS RX11 105 yX11_within wsX11_within) := goodIn_app (goodIn_of _ (by decide +kernel)) ggX11_isDistrict_X11_within
theorem dX11_isDistrict_0 : decode cX11_isDistrict 0 = .ok (.iload_n 0, 1) := by decide +kernel
theorem dX11_isDistrict_1 : decode cX11_isDistrict 1 = .ok (.iconst 0, 1) := by decide +kernel
theorem dX11_isDistrict_2 : decode cX11_isDistrict 2 = .ok (.iconst 5, 1) := by decide +kernel
theorem dX11_isDistrict_3 : decode cX11_isDistrict 3 = .ok (.invokestatic 105, 3) := by decide +kernel
theorem dX11_isDistrict_6 : decode cX11_isDistrict 6 = .ok (.ireturn, 1) := by decide +kernel
set_option maxRecDepth 20000 in
theorem ggX11_isDay_X11_within : GoodIn wsX11_isDay wsX11_within := goodIn_r _ [4] (by decide +kernel) (by decide +kernel)
set_option maxRecDepth 20000 in
theorem gX11_isDay_X11_within : GoodIn wsX11_isDay (va_wsS RX11 105 yX11_within wsX11_within) := goodIn_app (goodIn_of _ (by decide +kernel)) ggX11_isDay_X11_within
theorem dX11_isDay_0 : decode cX11_isDay 0 = .ok (.iload_n 0, 1) := by decide +kernel
theorem dX11_isDay_1 : decode cX11_isDay 1 = .ok (.iconst 0, 1) := by decide +kernel
theorem dX11_isDay_2 : decode cX11_isDay 2 = .ok (.sipush 9999, 3) := by decide +kernel
theorem dX11_isDay_5 : decode cX11_isDay 5 = .ok (.invokestatic 105, 3) := by decide +kernel
theorem dX11_isDay_8 : decode cX11_isDay 8 = .ok (.ireturn, 1) := by decide +kernel
set_option maxRecDepth 20000 in
theorem ggX11_isUnitNumber_X11_within : GoodIn wsX11_isUnitNumber wsX11_within := goodIn_r _ [4] (by decide +kernel) (by decide +kernel)
set_option maxRecDepth 20000 in
theorem gX11_isUnitNumber_X11_within : GoodIn wsX11_isUnitNumber (va_wsS RX11 105 yX11_within wsX11_within) := goodIn_app (goodIn_of _ (by decide +kernel)) ggX11_isUnitNumber_X11_within
theorem dX11_isUnitNumber_0 : decode cX11_isUnitNumber 0 = .ok (.iload_n 0, 1) := by decide +kernel
theorem dX11_isUnitNumber_1 : decode cX11_isUnitNumber 1 = .ok (.iconst 0, 1) := by decide +kernel
theorem dX11_isUnitNumber_2 : decode cX11_isUnitNumber 2 = .ok (.bipush 15, 2) := by decide +kernel
theorem dX11_isUnitNumber_4 : decode cX11_isUnitNumber 4 = .ok (.invokestatic 105, 3) := by decide +kernel
theorem dX11_isUnitNumber_7 : decode cX11_isUnitNumber 7 = .ok (.ireturn, 1) := by decide +kernel
set_option maxRecDepth 20000 in
theorem ggX11_unit_X11_within : GoodIn wsX11_unit wsX11_within := goodIn_r _ [7] (by decide +kernel) (by decide +kernel)
set_option maxRecDepth 20000 in
theorem gX11_unit_X11_within : GoodIn wsX11_unit (va_wsS RX11 105 yX11_within wsX11_within) := goodIn_app (goodIn_of _ (by decide +kernel)) ggX11_unit_X11_within
set_option maxRecDepth 20000 in
theorem ggX11_unit_X9_add : GoodIn wsX11_unit wsX9_add := goodIn_r _ [12, 13, 14, 15, 16, 33, 34, 35, 36] (by decide +kernel) (by decide +kernel)
set_option maxRecDepth 20000 in
theorem gX11_unit_X9_add : GoodIn wsX11_unit (wsV RX11 113 RX9 yX9_add wsX9_add) := goodIn_app (goodIn_of _ (by decide +kernel)) ggX11_unit_X9_add
theorem dX11_unit_0 : decode cX11_unit 0 = .ok (.iload_n 1, 1) := by decide +kernel
theorem dX11_unit_1 : decode cX11_unit 1 = .ok (.iconst 0, 1) := by decide +kernel
theorem dX11_unit_2 : decode cX11_unit 2 = .ok (.iconst 1, 1) := by decide +kernel
theorem dX11_unit_3 : decode cX11_unit 3 = .ok (.invokestatic 105, 3) := by decide +kernel
theorem dX11_unit_6 : decode cX11_unit 6 = .ok (.ifCond .eq 13, 3) := by decide +kernel
theorem dX11_unit_9 : decode cX11_unit 9 = .ok (.iload_n 2, 1) := by decide +kernel
theorem dX11_unit_10 : decode cX11_unit 10 = .ok (.iconst 1, 1) := by decide +kernel
theorem dX11_unit_11 : decode cX11_unit 11 = .ok (.ldc 109, 2) := by decide +kernel
theorem dX11_unit_13 : decode cX11_unit 13 = .ok (.invokestatic 105, 3) := by decide +kernel
theorem dX11_unit_16 : decode cX11_unit 16 = .ok (.ifCond .ne 5, 3) := by decide +kernel
theorem dX11_unit_19 : decode cX11_unit 19 = .ok (.iconst (-1), 1) := by decide +kernel
theorem dX11_unit_20 : decode cX11_unit 20 = .ok (.ireturn, 1) := by decide +kernel
theorem dX11_unit_21 : decode cX11_unit 21 = .ok (.iload_n 3, 1) := by decide +kernel
theorem dX11_unit_22 : decode cX11_unit 22 = .ok (.iconst 0, 1) := by decide +kernel
theorem dX11_unit_23 : decode cX11_unit 23 = .ok (.iload_n 1, 1) := by decide +kernel
theorem dX11_unit_24 : decode cX11_unit 24 = .ok (.iconst 1, 1) := by decide +kernel
theorem dX11_unit_25 : decode cX11_unit 25 = .ok (.if_icmp .ne 8, 3) := by decide +kernel
theorem dX11_unit_28 : decode cX11_unit 28 = .ok (.bipush 100, 2) := by decide +kernel
theorem dX11_unit_30 : decode cX11_unit 30 = .ok (.goto 4, 3) := by decide +kernel
theorem dX11_unit_33 : decode cX11_unit 33 = .ok (.iconst 0, 1) := by decide +kernel
theorem dX11_unit_34 : decode cX11_unit 34 = .ok (.invokestatic 105, 3) := by decide +kernel
theorem dX11_unit_37 : decode cX11_unit 37 = .ok (.ifCond .ne 5, 3) := by decide +kernel
theorem dX11_unit_40 : decode cX11_unit 40 = .ok (.iconst (-1), 1) := by decide +kernel
theorem dX11_unit_41 : decode cX11_unit 41 = .ok (.ireturn, 1) := by decide +kernel
theorem dX11_unit_42 : decode cX11_unit 42 = .ok (.aload_n 0, 1) := by decide +kernel
theorem dX11_unit_43 : decode cX11_unit 43 = .ok (.getfield 10, 3) := by decide +kernel
theorem dX11_unit_46 : decode cX11_unit 46 = .ok (.getfield 110, 3) := by decide +kernel
theorem dX11_unit_49 : decode cX11_unit 49 = .ok (.bipush 16, 2) := by decide +kernel
theorem dX11_unit_51 : decode cX11_unit 51 = .ok (.if_icmp .lt 6, 3) := by decide +kernel
theorem dX11_unit_54 : decode cX11_unit 54 = .ok (.bipush (-3), 2) := by decide +kernel
theorem dX11_unit_56 : decode cX11_unit 56 = .ok (.ireturn, 1) := by decide +kernel
theorem dX11_unit_57 : decode cX11_unit 57 = .ok (.aload_n 0, 1) := by decide +kernel
theorem dX11_unit_58 : decode cX11_unit 58 = .ok (.getfield 10, 3) := by decide +kernel
theorem dX11_unit_61 : decode cX11_unit 61 = .ok (.iload_n 1, 1) := by decide +kernel
theorem dX11_unit_62 : decode cX11_unit 62 = .ok (.iload_n 2, 1) := by decide +kernel
theorem dX11_unit_63 : decode cX11_unit 63 = .ok (.iload_n 3, 1) := by decide +kernel
theorem dX11_unit_64 : decode cX11_unit 64 = .ok (.invokevirtual 113, 3) := by decide +kernel
theorem dX11_unit_67 : decode cX11_unit 67 = .ok (.ireturn, 1) := by decide +kernel
set_option maxRecDepth 20000 in
theorem ggX11_table_X9_told : GoodIn wsX11_table wsX9_told := goodIn_r _ [8, 9, 53, 54, 55, 56] (by decide +kernel) (by decide +kernel)
set_option maxRecDepth 20000 in
theorem gX11_table_X9_told : GoodIn wsX11_table (wsV RX11 117 RX9 yX9_told wsX9_told) := goodIn_app (goodIn_of _ (by decide +kernel)) ggX11_table_X9_told
set_option maxRecDepth 20000 in
theorem ggX11_table_X11_within : GoodIn wsX11_table wsX11_within := goodIn_r _ [13] (by decide +kernel) (by decide +kernel)
set_option maxRecDepth 20000 in
theorem gX11_table_X11_within : GoodIn wsX11_table (va_wsS RX11 105 yX11_within wsX11_within) := goodIn_app (goodIn_of _ (by decide +kernel)) ggX11_table_X11_within
set_option maxRecDepth 20000 in
theorem ggX11_table_X9_alike : GoodIn wsX11_table wsX9_alike := goodIn_r _ [17, 18, 53, 54, 55, 56] (by decide +kernel) (by decide +kernel)
set_option maxRecDepth 20000 in
theorem gX11_table_X9_alike : GoodIn wsX11_table (wsV RX11 121 RX9 yX9_alike wsX9_alike) := goodIn_app (goodIn_of _ (by decide +kernel)) ggX11_table_X9_alike
set_option maxRecDepth 20000 in
theorem ggX11_table_X6_put : GoodIn wsX11_table wsX6_put := goodIn_r _ [23, 24, 25, 26, 27, 28, 29, 22, 30, 57, 58, 59, 60] (by decide +kernel) (by decide +kernel)
set_option maxRecDepth 20000 in
theorem gX11_table_X6_put : GoodIn wsX11_table (wsV RX11 125 RX6 yX6_put wsX6_put) := goodIn_app (goodIn_of _ (by decide +kernel)) ggX11_table_X6_put
set_option maxRecDepth 20000 in
theorem ggX11_table_X10_forget : GoodIn wsX11_table wsX10_forget := goodIn_r _ [35, 36, 61, 62, 63, 64, 65] (by decide +kernel) (by decide +kernel)
set_option maxRecDepth 20000 in
theorem gX11_table_X10_forget : GoodIn wsX11_table (wsV RX11 129 RX10 yX10_forget wsX10_forget) := goodIn_app (goodIn_of _ (by decide +kernel)) ggX11_table_X10_forget
theorem dX11_table_0 : decode cX11_table 0 = .ok (.aload_n 0, 1) := by decide +kernel
theorem dX11_table_1 : decode cX11_table 1 = .ok (.getfield 10, 3) := by decide +kernel
theorem dX11_table_4 : decode cX11_table 4 = .ok (.iload_n 1, 1) := by decide +kernel
theorem dX11_table_5 : decode cX11_table 5 = .ok (.invokevirtual 117, 3) := by decide +kernel
theorem dX11_table_8 : decode cX11_table 8 = .ok (.ifCond .eq 19, 3) := by decide +kernel
theorem dX11_table_11 : decode cX11_table 11 = .ok (.aload_n 0, 1) := by decide +kernel
theorem dX11_table_12 : decode cX11_table 12 = .ok (.getfield 10, 3) := by decide +kernel
theorem dX11_table_15 : decode cX11_table 15 = .ok (.iload_n 2, 1) := by decide +kernel
theorem dX11_table_16 : decode cX11_table 16 = .ok (.invokevirtual 117, 3) := by decide +kernel
theorem dX11_table_19 : decode cX11_table 19 = .ok (.ifCond .eq 8, 3) := by decide +kernel
theorem dX11_table_22 : decode cX11_table 22 = .ok (.iload_n 1, 1) := by decide +kernel
theorem dX11_table_23 : decode cX11_table 23 = .ok (.iload_n 2, 1) := by decide +kernel
theorem dX11_table_24 : decode cX11_table 24 = .ok (.if_icmp .ne 5, 3) := by decide +kernel
theorem dX11_table_27 : decode cX11_table 27 = .ok (.iconst (-1), 1) := by decide +kernel
theorem dX11_table_28 : decode cX11_table 28 = .ok (.ireturn, 1) := by decide +kernel
theorem dX11_table_29 : decode cX11_table 29 = .ok (.iload_n 3, 1) := by decide +kernel
theorem dX11_table_30 : decode cX11_table 30 = .ok (.iconst 1, 1) := by decide +kernel
theorem dX11_table_31 : decode cX11_table 31 = .ok (.sipush 10000, 3) := by decide +kernel
theorem dX11_table_34 : decode cX11_table 34 = .ok (.invokestatic 105, 3) := by decide +kernel
theorem dX11_table_37 : decode cX11_table 37 = .ok (.ifCond .eq 25, 3) := by decide +kernel
theorem dX11_table_40 : decode cX11_table 40 = .ok (.iload 4, 2) := by decide +kernel
theorem dX11_table_42 : decode cX11_table 42 = .ok (.iconst 1, 1) := by decide +kernel
theorem dX11_table_43 : decode cX11_table 43 = .ok (.sipush 10000, 3) := by decide +kernel
theorem dX11_table_46 : decode cX11_table 46 = .ok (.invokestatic 105, 3) := by decide +kernel
theorem dX11_table_49 : decode cX11_table 49 = .ok (.ifCond .eq 13, 3) := by decide +kernel
theorem dX11_table_52 : decode cX11_table 52 = .ok (.iload 5, 2) := by decide +kernel
theorem dX11_table_54 : decode cX11_table 54 = .ok (.iconst 0, 1) := by decide +kernel
theorem dX11_table_55 : decode cX11_table 55 = .ok (.iconst 3, 1) := by decide +kernel
theorem dX11_table_56 : decode cX11_table 56 = .ok (.invokestatic 105, 3) := by decide +kernel
theorem dX11_table_59 : decode cX11_table 59 = .ok (.ifCond .ne 5, 3) := by decide +kernel
theorem dX11_table_62 : decode cX11_table 62 = .ok (.iconst (-1), 1) := by decide +kernel
theorem dX11_table_63 : decode cX11_table 63 = .ok (.ireturn, 1) := by decide +kernel
theorem dX11_table_64 : decode cX11_table 64 = .ok (.aload_n 0, 1) := by decide +kernel
theorem dX11_table_65 : decode cX11_table 65 = .ok (.getfield 10, 3) := by decide +kernel
theorem dX11_table_68 : decode cX11_table 68 = .ok (.iload_n 1, 1) := by decide +kernel
theorem dX11_table_69 : decode cX11_table 69 = .ok (.iload_n 2, 1) := by decide +kernel
theorem dX11_table_70 : decode cX11_table 70 = .ok (.invokevirtual 121, 3) := by decide +kernel
theorem dX11_table_73 : decode cX11_table 73 = .ok (.ifCond .ne 6, 3) := by decide +kernel
theorem dX11_table_76 : decode cX11_table 76 = .ok (.bipush (-2), 2) := by decide +kernel
theorem dX11_table_78 : decode cX11_table 78 = .ok (.ireturn, 1) := by decide +kernel
theorem dX11_table_79 : decode cX11_table 79 = .ok (.aload_n 0, 1) := by decide +kernel
theorem dX11_table_80 : decode cX11_table 80 = .ok (.getfield 19, 3) := by decide +kernel
theorem dX11_table_83 : decode cX11_table 83 = .ok (.iload_n 1, 1) := by decide +kernel
theorem dX11_table_84 : decode cX11_table 84 = .ok (.iload_n 2, 1) := by decide +kernel
theorem dX11_table_85 : decode cX11_table 85 = .ok (.iload_n 3, 1) := by decide +kernel
theorem dX11_table_86 : decode cX11_table 86 = .ok (.iload 4, 2) := by decide +kernel
theorem dX11_table_88 : decode cX11_table 88 = .ok (.iload 5, 2) := by decide +kernel
theorem dX11_table_90 : decode cX11_table 90 = .ok (.invokevirtual 125, 3) := by decide +kernel
theorem dX11_table_93 : decode cX11_table 93 = .ok (.aload_n 0, 1) := by decide +kernel
theorem dX11_table_94 : decode cX11_table 94 = .ok (.getfield 26, 3) := by decide +kernel
theorem dX11_table_97 : decode cX11_table 97 = .ok (.invokevirtual 129, 3) := by decide +kernel
theorem dX11_table_100 : decode cX11_table 100 = .ok (.iconst 0, 1) := by decide +kernel
theorem dX11_table_101 : decode cX11_table 101 = .ok (.ireturn, 1) := by decide +kernel
set_option maxRecDepth 20000 in
theorem ggX11_turn_X9_told : GoodIn wsX11_turn wsX9_told := goodIn_r _ [10, 11, 44, 45, 46, 47] (by decide +kernel) (by decide +kernel)
set_option maxRecDepth 20000 in
theorem gX11_turn_X9_told : GoodIn wsX11_turn (wsV RX11 117 RX9 yX9_told wsX9_told) := goodIn_app (goodIn_of _ (by decide +kernel)) ggX11_turn_X9_told
set_option maxRecDepth 20000 in
theorem ggX11_turn_X11_within : GoodIn wsX11_turn wsX11_within := goodIn_r _ [15] (by decide +kernel) (by decide +kernel)
set_option maxRecDepth 20000 in
theorem gX11_turn_X11_within : GoodIn wsX11_turn (va_wsS RX11 105 yX11_within wsX11_within) := goodIn_app (goodIn_of _ (by decide +kernel)) ggX11_turn_X11_within
set_option maxRecDepth 20000 in
theorem ggX11_turn_X6_has : GoodIn wsX11_turn wsX6_has := goodIn_r _ [20, 21, 48, 49, 50, 51] (by decide +kernel) (by decide +kernel)
set_option maxRecDepth 20000 in
theorem gX11_turn_X6_has : GoodIn wsX11_turn (wsV RX11 135 RX6 yX6_has wsX6_has) := goodIn_app (goodIn_of _ (by decide +kernel)) ggX11_turn_X6_has
set_option maxRecDepth 20000 in
theorem ggX11_turn_X6_turned : GoodIn wsX11_turn wsX6_turned := goodIn_r _ [25, 21, 26, 27, 48, 49, 50, 51] (by decide +kernel) (by decide +kernel)
set_option maxRecDepth 20000 in
theorem gX11_turn_X6_turned : GoodIn wsX11_turn (wsV RX11 140 RX6 yX6_turned wsX6_turned) := goodIn_app (goodIn_of _ (by decide +kernel)) ggX11_turn_X6_turned
theorem dX11_turn_0 : decode cX11_turn 0 = .ok (.aload_n 0, 1) := by decide +kernel
theorem dX11_turn_1 : decode cX11_turn 1 = .ok (.getfield 10, 3) := by decide +kernel
theorem dX11_turn_4 : decode cX11_turn 4 = .ok (.iload_n 1, 1) := by decide +kernel
theorem dX11_turn_5 : decode cX11_turn 5 = .ok (.invokevirtual 117, 3) := by decide +kernel
theorem dX11_turn_8 : decode cX11_turn 8 = .ok (.ifCond .eq 24, 3) := by decide +kernel
theorem dX11_turn_11 : decode cX11_turn 11 = .ok (.aload_n 0, 1) := by decide +kernel
theorem dX11_turn_12 : decode cX11_turn 12 = .ok (.getfield 10, 3) := by decide +kernel
theorem dX11_turn_15 : decode cX11_turn 15 = .ok (.iload_n 2, 1) := by decide +kernel
theorem dX11_turn_16 : decode cX11_turn 16 = .ok (.invokevirtual 117, 3) := by decide +kernel
theorem dX11_turn_19 : decode cX11_turn 19 = .ok (.ifCond .eq 13, 3) := by decide +kernel
theorem dX11_turn_22 : decode cX11_turn 22 = .ok (.iload_n 3, 1) := by decide +kernel
theorem dX11_turn_23 : decode cX11_turn 23 = .ok (.iconst 0, 1) := by decide +kernel
theorem dX11_turn_24 : decode cX11_turn 24 = .ok (.ldc 132, 2) := by decide +kernel
theorem dX11_turn_26 : decode cX11_turn 26 = .ok (.invokestatic 105, 3) := by decide +kernel
theorem dX11_turn_29 : decode cX11_turn 29 = .ok (.ifCond .ne 7, 3) := by decide +kernel
theorem dX11_turn_32 : decode cX11_turn 32 = .ok (.ldc2_w 133, 3) := by decide +kernel
theorem dX11_turn_35 : decode cX11_turn 35 = .ok (.lreturn, 1) := by decide +kernel
theorem dX11_turn_36 : decode cX11_turn 36 = .ok (.aload_n 0, 1) := by decide +kernel
theorem dX11_turn_37 : decode cX11_turn 37 = .ok (.getfield 19, 3) := by decide +kernel
theorem dX11_turn_40 : decode cX11_turn 40 = .ok (.iload_n 1, 1) := by decide +kernel
theorem dX11_turn_41 : decode cX11_turn 41 = .ok (.iload_n 2, 1) := by decide +kernel
theorem dX11_turn_42 : decode cX11_turn 42 = .ok (.invokevirtual 135, 3) := by decide +kernel
theorem dX11_turn_45 : decode cX11_turn 45 = .ok (.ifCond .ne 7, 3) := by decide +kernel
theorem dX11_turn_48 : decode cX11_turn 48 = .ok (.ldc2_w 138, 3) := by decide +kernel
theorem dX11_turn_51 : decode cX11_turn 51 = .ok (.lreturn, 1) := by decide +kernel
theorem dX11_turn_52 : decode cX11_turn 52 = .ok (.aload_n 0, 1) := by decide +kernel
theorem dX11_turn_53 : decode cX11_turn 53 = .ok (.getfield 19, 3) := by decide +kernel
theorem dX11_turn_56 : decode cX11_turn 56 = .ok (.iload_n 1, 1) := by decide +kernel
theorem dX11_turn_57 : decode cX11_turn 57 = .ok (.iload_n 2, 1) := by decide +kernel
theorem dX11_turn_58 : decode cX11_turn 58 = .ok (.iload_n 3, 1) := by decide +kernel
theorem dX11_turn_59 : decode cX11_turn 59 = .ok (.i2l, 1) := by decide +kernel
theorem dX11_turn_60 : decode cX11_turn 60 = .ok (.invokevirtual 140, 3) := by decide +kernel
theorem dX11_turn_63 : decode cX11_turn 63 = .ok (.lreturn, 1) := by decide +kernel
set_option maxRecDepth 20000 in
theorem ggX11_lost_X9_told : GoodIn wsX11_lost wsX9_told := goodIn_r _ [10, 11, 44, 45, 46, 47] (by decide +kernel) (by decide +kernel)
set_option maxRecDepth 20000 in
theorem gX11_lost_X9_told : GoodIn wsX11_lost (wsV RX11 117 RX9 yX9_told wsX9_told) := goodIn_app (goodIn_of _ (by decide +kernel)) ggX11_lost_X9_told
set_option maxRecDepth 20000 in
theorem ggX11_lost_X11_within : GoodIn wsX11_lost wsX11_within := goodIn_r _ [15] (by decide +kernel) (by decide +kernel)
set_option maxRecDepth 20000 in
theorem gX11_lost_X11_within : GoodIn wsX11_lost (va_wsS RX11 105 yX11_within wsX11_within) := goodIn_app (goodIn_of _ (by decide +kernel)) ggX11_lost_X11_within
set_option maxRecDepth 20000 in
theorem ggX11_lost_X6_has : GoodIn wsX11_lost wsX6_has := goodIn_r _ [20, 21, 48, 49, 50, 51] (by decide +kernel) (by decide +kernel)
set_option maxRecDepth 20000 in
theorem gX11_lost_X6_has : GoodIn wsX11_lost (wsV RX11 135 RX6 yX6_has wsX6_has) := goodIn_app (goodIn_of _ (by decide +kernel)) ggX11_lost_X6_has
set_option maxRecDepth 20000 in
theorem ggX11_lost_X6_turned : GoodIn wsX11_lost wsX6_turned := goodIn_r _ [25, 21, 26, 27, 48, 49, 50, 51] (by decide +kernel) (by decide +kernel)
set_option maxRecDepth 20000 in
theorem gX11_lost_X6_turned : GoodIn wsX11_lost (wsV RX11 140 RX6 yX6_turned wsX6_turned) := goodIn_app (goodIn_of _ (by decide +kernel)) ggX11_lost_X6_turned
theorem dX11_lost_0 : decode cX11_lost 0 = .ok (.aload_n 0, 1) := by decide +kernel
theorem dX11_lost_1 : decode cX11_lost 1 = .ok (.getfield 10, 3) := by decide +kernel
theorem dX11_lost_4 : decode cX11_lost 4 = .ok (.iload_n 1, 1) := by decide +kernel
theorem dX11_lost_5 : decode cX11_lost 5 = .ok (.invokevirtual 117, 3) := by decide +kernel
theorem dX11_lost_8 : decode cX11_lost 8 = .ok (.ifCond .eq 24, 3) := by decide +kernel
theorem dX11_lost_11 : decode cX11_lost 11 = .ok (.aload_n 0, 1) := by decide +kernel
theorem dX11_lost_12 : decode cX11_lost 12 = .ok (.getfield 10, 3) := by decide +kernel
theorem dX11_lost_15 : decode cX11_lost 15 = .ok (.iload_n 2, 1) := by decide +kernel
theorem dX11_lost_16 : decode cX11_lost 16 = .ok (.invokevirtual 117, 3) := by decide +kernel
theorem dX11_lost_19 : decode cX11_lost 19 = .ok (.ifCond .eq 13, 3) := by decide +kernel
theorem dX11_lost_22 : decode cX11_lost 22 = .ok (.iload_n 3, 1) := by decide +kernel
theorem dX11_lost_23 : decode cX11_lost 23 = .ok (.iconst 0, 1) := by decide +kernel
theorem dX11_lost_24 : decode cX11_lost 24 = .ok (.ldc 132, 2) := by decide +kernel
theorem dX11_lost_26 : decode cX11_lost 26 = .ok (.invokestatic 105, 3) := by decide +kernel
theorem dX11_lost_29 : decode cX11_lost 29 = .ok (.ifCond .ne 7, 3) := by decide +kernel
theorem dX11_lost_32 : decode cX11_lost 32 = .ok (.ldc2_w 144, 3) := by decide +kernel
theorem dX11_lost_35 : decode cX11_lost 35 = .ok (.lreturn, 1) := by decide +kernel
theorem dX11_lost_36 : decode cX11_lost 36 = .ok (.aload_n 0, 1) := by decide +kernel
theorem dX11_lost_37 : decode cX11_lost 37 = .ok (.getfield 19, 3) := by decide +kernel
theorem dX11_lost_40 : decode cX11_lost 40 = .ok (.iload_n 1, 1) := by decide +kernel
theorem dX11_lost_41 : decode cX11_lost 41 = .ok (.iload_n 2, 1) := by decide +kernel
theorem dX11_lost_42 : decode cX11_lost 42 = .ok (.invokevirtual 135, 3) := by decide +kernel
theorem dX11_lost_45 : decode cX11_lost 45 = .ok (.ifCond .eq 15, 3) := by decide +kernel
theorem dX11_lost_48 : decode cX11_lost 48 = .ok (.aload_n 0, 1) := by decide +kernel
theorem dX11_lost_49 : decode cX11_lost 49 = .ok (.getfield 19, 3) := by decide +kernel
theorem dX11_lost_52 : decode cX11_lost 52 = .ok (.iload_n 2, 1) := by decide +kernel
theorem dX11_lost_53 : decode cX11_lost 53 = .ok (.iload_n 1, 1) := by decide +kernel
theorem dX11_lost_54 : decode cX11_lost 54 = .ok (.invokevirtual 135, 3) := by decide +kernel
theorem dX11_lost_57 : decode cX11_lost 57 = .ok (.ifCond .ne 7, 3) := by decide +kernel
theorem dX11_lost_60 : decode cX11_lost 60 = .ok (.ldc2_w 146, 3) := by decide +kernel
theorem dX11_lost_63 : decode cX11_lost 63 = .ok (.lreturn, 1) := by decide +kernel
theorem dX11_lost_64 : decode cX11_lost 64 = .ok (.iload_n 3, 1) := by decide +kernel
theorem dX11_lost_65 : decode cX11_lost 65 = .ok (.i2l, 1) := by decide +kernel
theorem dX11_lost_66 : decode cX11_lost 66 = .ok (.aload_n 0, 1) := by decide +kernel
theorem dX11_lost_67 : decode cX11_lost 67 = .ok (.getfield 19, 3) := by decide +kernel
theorem dX11_lost_70 : decode cX11_lost 70 = .ok (.iload_n 2, 1) := by decide +kernel
theorem dX11_lost_71 : decode cX11_lost 71 = .ok (.iload_n 1, 1) := by decide +kernel
theorem dX11_lost_72 : decode cX11_lost 72 = .ok (.aload_n 0, 1) := by decide +kernel
theorem dX11_lost_73 : decode cX11_lost 73 = .ok (.getfield 19, 3) := by decide +kernel
theorem dX11_lost_76 : decode cX11_lost 76 = .ok (.iload_n 1, 1) := by decide +kernel
theorem dX11_lost_77 : decode cX11_lost 77 = .ok (.iload_n 2, 1) := by decide +kernel
theorem dX11_lost_78 : decode cX11_lost 78 = .ok (.iload_n 3, 1) := by decide +kernel
theorem dX11_lost_79 : decode cX11_lost 79 = .ok (.i2l, 1) := by decide +kernel
theorem dX11_lost_80 : decode cX11_lost 80 = .ok (.invokevirtual 140, 3) := by decide +kernel
theorem dX11_lost_83 : decode cX11_lost 83 = .ok (.invokevirtual 140, 3) := by decide +kernel
theorem dX11_lost_86 : decode cX11_lost 86 = .ok (.lsub, 1) := by decide +kernel
theorem dX11_lost_87 : decode cX11_lost 87 = .ok (.lreturn, 1) := by decide +kernel
set_option maxRecDepth 20000 in
theorem ggX11_best_X10_find : GoodIn wsX11_best wsX10_find := goodIn_r _ [12, 13, 14, 15, 16, 17, 18, 19, 11, 20, 21, 22, 23, 24, 25, 26, 27, 28, 29, 30, 31, 32, 33, 34, 35, 36, 37, 38, 55, 56, 57, 58, 59, 60, 61, 62, 63] (by decide +kernel) (by decide +kernel)
set_option maxRecDepth 20000 in
theorem gX11_best_X10_find : GoodIn wsX11_best (wsV RX11 148 RX10 yX10_find wsX10_find) := goodIn_app (goodIn_of _ (by decide +kernel)) ggX11_best_X10_find
theorem dX11_best_0 : decode cX11_best 0 = .ok (.iload_n 1, 1) := by decide +kernel
theorem dX11_best_1 : decode cX11_best 1 = .ok (.bipush (-2), 2) := by decide +kernel
theorem dX11_best_3 : decode cX11_best 3 = .ok (.if_icmp .ge 7, 3) := by decide +kernel
theorem dX11_best_6 : decode cX11_best 6 = .ok (.ldc2_w 133, 3) := by decide +kernel
theorem dX11_best_9 : decode cX11_best 9 = .ok (.lreturn, 1) := by decide +kernel
theorem dX11_best_10 : decode cX11_best 10 = .ok (.aload_n 0, 1) := by decide +kernel
theorem dX11_best_11 : decode cX11_best 11 = .ok (.getfield 26, 3) := by decide +kernel
theorem dX11_best_14 : decode cX11_best 14 = .ok (.aload_n 0, 1) := by decide +kernel
theorem dX11_best_15 : decode cX11_best 15 = .ok (.getfield 19, 3) := by decide +kernel
theorem dX11_best_18 : decode cX11_best 18 = .ok (.invokevirtual 148, 3) := by decide +kernel
theorem dX11_best_21 : decode cX11_best 21 = .ok (.aload_n 0, 1) := by decide +kernel
theorem dX11_best_22 : decode cX11_best 22 = .ok (.getfield 26, 3) := by decide +kernel
theorem dX11_best_25 : decode cX11_best 25 = .ok (.getfield 152, 3) := by decide +kernel
theorem dX11_best_28 : decode cX11_best 28 = .ok (.ifCond .ne 7, 3) := by decide +kernel
theorem dX11_best_31 : decode cX11_best 31 = .ok (.ldc2_w 155, 3) := by decide +kernel
theorem dX11_best_34 : decode cX11_best 34 = .ok (.lreturn, 1) := by decide +kernel
theorem dX11_best_35 : decode cX11_best 35 = .ok (.iload_n 1, 1) := by decide +kernel
theorem dX11_best_36 : decode cX11_best 36 = .ok (.iconst (-1), 1) := by decide +kernel
theorem dX11_best_37 : decode cX11_best 37 = .ok (.if_icmp .ne 11, 3) := by decide +kernel
theorem dX11_best_40 : decode cX11_best 40 = .ok (.aload_n 0, 1) := by decide +kernel
theorem dX11_best_41 : decode cX11_best 41 = .ok (.getfield 26, 3) := by decide +kernel
theorem dX11_best_44 : decode cX11_best 44 = .ok (.getfield 157, 3) := by decide +kernel
theorem dX11_best_47 : decode cX11_best 47 = .ok (.lreturn, 1) := by decide +kernel
theorem dX11_best_48 : decode cX11_best 48 = .ok (.iload_n 1, 1) := by decide +kernel
theorem dX11_best_49 : decode cX11_best 49 = .ok (.bipush (-2), 2) := by decide +kernel
theorem dX11_best_51 : decode cX11_best 51 = .ok (.if_icmp .ne 12, 3) := by decide +kernel
theorem dX11_best_54 : decode cX11_best 54 = .ok (.aload_n 0, 1) := by decide +kernel
theorem dX11_best_55 : decode cX11_best 55 = .ok (.getfield 26, 3) := by decide +kernel
theorem dX11_best_58 : decode cX11_best 58 = .ok (.getfield 152, 3) := by decide +kernel
theorem dX11_best_61 : decode cX11_best 61 = .ok (.i2l, 1) := by decide +kernel
theorem dX11_best_62 : decode cX11_best 62 = .ok (.lreturn, 1) := by decide +kernel
theorem dX11_best_63 : decode cX11_best 63 = .ok (.iload_n 1, 1) := by decide +kernel
theorem dX11_best_64 : decode cX11_best 64 = .ok (.aload_n 0, 1) := by decide +kernel
theorem dX11_best_65 : decode cX11_best 65 = .ok (.getfield 26, 3) := by decide +kernel
theorem dX11_best_68 : decode cX11_best 68 = .ok (.getfield 152, 3) := by decide +kernel
theorem dX11_best_71 : decode cX11_best 71 = .ok (.if_icmp .ge 16, 3) := by decide +kernel
theorem dX11_best_74 : decode cX11_best 74 = .ok (.aload_n 0, 1) := by decide +kernel
theorem dX11_best_75 : decode cX11_best 75 = .ok (.getfield 26, 3) := by decide +kernel
theorem dX11_best_78 : decode cX11_best 78 = .ok (.getfield 161, 3) := by decide +kernel
theorem dX11_best_81 : decode cX11_best 81 = .ok (.iload_n 1, 1) := by decide +kernel
theorem dX11_best_82 : decode cX11_best 82 = .ok (.iaload, 1) := by decide +kernel
theorem dX11_best_83 : decode cX11_best 83 = .ok (.i2l, 1) := by decide +kernel
theorem dX11_best_84 : decode cX11_best 84 = .ok (.goto 6, 3) := by decide +kernel
theorem dX11_best_87 : decode cX11_best 87 = .ok (.ldc2_w 155, 3) := by decide +kernel
theorem dX11_best_90 : decode cX11_best 90 = .ok (.lreturn, 1) := by decide +kernel
set_option maxRecDepth 20000 in
theorem ggX11_chain_X11_within : GoodIn wsX11_chain wsX11_within := goodIn_r _ [7] (by decide +kernel) (by decide +kernel)
set_option maxRecDepth 20000 in
theorem gX11_chain_X11_within : GoodIn wsX11_chain (va_wsS RX11 105 yX11_within wsX11_within) := goodIn_app (goodIn_of _ (by decide +kernel)) ggX11_chain_X11_within
set_option maxRecDepth 20000 in
theorem ggX11_chain_X2_add : GoodIn wsX11_chain wsX2_add := goodIn_r _ [12, 13, 14, 15, 16, 33, 34, 35, 36, 37, 38] (by decide +kernel) (by decide +kernel)
set_option maxRecDepth 20000 in
theorem gX11_chain_X2_add : GoodIn wsX11_chain (wsV RX11 165 RX2 yX2_add wsX2_add) := goodIn_app (goodIn_of _ (by decide +kernel)) ggX11_chain_X2_add
theorem dX11_chain_0 : decode cX11_chain 0 = .ok (.iload_n 1, 1) := by decide +kernel
theorem dX11_chain_1 : decode cX11_chain 1 = .ok (.iconst 0, 1) := by decide +kernel
theorem dX11_chain_2 : decode cX11_chain 2 = .ok (.iconst 1, 1) := by decide +kernel
theorem dX11_chain_3 : decode cX11_chain 3 = .ok (.invokestatic 105, 3) := by decide +kernel
theorem dX11_chain_6 : decode cX11_chain 6 = .ok (.ifCond .eq 24, 3) := by decide +kernel
theorem dX11_chain_9 : decode cX11_chain 9 = .ok (.iload_n 2, 1) := by decide +kernel
theorem dX11_chain_10 : decode cX11_chain 10 = .ok (.iconst 1, 1) := by decide +kernel
theorem dX11_chain_11 : decode cX11_chain 11 = .ok (.ldc 109, 2) := by decide +kernel
theorem dX11_chain_13 : decode cX11_chain 13 = .ok (.invokestatic 105, 3) := by decide +kernel
theorem dX11_chain_16 : decode cX11_chain 16 = .ok (.ifCond .eq 14, 3) := by decide +kernel
theorem dX11_chain_19 : decode cX11_chain 19 = .ok (.iload_n 3, 1) := by decide +kernel
theorem dX11_chain_20 : decode cX11_chain 20 = .ok (.iconst 1, 1) := by decide +kernel
theorem dX11_chain_21 : decode cX11_chain 21 = .ok (.sipush 1000, 3) := by decide +kernel
theorem dX11_chain_24 : decode cX11_chain 24 = .ok (.invokestatic 105, 3) := by decide +kernel
theorem dX11_chain_27 : decode cX11_chain 27 = .ok (.ifCond .ne 5, 3) := by decide +kernel
theorem dX11_chain_30 : decode cX11_chain 30 = .ok (.iconst (-1), 1) := by decide +kernel
theorem dX11_chain_31 : decode cX11_chain 31 = .ok (.ireturn, 1) := by decide +kernel
theorem dX11_chain_32 : decode cX11_chain 32 = .ok (.aload_n 0, 1) := by decide +kernel
theorem dX11_chain_33 : decode cX11_chain 33 = .ok (.getfield 33, 3) := by decide +kernel
theorem dX11_chain_36 : decode cX11_chain 36 = .ok (.getfield 164, 3) := by decide +kernel
theorem dX11_chain_39 : decode cX11_chain 39 = .ok (.bipush 12, 2) := by decide +kernel
theorem dX11_chain_41 : decode cX11_chain 41 = .ok (.if_icmp .lt 6, 3) := by decide +kernel
theorem dX11_chain_44 : decode cX11_chain 44 = .ok (.bipush (-3), 2) := by decide +kernel
theorem dX11_chain_46 : decode cX11_chain 46 = .ok (.ireturn, 1) := by decide +kernel
theorem dX11_chain_47 : decode cX11_chain 47 = .ok (.aload_n 0, 1) := by decide +kernel
theorem dX11_chain_48 : decode cX11_chain 48 = .ok (.getfield 33, 3) := by decide +kernel
theorem dX11_chain_51 : decode cX11_chain 51 = .ok (.iload_n 1, 1) := by decide +kernel
theorem dX11_chain_52 : decode cX11_chain 52 = .ok (.iload_n 2, 1) := by decide +kernel
theorem dX11_chain_53 : decode cX11_chain 53 = .ok (.iload_n 3, 1) := by decide +kernel
theorem dX11_chain_54 : decode cX11_chain 54 = .ok (.invokevirtual 165, 3) := by decide +kernel
theorem dX11_chain_57 : decode cX11_chain 57 = .ok (.ireturn, 1) := by decide +kernel
set_option maxRecDepth 20000 in
theorem ggX11_earth_X11_within : GoodIn wsX11_earth wsX11_within := goodIn_r _ [9] (by decide +kernel) (by decide +kernel)
set_option maxRecDepth 20000 in
theorem gX11_earth_X11_within : GoodIn wsX11_earth (va_wsS RX11 105 yX11_within wsX11_within) := goodIn_app (goodIn_of _ (by decide +kernel)) ggX11_earth_X11_within
set_option maxRecDepth 20000 in
theorem ggX11_earth_X2_reckon : GoodIn wsX11_earth wsX2_reckon := goodIn_r _ [14, 15, 16, 17, 18, 19, 20, 21, 22, 23, 13, 24, 25, 26, 27, 28, 29, 30, 31, 32, 33, 34, 35, 36, 37, 54, 55, 56, 57, 58, 59] (by decide +kernel) (by decide +kernel)
set_option maxRecDepth 20000 in
theorem gX11_earth_X2_reckon : GoodIn wsX11_earth (wsV RX11 166 RX2 yX2_reckon wsX2_reckon) := goodIn_app (goodIn_of _ (by decide +kernel)) ggX11_earth_X2_reckon
theorem dX11_earth_0 : decode cX11_earth 0 = .ok (.iload_n 1, 1) := by decide +kernel
theorem dX11_earth_1 : decode cX11_earth 1 = .ok (.iconst 0, 1) := by decide +kernel
theorem dX11_earth_2 : decode cX11_earth 2 = .ok (.iconst 4, 1) := by decide +kernel
theorem dX11_earth_3 : decode cX11_earth 3 = .ok (.invokestatic 105, 3) := by decide +kernel
theorem dX11_earth_6 : decode cX11_earth 6 = .ok (.ifCond .eq 12, 3) := by decide +kernel
theorem dX11_earth_9 : decode cX11_earth 9 = .ok (.iload_n 2, 1) := by decide +kernel
theorem dX11_earth_10 : decode cX11_earth 10 = .ok (.iconst 0, 1) := by decide +kernel
theorem dX11_earth_11 : decode cX11_earth 11 = .ok (.iconst 1, 1) := by decide +kernel
theorem dX11_earth_12 : decode cX11_earth 12 = .ok (.invokestatic 105, 3) := by decide +kernel
theorem dX11_earth_15 : decode cX11_earth 15 = .ok (.ifCond .ne 7, 3) := by decide +kernel
theorem dX11_earth_18 : decode cX11_earth 18 = .ok (.ldc2_w 133, 3) := by decide +kernel
theorem dX11_earth_21 : decode cX11_earth 21 = .ok (.lreturn, 1) := by decide +kernel
theorem dX11_earth_22 : decode cX11_earth 22 = .ok (.aload_n 0, 1) := by decide +kernel
theorem dX11_earth_23 : decode cX11_earth 23 = .ok (.getfield 33, 3) := by decide +kernel
theorem dX11_earth_26 : decode cX11_earth 26 = .ok (.iload_n 1, 1) := by decide +kernel
theorem dX11_earth_27 : decode cX11_earth 27 = .ok (.invokevirtual 166, 3) := by decide +kernel
theorem dX11_earth_30 : decode cX11_earth 30 = .ok (.ifCond .ne 7, 3) := by decide +kernel
theorem dX11_earth_33 : decode cX11_earth 33 = .ok (.ldc2_w 155, 3) := by decide +kernel
theorem dX11_earth_36 : decode cX11_earth 36 = .ok (.lreturn, 1) := by decide +kernel
theorem dX11_earth_37 : decode cX11_earth 37 = .ok (.iload_n 2, 1) := by decide +kernel
theorem dX11_earth_38 : decode cX11_earth 38 = .ok (.ifCond .ne 13, 3) := by decide +kernel
theorem dX11_earth_41 : decode cX11_earth 41 = .ok (.aload_n 0, 1) := by decide +kernel
theorem dX11_earth_42 : decode cX11_earth 42 = .ok (.getfield 33, 3) := by decide +kernel
theorem dX11_earth_45 : decode cX11_earth 45 = .ok (.getfield 169, 3) := by decide +kernel
theorem dX11_earth_48 : decode cX11_earth 48 = .ok (.goto 10, 3) := by decide +kernel
theorem dX11_earth_51 : decode cX11_earth 51 = .ok (.aload_n 0, 1) := by decide +kernel
theorem dX11_earth_52 : decode cX11_earth 52 = .ok (.getfield 33, 3) := by decide +kernel
theorem dX11_earth_55 : decode cX11_earth 55 = .ok (.getfield 172, 3) := by decide +kernel
theorem dX11_earth_58 : decode cX11_earth 58 = .ok (.lreturn, 1) := by decide +kernel
set_option maxRecDepth 20000 in
theorem ggX11_trial_X9_told : GoodIn wsX11_trial wsX9_told := goodIn_r _ [9, 10, 57, 58, 59, 60] (by decide +kernel) (by decide +kernel)
set_option maxRecDepth 20000 in
theorem gX11_trial_X9_told : GoodIn wsX11_trial (wsV RX11 117 RX9 yX9_told wsX9_told) := goodIn_app (goodIn_of _ (by decide +kernel)) ggX11_trial_X9_told
set_option maxRecDepth 20000 in
theorem ggX11_trial_X11_within : GoodIn wsX11_trial wsX11_within := goodIn_r _ [14] (by decide +kernel) (by decide +kernel)
set_option maxRecDepth 20000 in
theorem gX11_trial_X11_within : GoodIn wsX11_trial (va_wsS RX11 105 yX11_within wsX11_within) := goodIn_app (goodIn_of _ (by decide +kernel)) ggX11_trial_X11_within
set_option maxRecDepth 20000 in
theorem ggX11_trial_X9_alike : GoodIn wsX11_trial wsX9_alike := goodIn_r _ [18, 19, 57, 58, 59, 60] (by decide +kernel) (by decide +kernel)
set_option maxRecDepth 20000 in
theorem gX11_trial_X9_alike : GoodIn wsX11_trial (wsV RX11 121 RX9 yX9_alike wsX9_alike) := goodIn_app (goodIn_of _ (by decide +kernel)) ggX11_trial_X9_alike
set_option maxRecDepth 20000 in
theorem ggX11_trial_X8_add : GoodIn wsX11_trial wsX8_add := goodIn_r _ [24, 25, 26, 27, 28, 29, 30, 47, 48, 49, 50, 51, 52, 53, 54, 55, 56] (by decide +kernel) (by decide +kernel)
set_option maxRecDepth 20000 in
theorem gX11_trial_X8_add : GoodIn wsX11_trial (wsV RX11 176 RX8 yX8_add wsX8_add) := goodIn_app (goodIn_of _ (by decide +kernel)) ggX11_trial_X8_add
theorem dX11_trial_0 : decode cX11_trial 0 = .ok (.aload_n 0, 1) := by decide +kernel
theorem dX11_trial_1 : decode cX11_trial 1 = .ok (.getfield 10, 3) := by decide +kernel
theorem dX11_trial_4 : decode cX11_trial 4 = .ok (.iload_n 1, 1) := by decide +kernel
theorem dX11_trial_5 : decode cX11_trial 5 = .ok (.invokevirtual 117, 3) := by decide +kernel
theorem dX11_trial_8 : decode cX11_trial 8 = .ok (.ifCond .eq 25, 3) := by decide +kernel
theorem dX11_trial_11 : decode cX11_trial 11 = .ok (.aload_n 0, 1) := by decide +kernel
theorem dX11_trial_12 : decode cX11_trial 12 = .ok (.getfield 10, 3) := by decide +kernel
theorem dX11_trial_15 : decode cX11_trial 15 = .ok (.iload_n 2, 1) := by decide +kernel
theorem dX11_trial_16 : decode cX11_trial 16 = .ok (.invokevirtual 117, 3) := by decide +kernel
theorem dX11_trial_19 : decode cX11_trial 19 = .ok (.ifCond .eq 14, 3) := by decide +kernel
theorem dX11_trial_22 : decode cX11_trial 22 = .ok (.iload 5, 2) := by decide +kernel
theorem dX11_trial_24 : decode cX11_trial 24 = .ok (.iconst 0, 1) := by decide +kernel
theorem dX11_trial_25 : decode cX11_trial 25 = .ok (.ldc 109, 2) := by decide +kernel
theorem dX11_trial_27 : decode cX11_trial 27 = .ok (.invokestatic 105, 3) := by decide +kernel
theorem dX11_trial_30 : decode cX11_trial 30 = .ok (.ifCond .ne 5, 3) := by decide +kernel
theorem dX11_trial_33 : decode cX11_trial 33 = .ok (.iconst (-1), 1) := by decide +kernel
theorem dX11_trial_34 : decode cX11_trial 34 = .ok (.ireturn, 1) := by decide +kernel
theorem dX11_trial_35 : decode cX11_trial 35 = .ok (.iload_n 3, 1) := by decide +kernel
theorem dX11_trial_36 : decode cX11_trial 36 = .ok (.iconst 1, 1) := by decide +kernel
theorem dX11_trial_37 : decode cX11_trial 37 = .ok (.sipush 10000, 3) := by decide +kernel
theorem dX11_trial_40 : decode cX11_trial 40 = .ok (.invokestatic 105, 3) := by decide +kernel
theorem dX11_trial_43 : decode cX11_trial 43 = .ok (.ifCond .eq 15, 3) := by decide +kernel
theorem dX11_trial_46 : decode cX11_trial 46 = .ok (.iload 4, 2) := by decide +kernel
theorem dX11_trial_48 : decode cX11_trial 48 = .ok (.iconst 1, 1) := by decide +kernel
theorem dX11_trial_49 : decode cX11_trial 49 = .ok (.sipush 10000, 3) := by decide +kernel
theorem dX11_trial_52 : decode cX11_trial 52 = .ok (.invokestatic 105, 3) := by decide +kernel
theorem dX11_trial_55 : decode cX11_trial 55 = .ok (.ifCond .ne 5, 3) := by decide +kernel
theorem dX11_trial_58 : decode cX11_trial 58 = .ok (.iconst (-1), 1) := by decide +kernel
theorem dX11_trial_59 : decode cX11_trial 59 = .ok (.ireturn, 1) := by decide +kernel
theorem dX11_trial_60 : decode cX11_trial 60 = .ok (.iload_n 1, 1) := by decide +kernel
theorem dX11_trial_61 : decode cX11_trial 61 = .ok (.iload_n 2, 1) := by decide +kernel
theorem dX11_trial_62 : decode cX11_trial 62 = .ok (.if_icmp .eq 15, 3) := by decide +kernel
theorem dX11_trial_65 : decode cX11_trial 65 = .ok (.aload_n 0, 1) := by decide +kernel
theorem dX11_trial_66 : decode cX11_trial 66 = .ok (.getfield 10, 3) := by decide +kernel
theorem dX11_trial_69 : decode cX11_trial 69 = .ok (.iload_n 1, 1) := by decide +kernel
theorem dX11_trial_70 : decode cX11_trial 70 = .ok (.iload_n 2, 1) := by decide +kernel
theorem dX11_trial_71 : decode cX11_trial 71 = .ok (.invokevirtual 121, 3) := by decide +kernel
theorem dX11_trial_74 : decode cX11_trial 74 = .ok (.ifCond .ne 6, 3) := by decide +kernel
theorem dX11_trial_77 : decode cX11_trial 77 = .ok (.bipush (-2), 2) := by decide +kernel
theorem dX11_trial_79 : decode cX11_trial 79 = .ok (.ireturn, 1) := by decide +kernel
theorem dX11_trial_80 : decode cX11_trial 80 = .ok (.aload_n 0, 1) := by decide +kernel
theorem dX11_trial_81 : decode cX11_trial 81 = .ok (.getfield 40, 3) := by decide +kernel
theorem dX11_trial_84 : decode cX11_trial 84 = .ok (.getfield 175, 3) := by decide +kernel
theorem dX11_trial_87 : decode cX11_trial 87 = .ok (.bipush 30, 2) := by decide +kernel
theorem dX11_trial_89 : decode cX11_trial 89 = .ok (.if_icmp .lt 6, 3) := by decide +kernel
theorem dX11_trial_92 : decode cX11_trial 92 = .ok (.bipush (-3), 2) := by decide +kernel
theorem dX11_trial_94 : decode cX11_trial 94 = .ok (.ireturn, 1) := by decide +kernel
theorem dX11_trial_95 : decode cX11_trial 95 = .ok (.aload_n 0, 1) := by decide +kernel
theorem dX11_trial_96 : decode cX11_trial 96 = .ok (.getfield 40, 3) := by decide +kernel
theorem dX11_trial_99 : decode cX11_trial 99 = .ok (.iload_n 1, 1) := by decide +kernel
theorem dX11_trial_100 : decode cX11_trial 100 = .ok (.iload_n 2, 1) := by decide +kernel
theorem dX11_trial_101 : decode cX11_trial 101 = .ok (.iload_n 3, 1) := by decide +kernel
theorem dX11_trial_102 : decode cX11_trial 102 = .ok (.iload 4, 2) := by decide +kernel
theorem dX11_trial_104 : decode cX11_trial 104 = .ok (.iload 5, 2) := by decide +kernel
theorem dX11_trial_106 : decode cX11_trial 106 = .ok (.invokevirtual 176, 3) := by decide +kernel
theorem dX11_trial_109 : decode cX11_trial 109 = .ok (.ireturn, 1) := by decide +kernel
set_option maxRecDepth 20000 in
theorem ggX11_span_X9_told : GoodIn wsX11_span wsX9_told := goodIn_r _ [12, 13, 85, 86, 87, 88] (by decide +kernel) (by decide +kernel)
set_option maxRecDepth 20000 in
theorem gX11_span_X9_told : GoodIn wsX11_span (wsV RX11 117 RX9 yX9_told wsX9_told) := goodIn_app (goodIn_of _ (by decide +kernel)) ggX11_span_X9_told
set_option maxRecDepth 20000 in
theorem ggX11_span_X11_within : GoodIn wsX11_span wsX11_within := goodIn_r _ [17] (by decide +kernel) (by decide +kernel)
set_option maxRecDepth 20000 in
theorem gX11_span_X11_within : GoodIn wsX11_span (va_wsS RX11 105 yX11_within wsX11_within) := goodIn_app (goodIn_of _ (by decide +kernel)) ggX11_span_X11_within
set_option maxRecDepth 20000 in
theorem ggX11_span_X9_alike : GoodIn wsX11_span wsX9_alike := goodIn_r _ [21, 22, 85, 86, 87, 88] (by decide +kernel) (by decide +kernel)
set_option maxRecDepth 20000 in
theorem gX11_span_X9_alike : GoodIn wsX11_span (wsV RX11 121 RX9 yX9_alike wsX9_alike) := goodIn_app (goodIn_of _ (by decide +kernel)) ggX11_span_X9_alike
set_option maxRecDepth 20000 in
theorem ggX11_span_X8_narrow : GoodIn wsX11_span wsX8_narrow := goodIn_r _ [27, 28, 29, 30, 31, 32, 33, 34, 35, 36, 37, 38, 39, 26, 40, 41, 42, 43, 44, 45, 46, 47, 75, 76, 77, 78, 79, 80, 81, 82, 83, 84] (by decide +kernel) (by decide +kernel)
set_option maxRecDepth 20000 in
theorem gX11_span_X8_narrow : GoodIn wsX11_span (wsV RX11 179 RX8 yX8_narrow wsX8_narrow) := goodIn_app (goodIn_of _ (by decide +kernel)) ggX11_span_X8_narrow
set_option maxRecDepth 20000 in
theorem ggX11_span_X8_divide : GoodIn wsX11_span wsX8_divide := goodIn_r _ [51, 52, 53, 54, 55, 56, 57, 26, 58, 30, 28, 45, 46, 43, 47, 41, 42, 44, 75, 76, 77, 78, 79, 80, 81, 82, 83, 84] (by decide +kernel) (by decide +kernel)
set_option maxRecDepth 20000 in
theorem gX11_span_X8_divide : GoodIn wsX11_span (wsV RX11 189 RX8 yX8_divide wsX8_divide) := goodIn_app (goodIn_of _ (by decide +kernel)) ggX11_span_X8_divide
theorem dX11_span_0 : decode cX11_span 0 = .ok (.aload_n 0, 1) := by decide +kernel
theorem dX11_span_1 : decode cX11_span 1 = .ok (.getfield 10, 3) := by decide +kernel
theorem dX11_span_4 : decode cX11_span 4 = .ok (.iload_n 1, 1) := by decide +kernel
theorem dX11_span_5 : decode cX11_span 5 = .ok (.invokevirtual 117, 3) := by decide +kernel
theorem dX11_span_8 : decode cX11_span 8 = .ok (.ifCond .eq 34, 3) := by decide +kernel
theorem dX11_span_11 : decode cX11_span 11 = .ok (.aload_n 0, 1) := by decide +kernel
theorem dX11_span_12 : decode cX11_span 12 = .ok (.getfield 10, 3) := by decide +kernel
theorem dX11_span_15 : decode cX11_span 15 = .ok (.iload_n 2, 1) := by decide +kernel
theorem dX11_span_16 : decode cX11_span 16 = .ok (.invokevirtual 117, 3) := by decide +kernel
theorem dX11_span_19 : decode cX11_span 19 = .ok (.ifCond .eq 23, 3) := by decide +kernel
theorem dX11_span_22 : decode cX11_span 22 = .ok (.iload_n 3, 1) := by decide +kernel
theorem dX11_span_23 : decode cX11_span 23 = .ok (.iconst 1, 1) := by decide +kernel
theorem dX11_span_24 : decode cX11_span 24 = .ok (.ldc 109, 2) := by decide +kernel
theorem dX11_span_26 : decode cX11_span 26 = .ok (.invokestatic 105, 3) := by decide +kernel
theorem dX11_span_29 : decode cX11_span 29 = .ok (.ifCond .eq 13, 3) := by decide +kernel
theorem dX11_span_32 : decode cX11_span 32 = .ok (.iload 4, 2) := by decide +kernel
theorem dX11_span_34 : decode cX11_span 34 = .ok (.iconst 0, 1) := by decide +kernel
theorem dX11_span_35 : decode cX11_span 35 = .ok (.iconst 3, 1) := by decide +kernel
theorem dX11_span_36 : decode cX11_span 36 = .ok (.invokestatic 105, 3) := by decide +kernel
theorem dX11_span_39 : decode cX11_span 39 = .ok (.ifCond .ne 5, 3) := by decide +kernel
theorem dX11_span_42 : decode cX11_span 42 = .ok (.iconst (-1), 1) := by decide +kernel
theorem dX11_span_43 : decode cX11_span 43 = .ok (.ireturn, 1) := by decide +kernel
theorem dX11_span_44 : decode cX11_span 44 = .ok (.iload_n 1, 1) := by decide +kernel
theorem dX11_span_45 : decode cX11_span 45 = .ok (.iload_n 2, 1) := by decide +kernel
theorem dX11_span_46 : decode cX11_span 46 = .ok (.if_icmp .eq 15, 3) := by decide +kernel
theorem dX11_span_49 : decode cX11_span 49 = .ok (.aload_n 0, 1) := by decide +kernel
theorem dX11_span_50 : decode cX11_span 50 = .ok (.getfield 10, 3) := by decide +kernel
theorem dX11_span_53 : decode cX11_span 53 = .ok (.iload_n 1, 1) := by decide +kernel
theorem dX11_span_54 : decode cX11_span 54 = .ok (.iload_n 2, 1) := by decide +kernel
theorem dX11_span_55 : decode cX11_span 55 = .ok (.invokevirtual 121, 3) := by decide +kernel
theorem dX11_span_58 : decode cX11_span 58 = .ok (.ifCond .ne 6, 3) := by decide +kernel
theorem dX11_span_61 : decode cX11_span 61 = .ok (.bipush (-2), 2) := by decide +kernel
theorem dX11_span_63 : decode cX11_span 63 = .ok (.ireturn, 1) := by decide +kernel
theorem dX11_span_64 : decode cX11_span 64 = .ok (.aload_n 0, 1) := by decide +kernel
theorem dX11_span_65 : decode cX11_span 65 = .ok (.getfield 40, 3) := by decide +kernel
theorem dX11_span_68 : decode cX11_span 68 = .ok (.iload_n 1, 1) := by decide +kernel
theorem dX11_span_69 : decode cX11_span 69 = .ok (.iload_n 2, 1) := by decide +kernel
theorem dX11_span_70 : decode cX11_span 70 = .ok (.iload_n 3, 1) := by decide +kernel
theorem dX11_span_71 : decode cX11_span 71 = .ok (.i2l, 1) := by decide +kernel
theorem dX11_span_72 : decode cX11_span 72 = .ok (.invokevirtual 179, 3) := by decide +kernel
theorem dX11_span_75 : decode cX11_span 75 = .ok (.aload_n 0, 1) := by decide +kernel
theorem dX11_span_76 : decode cX11_span 76 = .ok (.getfield 40, 3) := by decide +kernel
theorem dX11_span_79 : decode cX11_span 79 = .ok (.getfield 183, 3) := by decide +kernel
theorem dX11_span_82 : decode cX11_span 82 = .ok (.aload_n 0, 1) := by decide +kernel
theorem dX11_span_83 : decode cX11_span 83 = .ok (.getfield 40, 3) := by decide +kernel
theorem dX11_span_86 : decode cX11_span 86 = .ok (.getfield 186, 3) := by decide +kernel
theorem dX11_span_89 : decode cX11_span 89 = .ok (.lcmp, 1) := by decide +kernel
theorem dX11_span_90 : decode cX11_span 90 = .ok (.ifCond .le 6, 3) := by decide +kernel
theorem dX11_span_93 : decode cX11_span 93 = .ok (.bipush (-4), 2) := by decide +kernel
theorem dX11_span_95 : decode cX11_span 95 = .ok (.ireturn, 1) := by decide +kernel
theorem dX11_span_96 : decode cX11_span 96 = .ok (.iload 4, 2) := by decide +kernel
theorem dX11_span_98 : decode cX11_span 98 = .ok (.ifCond .ne 12, 3) := by decide +kernel
theorem dX11_span_101 : decode cX11_span 101 = .ok (.aload_n 0, 1) := by decide +kernel
theorem dX11_span_102 : decode cX11_span 102 = .ok (.getfield 40, 3) := by decide +kernel
theorem dX11_span_105 : decode cX11_span 105 = .ok (.getfield 183, 3) := by decide +kernel
theorem dX11_span_108 : decode cX11_span 108 = .ok (.l2i, 1) := by decide +kernel
theorem dX11_span_109 : decode cX11_span 109 = .ok (.ireturn, 1) := by decide +kernel
theorem dX11_span_110 : decode cX11_span 110 = .ok (.iload 4, 2) := by decide +kernel
theorem dX11_span_112 : decode cX11_span 112 = .ok (.iconst 1, 1) := by decide +kernel
theorem dX11_span_113 : decode cX11_span 113 = .ok (.if_icmp .ne 12, 3) := by decide +kernel
theorem dX11_span_116 : decode cX11_span 116 = .ok (.aload_n 0, 1) := by decide +kernel
theorem dX11_span_117 : decode cX11_span 117 = .ok (.getfield 40, 3) := by decide +kernel
theorem dX11_span_120 : decode cX11_span 120 = .ok (.getfield 186, 3) := by decide +kernel
theorem dX11_span_123 : decode cX11_span 123 = .ok (.l2i, 1) := by decide +kernel
theorem dX11_span_124 : decode cX11_span 124 = .ok (.ireturn, 1) := by decide +kernel
theorem dX11_span_125 : decode cX11_span 125 = .ok (.aload_n 0, 1) := by decide +kernel
theorem dX11_span_126 : decode cX11_span 126 = .ok (.getfield 40, 3) := by decide +kernel
theorem dX11_span_129 : decode cX11_span 129 = .ok (.iload_n 3, 1) := by decide +kernel
theorem dX11_span_130 : decode cX11_span 130 = .ok (.i2l, 1) := by decide +kernel
theorem dX11_span_131 : decode cX11_span 131 = .ok (.invokevirtual 189, 3) := by decide +kernel
theorem dX11_span_134 : decode cX11_span 134 = .ok (.iload 4, 2) := by decide +kernel
theorem dX11_span_136 : decode cX11_span 136 = .ok (.iconst 2, 1) := by decide +kernel
theorem dX11_span_137 : decode cX11_span 137 = .ok (.if_icmp .ne 13, 3) := by decide +kernel
theorem dX11_span_140 : decode cX11_span 140 = .ok (.aload_n 0, 1) := by decide +kernel
theorem dX11_span_141 : decode cX11_span 141 = .ok (.getfield 40, 3) := by decide +kernel
theorem dX11_span_144 : decode cX11_span 144 = .ok (.getfield 193, 3) := by decide +kernel
theorem dX11_span_147 : decode cX11_span 147 = .ok (.goto 10, 3) := by decide +kernel
theorem dX11_span_150 : decode cX11_span 150 = .ok (.aload_n 0, 1) := by decide +kernel
theorem dX11_span_151 : decode cX11_span 151 = .ok (.getfield 40, 3) := by decide +kernel
theorem dX11_span_154 : decode cX11_span 154 = .ok (.getfield 196, 3) := by decide +kernel
theorem dX11_span_157 : decode cX11_span 157 = .ok (.ireturn, 1) := by decide +kernel
set_option maxRecDepth 20000 in
theorem ggX11_write_X11_within : GoodIn wsX11_write wsX11_within := goodIn_r _ [6] (by decide +kernel) (by decide +kernel)
set_option maxRecDepth 20000 in
theorem gX11_write_X11_within : GoodIn wsX11_write (va_wsS RX11 105 yX11_within wsX11_within) := goodIn_app (goodIn_of _ (by decide +kernel)) ggX11_write_X11_within
set_option maxRecDepth 20000 in
theorem ggX11_write_X5_add : GoodIn wsX11_write wsX5_add := goodIn_r _ [11, 12, 13, 14, 31, 32, 33, 34] (by decide +kernel) (by decide +kernel)
set_option maxRecDepth 20000 in
theorem gX11_write_X5_add : GoodIn wsX11_write (wsV RX11 200 RX5 yX5_add wsX5_add) := goodIn_app (goodIn_of _ (by decide +kernel)) ggX11_write_X5_add
theorem dX11_write_0 : decode cX11_write 0 = .ok (.iload_n 1, 1) := by decide +kernel
theorem dX11_write_1 : decode cX11_write 1 = .ok (.iconst 1, 1) := by decide +kernel
theorem dX11_write_2 : decode cX11_write 2 = .ok (.bipush 8, 2) := by decide +kernel
theorem dX11_write_4 : decode cX11_write 4 = .ok (.invokestatic 105, 3) := by decide +kernel
theorem dX11_write_7 : decode cX11_write 7 = .ok (.ifCond .ne 5, 3) := by decide +kernel
theorem dX11_write_10 : decode cX11_write 10 = .ok (.iconst (-1), 1) := by decide +kernel
theorem dX11_write_11 : decode cX11_write 11 = .ok (.ireturn, 1) := by decide +kernel
theorem dX11_write_12 : decode cX11_write 12 = .ok (.aload_n 0, 1) := by decide +kernel
theorem dX11_write_13 : decode cX11_write 13 = .ok (.getfield 47, 3) := by decide +kernel
theorem dX11_write_16 : decode cX11_write 16 = .ok (.getfield 199, 3) := by decide +kernel
theorem dX11_write_19 : decode cX11_write 19 = .ok (.iload_n 1, 1) := by decide +kernel
theorem dX11_write_20 : decode cX11_write 20 = .ok (.iadd, 1) := by decide +kernel
theorem dX11_write_21 : decode cX11_write 21 = .ok (.sipush 300, 3) := by decide +kernel
theorem dX11_write_24 : decode cX11_write 24 = .ok (.if_icmp .le 6, 3) := by decide +kernel
theorem dX11_write_27 : decode cX11_write 27 = .ok (.bipush (-3), 2) := by decide +kernel
theorem dX11_write_29 : decode cX11_write 29 = .ok (.ireturn, 1) := by decide +kernel
theorem dX11_write_30 : decode cX11_write 30 = .ok (.aload_n 0, 1) := by decide +kernel
theorem dX11_write_31 : decode cX11_write 31 = .ok (.getfield 47, 3) := by decide +kernel
theorem dX11_write_34 : decode cX11_write 34 = .ok (.iload_n 1, 1) := by decide +kernel
theorem dX11_write_35 : decode cX11_write 35 = .ok (.lload_n 2, 1) := by decide +kernel
theorem dX11_write_36 : decode cX11_write 36 = .ok (.invokevirtual 200, 3) := by decide +kernel
theorem dX11_write_39 : decode cX11_write 39 = .ok (.ireturn, 1) := by decide +kernel
theorem dX11_clear_0 : decode cX11_clear 0 = .ok (.aload_n 0, 1) := by decide +kernel
theorem dX11_clear_1 : decode cX11_clear 1 = .ok (.getfield 47, 3) := by decide +kernel
theorem dX11_clear_4 : decode cX11_clear 4 = .ok (.getfield 199, 3) := by decide +kernel
theorem dX11_clear_7 : decode cX11_clear 7 = .ok (.istore_n 1, 1) := by decide +kernel
theorem dX11_clear_8 : decode cX11_clear 8 = .ok (.aload_n 0, 1) := by decide +kernel
theorem dX11_clear_9 : decode cX11_clear 9 = .ok (.getfield 47, 3) := by decide +kernel
theorem dX11_clear_12 : decode cX11_clear 12 = .ok (.iconst 0, 1) := by decide +kernel
