theorem dX12_rod_0 : decode cX12_rod 0 = .ok (.aload_n 0, 1) := by decide +kernel
theorem dX12_rod_1 : decode cX12_rod 1 = .ok (.iload_n 1, 1) := by decide +kernel
theorem dX12_rod_2 : decode cX12_rod 2 = .ok (.invokevirtual 101, 3) := by decide +kernel
theorem dX12_rod_5 : decode cX12_rod 5 = .ok (.ifCond .eq 55, 3) := by decide +kernel
theorem dX12_rod_8 : decode cX12_rod 8 = .ok (.iload_n 2, 1) := by decide +kernel
theorem dX12_rod_9 : decode cX12_rod 9 = .ok (.i2l, 1) := by decide +kernel
theorem dX12_rod_10 : decode cX12_rod 10 = .ok (.lconst 0, 1) := by decide +kernel
theorem dX12_rod_11 : decode cX12_rod 11 = .ok (.ldc2_w 200, 3) := by decide +kernel
theorem dX12_rod_14 : decode cX12_rod 14 = .ok (.invokestatic 93, 3) := by decide +kernel
theorem dX12_rod_17 : decode cX12_rod 17 = .ok (.ifCond .eq 43, 3) := by decide +kernel
theorem dX12_rod_20 : decode cX12_rod 20 = .ok (.iload_n 3, 1) := by decide +kernel
theorem dX12_rod_21 : decode cX12_rod 21 = .ok (.i2l, 1) := by decide +kernel
theorem dX12_rod_22 : decode cX12_rod 22 = .ok (.ldc2_w 252, 3) := by decide +kernel
theorem dX12_rod_25 : decode cX12_rod 25 = .ok (.ldc2_w 254, 3) := by decide +kernel
theorem dX12_rod_28 : decode cX12_rod 28 = .ok (.invokestatic 93, 3) := by decide +kernel
theorem dX12_rod_31 : decode cX12_rod 31 = .ok (.ifCond .eq 29, 3) := by decide +kernel
theorem dX12_rod_34 : decode cX12_rod 34 = .ok (.iload 4, 2) := by decide +kernel
theorem dX12_rod_36 : decode cX12_rod 36 = .ok (.i2l, 1) := by decide +kernel
theorem dX12_rod_37 : decode cX12_rod 37 = .ok (.lconst 0, 1) := by decide +kernel
theorem dX12_rod_38 : decode cX12_rod 38 = .ok (.ldc2_w 256, 3) := by decide +kernel
theorem dX12_rod_41 : decode cX12_rod 41 = .ok (.invokestatic 93, 3) := by decide +kernel
theorem dX12_rod_44 : decode cX12_rod 44 = .ok (.ifCond .eq 16, 3) := by decide +kernel
theorem dX12_rod_47 : decode cX12_rod 47 = .ok (.iload 5, 2) := by decide +kernel
theorem dX12_rod_49 : decode cX12_rod 49 = .ok (.i2l, 1) := by decide +kernel
theorem dX12_rod_50 : decode cX12_rod 50 = .ok (.lconst 0, 1) := by decide +kernel
theorem dX12_rod_51 : decode cX12_rod 51 = .ok (.ldc2_w 109, 3) := by decide +kernel
theorem dX12_rod_54 : decode cX12_rod 54 = .ok (.invokestatic 93, 3) := by decide +kernel
theorem dX12_rod_57 : decode cX12_rod 57 = .ok (.ifCond .ne 5, 3) := by decide +kernel
theorem dX12_rod_60 : decode cX12_rod 60 = .ok (.iconst (-1), 1) := by decide +kernel
theorem dX12_rod_61 : decode cX12_rod 61 = .ok (.ireturn, 1) := by decide +kernel
theorem dX12_rod_62 : decode cX12_rod 62 = .ok (.aload_n 0, 1) := by decide +kernel
theorem dX12_rod_63 : decode cX12_rod 63 = .ok (.getfield 47, 3) := by decide +kernel
theorem dX12_rod_66 : decode cX12_rod 66 = .ok (.iconst 0, 1) := by decide +kernel
theorem dX12_rod_67 : decode cX12_rod 67 = .ok (.iaload, 1) := by decide +kernel
theorem dX12_rod_68 : decode cX12_rod 68 = .ok (.bipush 12, 2) := by decide +kernel
theorem dX12_rod_70 : decode cX12_rod 70 = .ok (.if_icmp .ne 6, 3) := by decide +kernel
theorem dX12_rod_73 : decode cX12_rod 73 = .ok (.bipush (-3), 2) := by decide +kernel
theorem dX12_rod_75 : decode cX12_rod 75 = .ok (.ireturn, 1) := by decide +kernel
theorem dX12_rod_76 : decode cX12_rod 76 = .ok (.bipush 8, 2) := by decide +kernel
theorem dX12_rod_78 : decode cX12_rod 78 = .ok (.aload_n 0, 1) := by decide +kernel
theorem dX12_rod_79 : decode cX12_rod 79 = .ok (.getfield 47, 3) := by decide +kernel
theorem dX12_rod_82 : decode cX12_rod 82 = .ok (.iconst 0, 1) := by decide +kernel
theorem dX12_rod_83 : decode cX12_rod 83 = .ok (.iaload, 1) := by decide +kernel
theorem dX12_rod_84 : decode cX12_rod 84 = .ok (.imul, 1) := by decide +kernel
theorem dX12_rod_85 : decode cX12_rod 85 = .ok (.istore 6, 2) := by decide +kernel
theorem dX12_rod_87 : decode cX12_rod 87 = .ok (.aload_n 0, 1) := by decide +kernel
theorem dX12_rod_88 : decode cX12_rod 88 = .ok (.getfield 50, 3) := by decide +kernel
theorem dX12_rod_91 : decode cX12_rod 91 = .ok (.iload 6, 2) := by decide +kernel
theorem dX12_rod_93 : decode cX12_rod 93 = .ok (.iload_n 1, 1) := by decide +kernel
theorem dX12_rod_94 : decode cX12_rod 94 = .ok (.iastore, 1) := by decide +kernel
theorem dX12_rod_95 : decode cX12_rod 95 = .ok (.aload_n 0, 1) := by decide +kernel
theorem dX12_rod_96 : decode cX12_rod 96 = .ok (.getfield 50, 3) := by decide +kernel
theorem dX12_rod_99 : decode cX12_rod 99 = .ok (.iload 6, 2) := by decide +kernel
theorem dX12_rod_101 : decode cX12_rod 101 = .ok (.iconst 1, 1) := by decide +kernel
theorem dX12_rod_102 : decode cX12_rod 102 = .ok (.iadd, 1) := by decide +kernel
theorem dX12_rod_103 : decode cX12_rod 103 = .ok (.iload_n 2, 1) := by decide +kernel
theorem dX12_rod_104 : decode cX12_rod 104 = .ok (.iastore, 1) := by decide +kernel
theorem dX12_rod_105 : decode cX12_rod 105 = .ok (.aload_n 0, 1) := by decide +kernel
theorem dX12_rod_106 : decode cX12_rod 106 = .ok (.getfield 50, 3) := by decide +kernel
theorem dX12_rod_109 : decode cX12_rod 109 = .ok (.iload 6, 2) := by decide +kernel
theorem dX12_rod_111 : decode cX12_rod 111 = .ok (.iconst 2, 1) := by decide +kernel
theorem dX12_rod_112 : decode cX12_rod 112 = .ok (.iadd, 1) := by decide +kernel
theorem dX12_rod_113 : decode cX12_rod 113 = .ok (.iload_n 3, 1) := by decide +kernel
theorem dX12_rod_114 : decode cX12_rod 114 = .ok (.iastore, 1) := by decide +kernel
theorem dX12_rod_115 : decode cX12_rod 115 = .ok (.aload_n 0, 1) := by decide +kernel
theorem dX12_rod_116 : decode cX12_rod 116 = .ok (.getfield 50, 3) := by decide +kernel
theorem dX12_rod_119 : decode cX12_rod 119 = .ok (.iload 6, 2) := by decide +kernel
theorem dX12_rod_121 : decode cX12_rod 121 = .ok (.iconst 3, 1) := by decide +kernel
theorem dX12_rod_122 : decode cX12_rod 122 = .ok (.iadd, 1) := by decide +kernel
theorem dX12_rod_123 : decode cX12_rod 123 = .ok (.iload 4, 2) := by decide +kernel
theorem dX12_rod_125 : decode cX12_rod 125 = .ok (.iastore, 1) := by decide +kernel
theorem dX12_rod_126 : decode cX12_rod 126 = .ok (.aload_n 0, 1) := by decide +kernel
theorem dX12_rod_127 : decode cX12_rod 127 = .ok (.getfield 50, 3) := by decide +kernel
theorem dX12_rod_130 : decode cX12_rod 130 = .ok (.iload 6, 2) := by decide +kernel
theorem dX12_rod_132 : decode cX12_rod 132 = .ok (.iconst 4, 1) := by decide +kernel
theorem dX12_rod_133 : decode cX12_rod 133 = .ok (.iadd, 1) := by decide +kernel
theorem dX12_rod_134 : decode cX12_rod 134 = .ok (.iload 5, 2) := by decide +kernel
theorem dX12_rod_136 : decode cX12_rod 136 = .ok (.iastore, 1) := by decide +kernel
theorem dX12_rod_137 : decode cX12_rod 137 = .ok (.aload_n 0, 1) := by decide +kernel
theorem dX12_rod_138 : decode cX12_rod 138 = .ok (.getfield 50, 3) := by decide +kernel
theorem dX12_rod_141 : decode cX12_rod 141 = .ok (.iload 6, 2) := by decide +kernel
theorem dX12_rod_143 : decode cX12_rod 143 = .ok (.iconst 5, 1) := by decide +kernel
theorem dX12_rod_144 : decode cX12_rod 144 = .ok (.iadd, 1) := by decide +kernel
theorem dX12_rod_145 : decode cX12_rod 145 = .ok (.aload_n 0, 1) := by decide +kernel
theorem dX12_rod_146 : decode cX12_rod 146 = .ok (.getfield 53, 3) := by decide +kernel
theorem dX12_rod_149 : decode cX12_rod 149 = .ok (.iconst 0, 1) := by decide +kernel
theorem dX12_rod_150 : decode cX12_rod 150 = .ok (.iaload, 1) := by decide +kernel
theorem dX12_rod_151 : decode cX12_rod 151 = .ok (.iastore, 1) := by decide +kernel
theorem dX12_rod_152 : decode cX12_rod 152 = .ok (.aload_n 0, 1) := by decide +kernel
theorem dX12_rod_153 : decode cX12_rod 153 = .ok (.getfield 50, 3) := by decide +kernel
theorem dX12_rod_156 : decode cX12_rod 156 = .ok (.iload 6, 2) := by decide +kernel
theorem dX12_rod_158 : decode cX12_rod 158 = .ok (.bipush 6, 2) := by decide +kernel
theorem dX12_rod_160 : decode cX12_rod 160 = .ok (.iadd, 1) := by decide +kernel
theorem dX12_rod_161 : decode cX12_rod 161 = .ok (.iconst 0, 1) := by decide +kernel
theorem dX12_rod_162 : decode cX12_rod 162 = .ok (.iastore, 1) := by decide +kernel
theorem dX12_rod_163 : decode cX12_rod 163 = .ok (.aload_n 0, 1) := by decide +kernel
theorem dX12_rod_164 : decode cX12_rod 164 = .ok (.getfield 50, 3) := by decide +kernel
theorem dX12_rod_167 : decode cX12_rod 167 = .ok (.iload 6, 2) := by decide +kernel
theorem dX12_rod_169 : decode cX12_rod 169 = .ok (.bipush 7, 2) := by decide +kernel
theorem dX12_rod_171 : decode cX12_rod 171 = .ok (.iadd, 1) := by decide +kernel
theorem dX12_rod_172 : decode cX12_rod 172 = .ok (.iconst (-1), 1) := by decide +kernel
theorem dX12_rod_173 : decode cX12_rod 173 = .ok (.iastore, 1) := by decide +kernel
theorem dX12_rod_174 : decode cX12_rod 174 = .ok (.aload_n 0, 1) := by decide +kernel
theorem dX12_rod_175 : decode cX12_rod 175 = .ok (.getfield 47, 3) := by decide +kernel
theorem dX12_rod_178 : decode cX12_rod 178 = .ok (.iconst 0, 1) := by decide +kernel
theorem dX12_rod_179 : decode cX12_rod 179 = .ok (.dup2, 1) := by decide +kernel
theorem dX12_rod_180 : decode cX12_rod 180 = .ok (.iaload, 1) := by decide +kernel
theorem dX12_rod_181 : decode cX12_rod 181 = .ok (.iconst 1, 1) := by decide +kernel
theorem dX12_rod_182 : decode cX12_rod 182 = .ok (.iadd, 1) := by decide +kernel
theorem dX12_rod_183 : decode cX12_rod 183 = .ok (.iastore, 1) := by decide +kernel
theorem dX12_rod_184 : decode cX12_rod 184 = .ok (.aload_n 0, 1) := by decide +kernel
theorem dX12_rod_185 : decode cX12_rod 185 = .ok (.getfield 47, 3) := by decide +kernel
theorem dX12_rod_188 : decode cX12_rod 188 = .ok (.iconst 0, 1) := by decide +kernel
theorem dX12_rod_189 : decode cX12_rod 189 = .ok (.iaload, 1) := by decide +kernel
theorem dX12_rod_190 : decode cX12_rod 190 = .ok (.iconst 1, 1) := by decide +kernel
theorem dX12_rod_191 : decode cX12_rod 191 = .ok (.isub, 1) := by decide +kernel
theorem dX12_rod_192 : decode cX12_rod 192 = .ok (.ireturn, 1) := by decide +kernel
set_option maxRecDepth 20000 in
theorem ggX12_allowed_X12_in : GoodIn wsX12_allowed wsX12_in := goodIn_r _ [6] (by decide +kernel) (by decide +kernel)
set_option maxRecDepth 20000 in
theorem gX12_allowed_X12_in : GoodIn wsX12_allowed (va_wsS RX12 93 yX12_in wsX12_in) := goodIn_app (goodIn_of _ (by decide +kernel)) ggX12_allowed_X12_in
theorem dX12_allowed_0 : decode cX12_allowed 0 = .ok (.iload_n 1, 1) := by decide +kernel
theorem dX12_allowed_1 : decode cX12_allowed 1 = .ok (.i2l, 1) := by decide +kernel
theorem dX12_allowed_2 : decode cX12_allowed 2 = .ok (.lconst 0, 1) := by decide +kernel
theorem dX12_allowed_3 : decode cX12_allowed 3 = .ok (.ldc2_w 254, 3) := by decide +kernel
theorem dX12_allowed_6 : decode cX12_allowed 6 = .ok (.invokestatic 93, 3) := by decide +kernel
theorem dX12_allowed_9 : decode cX12_allowed 9 = .ok (.ifCond .ne 5, 3) := by decide +kernel
theorem dX12_allowed_12 : decode cX12_allowed 12 = .ok (.iconst (-1), 1) := by decide +kernel
theorem dX12_allowed_13 : decode cX12_allowed 13 = .ok (.ireturn, 1) := by decide +kernel
theorem dX12_allowed_14 : decode cX12_allowed 14 = .ok (.aload_n 0, 1) := by decide +kernel
theorem dX12_allowed_15 : decode cX12_allowed 15 = .ok (.getfield 65, 3) := by decide +kernel
theorem dX12_allowed_18 : decode cX12_allowed 18 = .ok (.istore_n 2, 1) := by decide +kernel
theorem dX12_allowed_19 : decode cX12_allowed 19 = .ok (.aload_n 0, 1) := by decide +kernel
theorem dX12_allowed_20 : decode cX12_allowed 20 = .ok (.iload_n 1, 1) := by decide +kernel
theorem dX12_allowed_21 : decode cX12_allowed 21 = .ok (.putfield 65, 3) := by decide +kernel
theorem dX12_allowed_24 : decode cX12_allowed 24 = .ok (.iload_n 2, 1) := by decide +kernel
theorem dX12_allowed_25 : decode cX12_allowed 25 = .ok (.ireturn, 1) := by decide +kernel
set_option maxRecDepth 20000 in
theorem ggX12_plan_X12_in : GoodIn wsX12_plan wsX12_in := goodIn_r _ [7] (by decide +kernel) (by decide +kernel)
set_option maxRecDepth 20000 in
theorem gX12_plan_X12_in : GoodIn wsX12_plan (va_wsS RX12 93 yX12_in wsX12_in) := goodIn_app (goodIn_of _ (by decide +kernel)) ggX12_plan_X12_in
theorem dX12_plan_0 : decode cX12_plan 0 = .ok (.iload_n 1, 1) := by decide +kernel
theorem dX12_plan_1 : decode cX12_plan 1 = .ok (.i2l, 1) := by decide +kernel
theorem dX12_plan_2 : decode cX12_plan 2 = .ok (.lconst 0, 1) := by decide +kernel
theorem dX12_plan_3 : decode cX12_plan 3 = .ok (.ldc2_w 202, 3) := by decide +kernel
theorem dX12_plan_6 : decode cX12_plan 6 = .ok (.invokestatic 93, 3) := by decide +kernel
theorem dX12_plan_9 : decode cX12_plan 9 = .ok (.ifCond .eq 15, 3) := by decide +kernel
theorem dX12_plan_12 : decode cX12_plan 12 = .ok (.iload_n 2, 1) := by decide +kernel
theorem dX12_plan_13 : decode cX12_plan 13 = .ok (.i2l, 1) := by decide +kernel
theorem dX12_plan_14 : decode cX12_plan 14 = .ok (.lconst 0, 1) := by decide +kernel
theorem dX12_plan_15 : decode cX12_plan 15 = .ok (.ldc2_w 258, 3) := by decide +kernel
theorem dX12_plan_18 : decode cX12_plan 18 = .ok (.invokestatic 93, 3) := by decide +kernel
theorem dX12_plan_21 : decode cX12_plan 21 = .ok (.ifCond .ne 5, 3) := by decide +kernel
theorem dX12_plan_24 : decode cX12_plan 24 = .ok (.iconst (-1), 1) := by decide +kernel
theorem dX12_plan_25 : decode cX12_plan 25 = .ok (.ireturn, 1) := by decide +kernel
theorem dX12_plan_26 : decode cX12_plan 26 = .ok (.aload_n 0, 1) := by decide +kernel
theorem dX12_plan_27 : decode cX12_plan 27 = .ok (.getfield 69, 3) := by decide +kernel
theorem dX12_plan_30 : decode cX12_plan 30 = .ok (.iload_n 1, 1) := by decide +kernel
theorem dX12_plan_31 : decode cX12_plan 31 = .ok (.iaload, 1) := by decide +kernel
theorem dX12_plan_32 : decode cX12_plan 32 = .ok (.istore_n 3, 1) := by decide +kernel
theorem dX12_plan_33 : decode cX12_plan 33 = .ok (.aload_n 0, 1) := by decide +kernel
theorem dX12_plan_34 : decode cX12_plan 34 = .ok (.getfield 69, 3) := by decide +kernel
theorem dX12_plan_37 : decode cX12_plan 37 = .ok (.iload_n 1, 1) := by decide +kernel
theorem dX12_plan_38 : decode cX12_plan 38 = .ok (.iload_n 2, 1) := by decide +kernel
theorem dX12_plan_39 : decode cX12_plan 39 = .ok (.iastore, 1) := by decide +kernel
theorem dX12_plan_40 : decode cX12_plan 40 = .ok (.iload_n 3, 1) := by decide +kernel
theorem dX12_plan_41 : decode cX12_plan 41 = .ok (.ireturn, 1) := by decide +kernel
theorem dX12_offAt_0 : decode cX12_offAt 0 = .ok (.aload_n 0, 1) := by decide +kernel
theorem dX12_offAt_1 : decode cX12_offAt 1 = .ok (.getfield 50, 3) := by decide +kernel
theorem dX12_offAt_4 : decode cX12_offAt 4 = .ok (.iload_n 1, 1) := by decide +kernel
theorem dX12_offAt_5 : decode cX12_offAt 5 = .ok (.iconst 2, 1) := by decide +kernel
theorem dX12_offAt_6 : decode cX12_offAt 6 = .ok (.iadd, 1) := by decide +kernel
theorem dX12_offAt_7 : decode cX12_offAt 7 = .ok (.iaload, 1) := by decide +kernel
theorem dX12_offAt_8 : decode cX12_offAt 8 = .ok (.aload_n 0, 1) := by decide +kernel
theorem dX12_offAt_9 : decode cX12_offAt 9 = .ok (.getfield 50, 3) := by decide +kernel
theorem dX12_offAt_12 : decode cX12_offAt 12 = .ok (.iload_n 1, 1) := by decide +kernel
theorem dX12_offAt_13 : decode cX12_offAt 13 = .ok (.iconst 3, 1) := by decide +kernel
theorem dX12_offAt_14 : decode cX12_offAt 14 = .ok (.iadd, 1) := by decide +kernel
theorem dX12_offAt_15 : decode cX12_offAt 15 = .ok (.iaload, 1) := by decide +kernel
theorem dX12_offAt_16 : decode cX12_offAt 16 = .ok (.iload_n 2, 1) := by decide +kernel
theorem dX12_offAt_17 : decode cX12_offAt 17 = .ok (.imul, 1) := by decide +kernel
theorem dX12_offAt_18 : decode cX12_offAt 18 = .ok (.isub, 1) := by decide +kernel
theorem dX12_offAt_19 : decode cX12_offAt 19 = .ok (.istore_n 3, 1) := by decide +kernel
theorem dX12_offAt_20 : decode cX12_offAt 20 = .ok (.iload_n 3, 1) := by decide +kernel
theorem dX12_offAt_21 : decode cX12_offAt 21 = .ok (.sipush (-500), 3) := by decide +kernel
theorem dX12_offAt_24 : decode cX12_offAt 24 = .ok (.if_icmp .ge 9, 3) := by decide +kernel
theorem dX12_offAt_27 : decode cX12_offAt 27 = .ok (.sipush (-500), 3) := by decide +kernel
theorem dX12_offAt_30 : decode cX12_offAt 30 = .ok (.goto 4, 3) := by decide +kernel
theorem dX12_offAt_33 : decode cX12_offAt 33 = .ok (.iload_n 3, 1) := by decide +kernel
theorem dX12_offAt_34 : decode cX12_offAt 34 = .ok (.ireturn, 1) := by decide +kernel
theorem dX12_abs_0 : decode cX12_abs 0 = .ok (.iload_n 0, 1) := by decide +kernel
theorem dX12_abs_1 : decode cX12_abs 1 = .ok (.ifCond .ge 8, 3) := by decide +kernel
theorem dX12_abs_4 : decode cX12_abs 4 = .ok (.iload_n 0, 1) := by decide +kernel
theorem dX12_abs_5 : decode cX12_abs 5 = .ok (.ineg, 1) := by decide +kernel
theorem dX12_abs_6 : decode cX12_abs 6 = .ok (.goto 4, 3) := by decide +kernel
theorem dX12_abs_9 : decode cX12_abs 9 = .ok (.iload_n 0, 1) := by decide +kernel
theorem dX12_abs_10 : decode cX12_abs 10 = .ok (.ireturn, 1) := by decide +kernel
set_option maxRecDepth 20000 in
theorem ggX12_isFalse_X12_offAt : GoodIn wsX12_isFalse wsX12_offAt := goodIn_r _ [7, 2, 24, 25, 26, 27, 28, 29, 30, 31, 32, 33, 34, 35, 36, 37, 38, 39, 40, 41, 42, 43, 44, 45, 46, 47, 48, 49, 50, 51, 52, 53, 54, 55, 56, 57, 58, 59, 60, 61, 62, 63, 64, 65] (by decide +kernel) (by decide +kernel)
set_option maxRecDepth 20000 in
theorem gX12_isFalse_X12_offAt : GoodIn wsX12_isFalse (wsV RX12 260 RX12 yX12_offAt wsX12_offAt) := goodIn_app (goodIn_of _ (by decide +kernel)) ggX12_isFalse_X12_offAt
set_option maxRecDepth 20000 in
theorem ggX12_isFalse_X12_abs : GoodIn wsX12_isFalse wsX12_abs := goodIn_r _ [10] (by decide +kernel) (by decide +kernel)
set_option maxRecDepth 20000 in
theorem gX12_isFalse_X12_abs : GoodIn wsX12_isFalse (va_wsS RX12 263 yX12_abs wsX12_abs) := goodIn_app (goodIn_of _ (by decide +kernel)) ggX12_isFalse_X12_abs
set_option maxRecDepth 20000 in
theorem ggX12_isFalse_X12_isLet : GoodIn wsX12_isFalse wsX12_isLet := goodIn_r _ [14, 15, 16, 17, 18, 6, 19, 20, 21, 22, 23, 24, 25, 26, 27, 28, 29, 30, 31, 32, 33, 34, 35, 36, 37, 38, 39, 40, 41, 42, 43, 44, 45, 46, 47, 48, 49, 50, 51, 52, 53, 54, 55, 56, 57, 58, 59, 60, 61, 62, 63, 64, 65] (by decide +kernel) (by decide +kernel)
set_option maxRecDepth 20000 in
theorem gX12_isFalse_X12_isLet : GoodIn wsX12_isFalse (wsV RX12 220 RX12 yX12_isLet wsX12_isLet) := goodIn_app (goodIn_of _ (by decide +kernel)) ggX12_isFalse_X12_isLet
theorem dX12_isFalse_0 : decode cX12_isFalse 0 = .ok (.aload_n 0, 1) := by decide +kernel
theorem dX12_isFalse_1 : decode cX12_isFalse 1 = .ok (.iload_n 1, 1) := by decide +kernel
theorem dX12_isFalse_2 : decode cX12_isFalse 2 = .ok (.iload_n 2, 1) := by decide +kernel
theorem dX12_isFalse_3 : decode cX12_isFalse 3 = .ok (.invokevirtual 260, 3) := by decide +kernel
theorem dX12_isFalse_6 : decode cX12_isFalse 6 = .ok (.invokestatic 263, 3) := by decide +kernel
theorem dX12_isFalse_9 : decode cX12_isFalse 9 = .ok (.aload_n 0, 1) := by decide +kernel
theorem dX12_isFalse_10 : decode cX12_isFalse 10 = .ok (.getfield 65, 3) := by decide +kernel
theorem dX12_isFalse_13 : decode cX12_isFalse 13 = .ok (.if_icmp .gt 28, 3) := by decide +kernel
theorem dX12_isFalse_16 : decode cX12_isFalse 16 = .ok (.aload_n 0, 1) := by decide +kernel
theorem dX12_isFalse_17 : decode cX12_isFalse 17 = .ok (.aload_n 0, 1) := by decide +kernel
theorem dX12_isFalse_18 : decode cX12_isFalse 18 = .ok (.getfield 50, 3) := by decide +kernel
theorem dX12_isFalse_21 : decode cX12_isFalse 21 = .ok (.iload_n 1, 1) := by decide +kernel
theorem dX12_isFalse_22 : decode cX12_isFalse 22 = .ok (.iaload, 1) := by decide +kernel
theorem dX12_isFalse_23 : decode cX12_isFalse 23 = .ok (.aload_n 0, 1) := by decide +kernel
theorem dX12_isFalse_24 : decode cX12_isFalse 24 = .ok (.getfield 50, 3) := by decide +kernel
theorem dX12_isFalse_27 : decode cX12_isFalse 27 = .ok (.iload_n 1, 1) := by decide +kernel
theorem dX12_isFalse_28 : decode cX12_isFalse 28 = .ok (.iconst 1, 1) := by decide +kernel
theorem dX12_isFalse_29 : decode cX12_isFalse 29 = .ok (.iadd, 1) := by decide +kernel
theorem dX12_isFalse_30 : decode cX12_isFalse 30 = .ok (.iaload, 1) := by decide +kernel
theorem dX12_isFalse_31 : decode cX12_isFalse 31 = .ok (.bipush 7, 2) := by decide +kernel
theorem dX12_isFalse_33 : decode cX12_isFalse 33 = .ok (.iload_n 3, 1) := by decide +kernel
theorem dX12_isFalse_34 : decode cX12_isFalse 34 = .ok (.imul, 1) := by decide +kernel
theorem dX12_isFalse_35 : decode cX12_isFalse 35 = .ok (.invokevirtual 220, 3) := by decide +kernel
theorem dX12_isFalse_38 : decode cX12_isFalse 38 = .ok (.ifCond .ne 7, 3) := by decide +kernel
theorem dX12_isFalse_41 : decode cX12_isFalse 41 = .ok (.iconst 1, 1) := by decide +kernel
theorem dX12_isFalse_42 : decode cX12_isFalse 42 = .ok (.goto 4, 3) := by decide +kernel
theorem dX12_isFalse_45 : decode cX12_isFalse 45 = .ok (.iconst 0, 1) := by decide +kernel
theorem dX12_isFalse_46 : decode cX12_isFalse 46 = .ok (.ireturn, 1) := by decide +kernel
set_option maxRecDepth 20000 in
theorem ggX12_goWeek_X12_offAt : GoodIn wsX12_goWeek wsX12_offAt := goodIn_r _ [12, 2, 34, 35, 36, 37, 38, 39, 40, 41, 42, 43, 44, 45, 46, 47, 48, 49, 50, 51, 52, 53, 54, 55, 56, 57, 58, 59, 60, 61, 62, 63, 64, 65, 66, 67, 68, 69, 70, 71, 72, 73, 74, 75] (by decide +kernel) (by decide +kernel)
set_option maxRecDepth 20000 in
theorem gX12_goWeek_X12_offAt : GoodIn wsX12_goWeek (wsV RX12 260 RX12 yX12_offAt wsX12_offAt) := goodIn_app (goodIn_of _ (by decide +kernel)) ggX12_goWeek_X12_offAt
set_option maxRecDepth 20000 in
theorem ggX12_goWeek_X12_abs : GoodIn wsX12_goWeek wsX12_abs := goodIn_r _ [15] (by decide +kernel) (by decide +kernel)
set_option maxRecDepth 20000 in
theorem gX12_goWeek_X12_abs : GoodIn wsX12_goWeek (va_wsS RX12 263 yX12_abs wsX12_abs) := goodIn_app (goodIn_of _ (by decide +kernel)) ggX12_goWeek_X12_abs
set_option maxRecDepth 20000 in
theorem ggX12_goWeek_X12_isFalse : GoodIn wsX12_goWeek wsX12_isFalse := goodIn_r _ [19, 20, 2, 8, 9, 10, 11, 12, 13, 14, 15, 21, 22, 23, 24, 25, 26, 27, 28, 29, 30, 31, 32, 33, 34, 35, 36, 37, 38, 39, 40, 41, 42, 43, 44, 45, 46, 47, 48, 49, 50, 51, 52, 53, 54, 55, 56, 57, 58, 59, 60, 61, 62, 63, 64, 65, 66, 67, 68, 69, 70, 71, 72, 73, 74, 75] (by decide +kernel) (by decide +kernel)
set_option maxRecDepth 20000 in
theorem gX12_goWeek_X12_isFalse : GoodIn wsX12_goWeek (wsV RX12 267 RX12 yX12_isFalse wsX12_isFalse) := goodIn_app (goodIn_of _ (by decide +kernel)) ggX12_goWeek_X12_isFalse
theorem dX12_goWeek_0 : decode cX12_goWeek 0 = .ok (.iconst 0, 1) := by decide +kernel
theorem dX12_goWeek_1 : decode cX12_goWeek 1 = .ok (.istore_n 2, 1) := by decide +kernel
theorem dX12_goWeek_2 : decode cX12_goWeek 2 = .ok (.iload_n 2, 1) := by decide +kernel
theorem dX12_goWeek_3 : decode cX12_goWeek 3 = .ok (.bipush 8, 2) := by decide +kernel
theorem dX12_goWeek_5 : decode cX12_goWeek 5 = .ok (.aload_n 0, 1) := by decide +kernel
theorem dX12_goWeek_6 : decode cX12_goWeek 6 = .ok (.getfield 47, 3) := by decide +kernel
theorem dX12_goWeek_9 : decode cX12_goWeek 9 = .ok (.iconst 0, 1) := by decide +kernel
theorem dX12_goWeek_10 : decode cX12_goWeek 10 = .ok (.iaload, 1) := by decide +kernel
theorem dX12_goWeek_11 : decode cX12_goWeek 11 = .ok (.imul, 1) := by decide +kernel
theorem dX12_goWeek_12 : decode cX12_goWeek 12 = .ok (.if_icmp .ge 195, 3) := by decide +kernel
theorem dX12_goWeek_15 : decode cX12_goWeek 15 = .ok (.aload_n 0, 1) := by decide +kernel
theorem dX12_goWeek_16 : decode cX12_goWeek 16 = .ok (.getfield 50, 3) := by decide +kernel
theorem dX12_goWeek_19 : decode cX12_goWeek 19 = .ok (.iload_n 2, 1) := by decide +kernel
theorem dX12_goWeek_20 : decode cX12_goWeek 20 = .ok (.bipush 7, 2) := by decide +kernel
theorem dX12_goWeek_22 : decode cX12_goWeek 22 = .ok (.iadd, 1) := by decide +kernel
theorem dX12_goWeek_23 : decode cX12_goWeek 23 = .ok (.iaload, 1) := by decide +kernel
theorem dX12_goWeek_24 : decode cX12_goWeek 24 = .ok (.ifCond .ge 177, 3) := by decide +kernel
theorem dX12_goWeek_27 : decode cX12_goWeek 27 = .ok (.aload_n 0, 1) := by decide +kernel
theorem dX12_goWeek_28 : decode cX12_goWeek 28 = .ok (.getfield 53, 3) := by decide +kernel
theorem dX12_goWeek_31 : decode cX12_goWeek 31 = .ok (.iconst 0, 1) := by decide +kernel
theorem dX12_goWeek_32 : decode cX12_goWeek 32 = .ok (.iaload, 1) := by decide +kernel
theorem dX12_goWeek_33 : decode cX12_goWeek 33 = .ok (.aload_n 0, 1) := by decide +kernel
theorem dX12_goWeek_34 : decode cX12_goWeek 34 = .ok (.getfield 50, 3) := by decide +kernel
theorem dX12_goWeek_37 : decode cX12_goWeek 37 = .ok (.iload_n 2, 1) := by decide +kernel
theorem dX12_goWeek_38 : decode cX12_goWeek 38 = .ok (.iconst 5, 1) := by decide +kernel
theorem dX12_goWeek_39 : decode cX12_goWeek 39 = .ok (.iadd, 1) := by decide +kernel
theorem dX12_goWeek_40 : decode cX12_goWeek 40 = .ok (.iaload, 1) := by decide +kernel
theorem dX12_goWeek_41 : decode cX12_goWeek 41 = .ok (.isub, 1) := by decide +kernel
theorem dX12_goWeek_42 : decode cX12_goWeek 42 = .ok (.istore_n 3, 1) := by decide +kernel
theorem dX12_goWeek_43 : decode cX12_goWeek 43 = .ok (.aload_n 0, 1) := by decide +kernel
theorem dX12_goWeek_44 : decode cX12_goWeek 44 = .ok (.iload_n 2, 1) := by decide +kernel
theorem dX12_goWeek_45 : decode cX12_goWeek 45 = .ok (.iload_n 3, 1) := by decide +kernel
theorem dX12_goWeek_46 : decode cX12_goWeek 46 = .ok (.invokevirtual 260, 3) := by decide +kernel
theorem dX12_goWeek_49 : decode cX12_goWeek 49 = .ok (.istore 4, 2) := by decide +kernel
theorem dX12_goWeek_51 : decode cX12_goWeek 51 = .ok (.aload_n 0, 1) := by decide +kernel
theorem dX12_goWeek_52 : decode cX12_goWeek 52 = .ok (.getfield 50, 3) := by decide +kernel
theorem dX12_goWeek_55 : decode cX12_goWeek 55 = .ok (.iload_n 2, 1) := by decide +kernel
theorem dX12_goWeek_56 : decode cX12_goWeek 56 = .ok (.iconst 4, 1) := by decide +kernel
theorem dX12_goWeek_57 : decode cX12_goWeek 57 = .ok (.iadd, 1) := by decide +kernel
theorem dX12_goWeek_58 : decode cX12_goWeek 58 = .ok (.iaload, 1) := by decide +kernel
theorem dX12_goWeek_59 : decode cX12_goWeek 59 = .ok (.i2l, 1) := by decide +kernel
theorem dX12_goWeek_60 : decode cX12_goWeek 60 = .ok (.aload_n 0, 1) := by decide +kernel
theorem dX12_goWeek_61 : decode cX12_goWeek 61 = .ok (.getfield 13, 3) := by decide +kernel
theorem dX12_goWeek_64 : decode cX12_goWeek 64 = .ok (.aload_n 0, 1) := by decide +kernel
theorem dX12_goWeek_65 : decode cX12_goWeek 65 = .ok (.getfield 50, 3) := by decide +kernel
theorem dX12_goWeek_68 : decode cX12_goWeek 68 = .ok (.iload_n 2, 1) := by decide +kernel
theorem dX12_goWeek_69 : decode cX12_goWeek 69 = .ok (.iaload, 1) := by decide +kernel
theorem dX12_goWeek_70 : decode cX12_goWeek 70 = .ok (.iaload, 1) := by decide +kernel
theorem dX12_goWeek_71 : decode cX12_goWeek 71 = .ok (.i2l, 1) := by decide +kernel
theorem dX12_goWeek_72 : decode cX12_goWeek 72 = .ok (.lmul, 1) := by decide +kernel
theorem dX12_goWeek_73 : decode cX12_goWeek 73 = .ok (.iload 4, 2) := by decide +kernel
theorem dX12_goWeek_75 : decode cX12_goWeek 75 = .ok (.invokestatic 263, 3) := by decide +kernel
theorem dX12_goWeek_78 : decode cX12_goWeek 78 = .ok (.i2l, 1) := by decide +kernel
theorem dX12_goWeek_79 : decode cX12_goWeek 79 = .ok (.lmul, 1) := by decide +kernel
theorem dX12_goWeek_80 : decode cX12_goWeek 80 = .ok (.ldc2_w 109, 3) := by decide +kernel
theorem dX12_goWeek_83 : decode cX12_goWeek 83 = .ok (.ldiv, 1) := by decide +kernel
theorem dX12_goWeek_84 : decode cX12_goWeek 84 = .ok (.lstore 5, 2) := by decide +kernel
theorem dX12_goWeek_86 : decode cX12_goWeek 86 = .ok (.aload_n 0, 1) := by decide +kernel
theorem dX12_goWeek_87 : decode cX12_goWeek 87 = .ok (.getfield 56, 3) := by decide +kernel
theorem dX12_goWeek_90 : decode cX12_goWeek 90 = .ok (.aload_n 0, 1) := by decide +kernel
theorem dX12_goWeek_91 : decode cX12_goWeek 91 = .ok (.getfield 50, 3) := by decide +kernel
theorem dX12_goWeek_94 : decode cX12_goWeek 94 = .ok (.iload_n 2, 1) := by decide +kernel
theorem dX12_goWeek_95 : decode cX12_goWeek 95 = .ok (.iconst 1, 1) := by decide +kernel
theorem dX12_goWeek_96 : decode cX12_goWeek 96 = .ok (.iadd, 1) := by decide +kernel
theorem dX12_goWeek_97 : decode cX12_goWeek 97 = .ok (.iaload, 1) := by decide +kernel
theorem dX12_goWeek_98 : decode cX12_goWeek 98 = .ok (.dup2, 1) := by decide +kernel
theorem dX12_goWeek_99 : decode cX12_goWeek 99 = .ok (.laload, 1) := by decide +kernel
theorem dX12_goWeek_100 : decode cX12_goWeek 100 = .ok (.iload 4, 2) := by decide +kernel
theorem dX12_goWeek_102 : decode cX12_goWeek 102 = .ok (.ifCond .ge 8, 3) := by decide +kernel
theorem dX12_goWeek_105 : decode cX12_goWeek 105 = .ok (.lload 5, 2) := by decide +kernel
theorem dX12_goWeek_107 : decode cX12_goWeek 107 = .ok (.goto 4, 3) := by decide +kernel
theorem dX12_goWeek_110 : decode cX12_goWeek 110 = .ok (.lconst 0, 1) := by decide +kernel
theorem dX12_goWeek_111 : decode cX12_goWeek 111 = .ok (.ladd, 1) := by decide +kernel
theorem dX12_goWeek_112 : decode cX12_goWeek 112 = .ok (.lastore, 1) := by decide +kernel
theorem dX12_goWeek_113 : decode cX12_goWeek 113 = .ok (.aload_n 0, 1) := by decide +kernel
theorem dX12_goWeek_114 : decode cX12_goWeek 114 = .ok (.getfield 59, 3) := by decide +kernel
theorem dX12_goWeek_117 : decode cX12_goWeek 117 = .ok (.aload_n 0, 1) := by decide +kernel
theorem dX12_goWeek_118 : decode cX12_goWeek 118 = .ok (.getfield 50, 3) := by decide +kernel
theorem dX12_goWeek_121 : decode cX12_goWeek 121 = .ok (.iload_n 2, 1) := by decide +kernel
theorem dX12_goWeek_122 : decode cX12_goWeek 122 = .ok (.iconst 1, 1) := by decide +kernel
theorem dX12_goWeek_123 : decode cX12_goWeek 123 = .ok (.iadd, 1) := by decide +kernel
theorem dX12_goWeek_124 : decode cX12_goWeek 124 = .ok (.iaload, 1) := by decide +kernel
theorem dX12_goWeek_125 : decode cX12_goWeek 125 = .ok (.dup2, 1) := by decide +kernel
theorem dX12_goWeek_126 : decode cX12_goWeek 126 = .ok (.laload, 1) := by decide +kernel
theorem dX12_goWeek_127 : decode cX12_goWeek 127 = .ok (.iload 4, 2) := by decide +kernel
theorem dX12_goWeek_129 : decode cX12_goWeek 129 = .ok (.ifCond .le 8, 3) := by decide +kernel
theorem dX12_goWeek_132 : decode cX12_goWeek 132 = .ok (.lload 5, 2) := by decide +kernel
theorem dX12_goWeek_134 : decode cX12_goWeek 134 = .ok (.goto 4, 3) := by decide +kernel
theorem dX12_goWeek_137 : decode cX12_goWeek 137 = .ok (.lconst 0, 1) := by decide +kernel
theorem dX12_goWeek_138 : decode cX12_goWeek 138 = .ok (.ladd, 1) := by decide +kernel
theorem dX12_goWeek_139 : decode cX12_goWeek 139 = .ok (.lastore, 1) := by decide +kernel
theorem dX12_goWeek_140 : decode cX12_goWeek 140 = .ok (.iload_n 1, 1) := by decide +kernel
theorem dX12_goWeek_141 : decode cX12_goWeek 141 = .ok (.aload_n 0, 1) := by decide +kernel
theorem dX12_goWeek_142 : decode cX12_goWeek 142 = .ok (.getfield 50, 3) := by decide +kernel
theorem dX12_goWeek_145 : decode cX12_goWeek 145 = .ok (.iload_n 2, 1) := by decide +kernel
theorem dX12_goWeek_146 : decode cX12_goWeek 146 = .ok (.iconst 1, 1) := by decide +kernel
theorem dX12_goWeek_147 : decode cX12_goWeek 147 = .ok (.iadd, 1) := by decide +kernel
theorem dX12_goWeek_148 : decode cX12_goWeek 148 = .ok (.iaload, 1) := by decide +kernel
theorem dX12_goWeek_149 : decode cX12_goWeek 149 = .ok (.ishr, 1) := by decide +kernel
theorem dX12_goWeek_150 : decode cX12_goWeek 150 = .ok (.iconst 1, 1) := by decide +kernel
theorem dX12_goWeek_151 : decode cX12_goWeek 151 = .ok (.iand, 1) := by decide +kernel
theorem dX12_goWeek_152 : decode cX12_goWeek 152 = .ok (.iconst 1, 1) := by decide +kernel
theorem dX12_goWeek_153 : decode cX12_goWeek 153 = .ok (.if_icmp .ne 48, 3) := by decide +kernel
theorem dX12_goWeek_156 : decode cX12_goWeek 156 = .ok (.aload_n 0, 1) := by decide +kernel
theorem dX12_goWeek_157 : decode cX12_goWeek 157 = .ok (.iload_n 2, 1) := by decide +kernel
theorem dX12_goWeek_158 : decode cX12_goWeek 158 = .ok (.iload_n 3, 1) := by decide +kernel
theorem dX12_goWeek_159 : decode cX12_goWeek 159 = .ok (.iconst 1, 1) := by decide +kernel
theorem dX12_goWeek_160 : decode cX12_goWeek 160 = .ok (.iadd, 1) := by decide +kernel
theorem dX12_goWeek_161 : decode cX12_goWeek 161 = .ok (.aload_n 0, 1) := by decide +kernel
theorem dX12_goWeek_162 : decode cX12_goWeek 162 = .ok (.getfield 53, 3) := by decide +kernel
theorem dX12_goWeek_165 : decode cX12_goWeek 165 = .ok (.iconst 0, 1) := by decide +kernel
theorem dX12_goWeek_166 : decode cX12_goWeek 166 = .ok (.iaload, 1) := by decide +kernel
theorem dX12_goWeek_167 : decode cX12_goWeek 167 = .ok (.invokevirtual 267, 3) := by decide +kernel
theorem dX12_goWeek_170 : decode cX12_goWeek 170 = .ok (.ifCond .eq 21, 3) := by decide +kernel
theorem dX12_goWeek_173 : decode cX12_goWeek 173 = .ok (.aload_n 0, 1) := by decide +kernel
theorem dX12_goWeek_174 : decode cX12_goWeek 174 = .ok (.getfield 50, 3) := by decide +kernel
theorem dX12_goWeek_177 : decode cX12_goWeek 177 = .ok (.iload_n 2, 1) := by decide +kernel
theorem dX12_goWeek_178 : decode cX12_goWeek 178 = .ok (.bipush 7, 2) := by decide +kernel
theorem dX12_goWeek_180 : decode cX12_goWeek 180 = .ok (.iadd, 1) := by decide +kernel
theorem dX12_goWeek_181 : decode cX12_goWeek 181 = .ok (.aload_n 0, 1) := by decide +kernel
theorem dX12_goWeek_182 : decode cX12_goWeek 182 = .ok (.getfield 53, 3) := by decide +kernel
theorem dX12_goWeek_185 : decode cX12_goWeek 185 = .ok (.iconst 0, 1) := by decide +kernel
theorem dX12_goWeek_186 : decode cX12_goWeek 186 = .ok (.iaload, 1) := by decide +kernel
theorem dX12_goWeek_187 : decode cX12_goWeek 187 = .ok (.iastore, 1) := by decide +kernel
theorem dX12_goWeek_188 : decode cX12_goWeek 188 = .ok (.goto 13, 3) := by decide +kernel
theorem dX12_goWeek_191 : decode cX12_goWeek 191 = .ok (.aload_n 0, 1) := by decide +kernel
theorem dX12_goWeek_192 : decode cX12_goWeek 192 = .ok (.getfield 50, 3) := by decide +kernel
theorem dX12_goWeek_195 : decode cX12_goWeek 195 = .ok (.iload_n 2, 1) := by decide +kernel
theorem dX12_goWeek_196 : decode cX12_goWeek 196 = .ok (.bipush 6, 2) := by decide +kernel
theorem dX12_goWeek_198 : decode cX12_goWeek 198 = .ok (.iadd, 1) := by decide +kernel
theorem dX12_goWeek_199 : decode cX12_goWeek 199 = .ok (.iconst 1, 1) := by decide +kernel
theorem dX12_goWeek_200 : decode cX12_goWeek 200 = .ok (.iastore, 1) := by decide +kernel
theorem dX12_goWeek_201 : decode cX12_goWeek 201 = .ok (.iinc 2 8, 3) := by decide +kernel
theorem dX12_goWeek_204 : decode cX12_goWeek 204 = .ok (.goto (-202), 3) := by decide +kernel
theorem dX12_goWeek_207 : decode cX12_goWeek 207 = .ok (.aload_n 0, 1) := by decide +kernel
theorem dX12_goWeek_208 : decode cX12_goWeek 208 = .ok (.getfield 53, 3) := by decide +kernel
theorem dX12_goWeek_211 : decode cX12_goWeek 211 = .ok (.iconst 0, 1) := by decide +kernel
theorem dX12_goWeek_212 : decode cX12_goWeek 212 = .ok (.dup2, 1) := by decide +kernel
theorem dX12_goWeek_213 : decode cX12_goWeek 213 = .ok (.iaload, 1) := by decide +kernel
theorem dX12_goWeek_214 : decode cX12_goWeek 214 = .ok (.iconst 1, 1) := by decide +kernel
theorem dX12_goWeek_215 : decode cX12_goWeek 215 = .ok (.iadd, 1) := by decide +kernel
theorem dX12_goWeek_216 : decode cX12_goWeek 216 = .ok (.iastore, 1) := by decide +kernel
theorem dX12_goWeek_217 : decode cX12_goWeek 217 = .ok (.return_, 1) := by decide +kernel
set_option maxRecDepth 20000 in
theorem ggX12_weeks_X12_in : GoodIn wsX12_weeks wsX12_in := goodIn_r _ [7] (by decide +kernel) (by decide +kernel)
set_option maxRecDepth 20000 in
theorem gX12_weeks_X12_in : GoodIn wsX12_weeks (va_wsS RX12 93 yX12_in wsX12_in) := goodIn_app (goodIn_of _ (by decide +kernel)) ggX12_weeks_X12_in
set_option maxRecDepth 20000 in
theorem ggX12_weeks_X12_goWeek : GoodIn wsX12_weeks wsX12_goWeek := goodIn_r _ [11, 12, 13, 2, 14, 15, 16, 17, 18, 19, 20, 6, 21, 22, 23, 24, 25, 26, 27, 28, 29, 30, 31, 32, 33, 34, 35, 36, 37, 38, 39, 4, 5, 7, 40, 41, 42, 43, 44, 45, 46, 47, 48, 49, 50, 51, 52, 53, 54, 55, 56, 57, 58, 59, 60, 61, 62, 63, 64, 65, 66, 67, 68, 69, 70, 71, 72, 73, 74, 75, 76, 77, 78, 79, 80, 81] (by decide +kernel) (by decide +kernel)
set_option maxRecDepth 20000 in
theorem gX12_weeks_X12_goWeek : GoodIn wsX12_weeks (wsV RX12 270 RX12 yX12_goWeek wsX12_goWeek) := goodIn_app (goodIn_of _ (by decide +kernel)) ggX12_weeks_X12_goWeek
theorem dX12_weeks_0 : decode cX12_weeks 0 = .ok (.iload_n 1, 1) := by decide +kernel
theorem dX12_weeks_1 : decode cX12_weeks 1 = .ok (.i2l, 1) := by decide +kernel
theorem dX12_weeks_2 : decode cX12_weeks 2 = .ok (.lconst 1, 1) := by decide +kernel
theorem dX12_weeks_3 : decode cX12_weeks 3 = .ok (.ldc2_w 256, 3) := by decide +kernel
theorem dX12_weeks_6 : decode cX12_weeks 6 = .ok (.invokestatic 93, 3) := by decide +kernel
theorem dX12_weeks_9 : decode cX12_weeks 9 = .ok (.ifCond .ne 5, 3) := by decide +kernel
theorem dX12_weeks_12 : decode cX12_weeks 12 = .ok (.iconst (-1), 1) := by decide +kernel
theorem dX12_weeks_13 : decode cX12_weeks 13 = .ok (.ireturn, 1) := by decide +kernel
theorem dX12_weeks_14 : decode cX12_weeks 14 = .ok (.aload_n 0, 1) := by decide +kernel
theorem dX12_weeks_15 : decode cX12_weeks 15 = .ok (.getfield 53, 3) := by decide +kernel
theorem dX12_weeks_18 : decode cX12_weeks 18 = .ok (.iconst 0, 1) := by decide +kernel
theorem dX12_weeks_19 : decode cX12_weeks 19 = .ok (.iaload, 1) := by decide +kernel
theorem dX12_weeks_20 : decode cX12_weeks 20 = .ok (.iload_n 1, 1) := by decide +kernel
theorem dX12_weeks_21 : decode cX12_weeks 21 = .ok (.iadd, 1) := by decide +kernel
theorem dX12_weeks_22 : decode cX12_weeks 22 = .ok (.bipush 100, 2) := by decide +kernel
theorem dX12_weeks_24 : decode cX12_weeks 24 = .ok (.if_icmp .le 6, 3) := by decide +kernel
theorem dX12_weeks_27 : decode cX12_weeks 27 = .ok (.bipush (-3), 2) := by decide +kernel
theorem dX12_weeks_29 : decode cX12_weeks 29 = .ok (.ireturn, 1) := by decide +kernel
theorem dX12_weeks_30 : decode cX12_weeks 30 = .ok (.iconst 0, 1) := by decide +kernel
theorem dX12_weeks_31 : decode cX12_weeks 31 = .ok (.istore_n 2, 1) := by decide +kernel
theorem dX12_weeks_32 : decode cX12_weeks 32 = .ok (.iload_n 2, 1) := by decide +kernel
theorem dX12_weeks_33 : decode cX12_weeks 33 = .ok (.iload_n 1, 1) := by decide +kernel
theorem dX12_weeks_34 : decode cX12_weeks 34 = .ok (.if_icmp .ge 55, 3) := by decide +kernel
theorem dX12_weeks_37 : decode cX12_weeks 37 = .ok (.aload_n 0, 1) := by decide +kernel
theorem dX12_weeks_38 : decode cX12_weeks 38 = .ok (.aload_n 0, 1) := by decide +kernel
theorem dX12_weeks_39 : decode cX12_weeks 39 = .ok (.getfield 69, 3) := by decide +kernel
theorem dX12_weeks_42 : decode cX12_weeks 42 = .ok (.iconst 0, 1) := by decide +kernel
theorem dX12_weeks_43 : decode cX12_weeks 43 = .ok (.iaload, 1) := by decide +kernel
theorem dX12_weeks_44 : decode cX12_weeks 44 = .ok (.invokevirtual 270, 3) := by decide +kernel
theorem dX12_weeks_47 : decode cX12_weeks 47 = .ok (.iconst 1, 1) := by decide +kernel
theorem dX12_weeks_48 : decode cX12_weeks 48 = .ok (.istore_n 3, 1) := by decide +kernel
theorem dX12_weeks_49 : decode cX12_weeks 49 = .ok (.iload_n 3, 1) := by decide +kernel
theorem dX12_weeks_50 : decode cX12_weeks 50 = .ok (.bipush 10, 2) := by decide +kernel
theorem dX12_weeks_52 : decode cX12_weeks 52 = .ok (.if_icmp .ge 23, 3) := by decide +kernel
theorem dX12_weeks_55 : decode cX12_weeks 55 = .ok (.aload_n 0, 1) := by decide +kernel
theorem dX12_weeks_56 : decode cX12_weeks 56 = .ok (.getfield 69, 3) := by decide +kernel
theorem dX12_weeks_59 : decode cX12_weeks 59 = .ok (.iload_n 3, 1) := by decide +kernel
theorem dX12_weeks_60 : decode cX12_weeks 60 = .ok (.iconst 1, 1) := by decide +kernel
theorem dX12_weeks_61 : decode cX12_weeks 61 = .ok (.isub, 1) := by decide +kernel
theorem dX12_weeks_62 : decode cX12_weeks 62 = .ok (.aload_n 0, 1) := by decide +kernel
theorem dX12_weeks_63 : decode cX12_weeks 63 = .ok (.getfield 69, 3) := by decide +kernel
theorem dX12_weeks_66 : decode cX12_weeks 66 = .ok (.iload_n 3, 1) := by decide +kernel
theorem dX12_weeks_67 : decode cX12_weeks 67 = .ok (.iaload, 1) := by decide +kernel
theorem dX12_weeks_68 : decode cX12_weeks 68 = .ok (.iastore, 1) := by decide +kernel
theorem dX12_weeks_69 : decode cX12_weeks 69 = .ok (.iinc 3 1, 3) := by decide +kernel
theorem dX12_weeks_72 : decode cX12_weeks 72 = .ok (.goto (-23), 3) := by decide +kernel
theorem dX12_weeks_75 : decode cX12_weeks 75 = .ok (.aload_n 0, 1) := by decide +kernel
theorem dX12_weeks_76 : decode cX12_weeks 76 = .ok (.getfield 69, 3) := by decide +kernel
theorem dX12_weeks_79 : decode cX12_weeks 79 = .ok (.bipush 9, 2) := by decide +kernel
theorem dX12_weeks_81 : decode cX12_weeks 81 = .ok (.iconst 0, 1) := by decide +kernel
theorem dX12_weeks_82 : decode cX12_weeks 82 = .ok (.iastore, 1) := by decide +kernel
theorem dX12_weeks_83 : decode cX12_weeks 83 = .ok (.iinc 2 1, 3) := by decide +kernel
theorem dX12_weeks_86 : decode cX12_weeks 86 = .ok (.goto (-54), 3) := by decide +kernel
theorem dX12_weeks_89 : decode cX12_weeks 89 = .ok (.aload_n 0, 1) := by decide +kernel
theorem dX12_weeks_90 : decode cX12_weeks 90 = .ok (.getfield 53, 3) := by decide +kernel
theorem dX12_weeks_93 : decode cX12_weeks 93 = .ok (.iconst 0, 1) := by decide +kernel
theorem dX12_weeks_94 : decode cX12_weeks 94 = .ok (.iaload, 1) := by decide +kernel
theorem dX12_weeks_95 : decode cX12_weeks 95 = .ok (.ireturn, 1) := by decide +kernel
theorem dX12_worn_0 : decode cX12_worn 0 = .ok (.aload_n 0, 1) := by decide +kernel
theorem dX12_worn_1 : decode cX12_worn 1 = .ok (.getfield 50, 3) := by decide +kernel
theorem dX12_worn_4 : decode cX12_worn 4 = .ok (.iload_n 1, 1) := by decide +kernel
theorem dX12_worn_5 : decode cX12_worn 5 = .ok (.bipush 7, 2) := by decide +kernel
theorem dX12_worn_7 : decode cX12_worn 7 = .ok (.iadd, 1) := by decide +kernel
theorem dX12_worn_8 : decode cX12_worn 8 = .ok (.iaload, 1) := by decide +kernel
theorem dX12_worn_9 : decode cX12_worn 9 = .ok (.ifCond .ge 12, 3) := by decide +kernel
theorem dX12_worn_12 : decode cX12_worn 12 = .ok (.aload_n 0, 1) := by decide +kernel
theorem dX12_worn_13 : decode cX12_worn 13 = .ok (.getfield 53, 3) := by decide +kernel
theorem dX12_worn_16 : decode cX12_worn 16 = .ok (.iconst 0, 1) := by decide +kernel
theorem dX12_worn_17 : decode cX12_worn 17 = .ok (.iaload, 1) := by decide +kernel
theorem dX12_worn_18 : decode cX12_worn 18 = .ok (.goto 14, 3) := by decide +kernel
theorem dX12_worn_21 : decode cX12_worn 21 = .ok (.aload_n 0, 1) := by decide +kernel
theorem dX12_worn_22 : decode cX12_worn 22 = .ok (.getfield 50, 3) := by decide +kernel
theorem dX12_worn_25 : decode cX12_worn 25 = .ok (.iload_n 1, 1) := by decide +kernel
theorem dX12_worn_26 : decode cX12_worn 26 = .ok (.bipush 7, 2) := by decide +kernel
theorem dX12_worn_28 : decode cX12_worn 28 = .ok (.iadd, 1) := by decide +kernel
theorem dX12_worn_29 : decode cX12_worn 29 = .ok (.iaload, 1) := by decide +kernel
theorem dX12_worn_30 : decode cX12_worn 30 = .ok (.iconst 1, 1) := by decide +kernel
theorem dX12_worn_31 : decode cX12_worn 31 = .ok (.iadd, 1) := by decide +kernel
theorem dX12_worn_32 : decode cX12_worn 32 = .ok (.aload_n 0, 1) := by decide +kernel
theorem dX12_worn_33 : decode cX12_worn 33 = .ok (.getfield 50, 3) := by decide +kernel
theorem dX12_worn_36 : decode cX12_worn 36 = .ok (.iload_n 1, 1) := by decide +kernel
theorem dX12_worn_37 : decode cX12_worn 37 = .ok (.iconst 5, 1) := by decide +kernel
theorem dX12_worn_38 : decode cX12_worn 38 = .ok (.iadd, 1) := by decide +kernel
theorem dX12_worn_39 : decode cX12_worn 39 = .ok (.iaload, 1) := by decide +kernel
theorem dX12_worn_40 : decode cX12_worn 40 = .ok (.isub, 1) := by decide +kernel
theorem dX12_worn_41 : decode cX12_worn 41 = .ok (.ireturn, 1) := by decide +kernel
set_option maxRecDepth 20000 in
theorem ggX12_rodTold_X12_in : GoodIn wsX12_rodTold wsX12_in := goodIn_r _ [8] (by decide +kernel) (by decide +kernel)
set_option maxRecDepth 20000 in
theorem gX12_rodTold_X12_in : GoodIn wsX12_rodTold (va_wsS RX12 93 yX12_in wsX12_in) := goodIn_app (goodIn_of _ (by decide +kernel)) ggX12_rodTold_X12_in
set_option maxRecDepth 20000 in
theorem ggX12_rodTold_X12_worn : GoodIn wsX12_rodTold wsX12_worn := goodIn_r _ [12, 3, 13, 21, 22, 23, 24, 25, 26, 27, 28, 29, 30, 31, 32, 33, 34, 35, 36, 37, 38, 39, 40, 41, 42, 43, 44, 45, 46, 47, 48, 49, 50, 51, 52, 53, 54, 55, 56, 57, 58, 59, 60, 61, 62] (by decide +kernel) (by decide +kernel)
set_option maxRecDepth 20000 in
theorem gX12_rodTold_X12_worn : GoodIn wsX12_rodTold (wsV RX12 274 RX12 yX12_worn wsX12_worn) := goodIn_app (goodIn_of _ (by decide +kernel)) ggX12_rodTold_X12_worn
set_option maxRecDepth 20000 in
theorem ggX12_rodTold_X12_offAt : GoodIn wsX12_rodTold wsX12_offAt := goodIn_r _ [17, 3, 21, 22, 23, 24, 25, 26, 27, 28, 29, 30, 31, 32, 33, 34, 35, 36, 37, 38, 39, 40, 41, 42, 43, 44, 45, 46, 47, 48, 49, 50, 51, 52, 53, 54, 55, 56, 57, 58, 59, 60, 61, 62] (by decide +kernel) (by decide +kernel)
set_option maxRecDepth 20000 in
theorem gX12_rodTold_X12_offAt : GoodIn wsX12_rodTold (wsV RX12 260 RX12 yX12_offAt wsX12_offAt) := goodIn_app (goodIn_of _ (by decide +kernel)) ggX12_rodTold_X12_offAt
set_option maxRecDepth 20000 in
theorem ggX12_rodTold_X12_abs : GoodIn wsX12_rodTold wsX12_abs := goodIn_r _ [20] (by decide +kernel) (by decide +kernel)
set_option maxRecDepth 20000 in
theorem gX12_rodTold_X12_abs : GoodIn wsX12_rodTold (va_wsS RX12 263 yX12_abs wsX12_abs) := goodIn_app (goodIn_of _ (by decide +kernel)) ggX12_rodTold_X12_abs
theorem dX12_rodTold_0 : decode cX12_rodTold 0 = .ok (.iload_n 1, 1) := by decide +kernel
theorem dX12_rodTold_1 : decode cX12_rodTold 1 = .ok (.i2l, 1) := by decide +kernel
theorem dX12_rodTold_2 : decode cX12_rodTold 2 = .ok (.lconst 0, 1) := by decide +kernel
theorem dX12_rodTold_3 : decode cX12_rodTold 3 = .ok (.aload_n 0, 1) := by decide +kernel
theorem dX12_rodTold_4 : decode cX12_rodTold 4 = .ok (.getfield 47, 3) := by decide +kernel
theorem dX12_rodTold_7 : decode cX12_rodTold 7 = .ok (.iconst 0, 1) := by decide +kernel
theorem dX12_rodTold_8 : decode cX12_rodTold 8 = .ok (.iaload, 1) := by decide +kernel
theorem dX12_rodTold_9 : decode cX12_rodTold 9 = .ok (.iconst 1, 1) := by decide +kernel
theorem dX12_rodTold_10 : decode cX12_rodTold 10 = .ok (.isub, 1) := by decide +kernel
theorem dX12_rodTold_11 : decode cX12_rodTold 11 = .ok (.i2l, 1) := by decide +kernel
theorem dX12_rodTold_12 : decode cX12_rodTold 12 = .ok (.invokestatic 93, 3) := by decide +kernel
theorem dX12_rodTold_15 : decode cX12_rodTold 15 = .ok (.ifCond .eq 15, 3) := by decide +kernel
theorem dX12_rodTold_18 : decode cX12_rodTold 18 = .ok (.iload_n 2, 1) := by decide +kernel
theorem dX12_rodTold_19 : decode cX12_rodTold 19 = .ok (.i2l, 1) := by decide +kernel
theorem dX12_rodTold_20 : decode cX12_rodTold 20 = .ok (.lconst 0, 1) := by decide +kernel
theorem dX12_rodTold_21 : decode cX12_rodTold 21 = .ok (.ldc2_w 107, 3) := by decide +kernel
theorem dX12_rodTold_24 : decode cX12_rodTold 24 = .ok (.invokestatic 93, 3) := by decide +kernel
theorem dX12_rodTold_27 : decode cX12_rodTold 27 = .ok (.ifCond .ne 7, 3) := by decide +kernel
theorem dX12_rodTold_30 : decode cX12_rodTold 30 = .ok (.sipush (-10000), 3) := by decide +kernel
theorem dX12_rodTold_33 : decode cX12_rodTold 33 = .ok (.ireturn, 1) := by decide +kernel
theorem dX12_rodTold_34 : decode cX12_rodTold 34 = .ok (.bipush 8, 2) := by decide +kernel
theorem dX12_rodTold_36 : decode cX12_rodTold 36 = .ok (.iload_n 1, 1) := by decide +kernel
theorem dX12_rodTold_37 : decode cX12_rodTold 37 = .ok (.imul, 1) := by decide +kernel
theorem dX12_rodTold_38 : decode cX12_rodTold 38 = .ok (.istore_n 3, 1) := by decide +kernel
theorem dX12_rodTold_39 : decode cX12_rodTold 39 = .ok (.iload_n 2, 1) := by decide +kernel
theorem dX12_rodTold_40 : decode cX12_rodTold 40 = .ok (.tableswitch 67 0 2 #[28, 39, 49], 28) := by decide +kernel
theorem dX12_rodTold_68 : decode cX12_rodTold 68 = .ok (.aload_n 0, 1) := by decide +kernel
theorem dX12_rodTold_69 : decode cX12_rodTold 69 = .ok (.iload_n 3, 1) := by decide +kernel
theorem dX12_rodTold_70 : decode cX12_rodTold 70 = .ok (.aload_n 0, 1) := by decide +kernel
theorem dX12_rodTold_71 : decode cX12_rodTold 71 = .ok (.iload_n 3, 1) := by decide +kernel
theorem dX12_rodTold_72 : decode cX12_rodTold 72 = .ok (.invokevirtual 274, 3) := by decide +kernel
theorem dX12_rodTold_75 : decode cX12_rodTold 75 = .ok (.invokevirtual 260, 3) := by decide +kernel
theorem dX12_rodTold_78 : decode cX12_rodTold 78 = .ok (.ireturn, 1) := by decide +kernel
theorem dX12_rodTold_79 : decode cX12_rodTold 79 = .ok (.aload_n 0, 1) := by decide +kernel
theorem dX12_rodTold_80 : decode cX12_rodTold 80 = .ok (.getfield 50, 3) := by decide +kernel
theorem dX12_rodTold_83 : decode cX12_rodTold 83 = .ok (.iload_n 3, 1) := by decide +kernel
theorem dX12_rodTold_84 : decode cX12_rodTold 84 = .ok (.bipush 6, 2) := by decide +kernel
theorem dX12_rodTold_86 : decode cX12_rodTold 86 = .ok (.iadd, 1) := by decide +kernel
theorem dX12_rodTold_87 : decode cX12_rodTold 87 = .ok (.iaload, 1) := by decide +kernel
theorem dX12_rodTold_88 : decode cX12_rodTold 88 = .ok (.ireturn, 1) := by decide +kernel
theorem dX12_rodTold_89 : decode cX12_rodTold 89 = .ok (.aload_n 0, 1) := by decide +kernel
theorem dX12_rodTold_90 : decode cX12_rodTold 90 = .ok (.getfield 50, 3) := by decide +kernel
theorem dX12_rodTold_93 : decode cX12_rodTold 93 = .ok (.iload_n 3, 1) := by decide +kernel
theorem dX12_rodTold_94 : decode cX12_rodTold 94 = .ok (.bipush 7, 2) := by decide +kernel
theorem dX12_rodTold_96 : decode cX12_rodTold 96 = .ok (.iadd, 1) := by decide +kernel
theorem dX12_rodTold_97 : decode cX12_rodTold 97 = .ok (.iaload, 1) := by decide +kernel
theorem dX12_rodTold_98 : decode cX12_rodTold 98 = .ok (.ifCond .ge 7, 3) := by decide +kernel
theorem dX12_rodTold_101 : decode cX12_rodTold 101 = .ok (.iconst 0, 1) := by decide +kernel
theorem dX12_rodTold_102 : decode cX12_rodTold 102 = .ok (.goto 4, 3) := by decide +kernel
theorem dX12_rodTold_105 : decode cX12_rodTold 105 = .ok (.iconst 1, 1) := by decide +kernel
theorem dX12_rodTold_106 : decode cX12_rodTold 106 = .ok (.ireturn, 1) := by decide +kernel
theorem dX12_rodTold_107 : decode cX12_rodTold 107 = .ok (.iconst 0, 1) := by decide +kernel
theorem dX12_rodTold_108 : decode cX12_rodTold 108 = .ok (.istore 4, 2) := by decide +kernel
theorem dX12_rodTold_110 : decode cX12_rodTold 110 = .ok (.iload 4, 2) := by decide +kernel
theorem dX12_rodTold_112 : decode cX12_rodTold 112 = .ok (.aload_n 0, 1) := by decide +kernel
theorem dX12_rodTold_113 : decode cX12_rodTold 113 = .ok (.iload_n 3, 1) := by decide +kernel
theorem dX12_rodTold_114 : decode cX12_rodTold 114 = .ok (.invokevirtual 274, 3) := by decide +kernel
theorem dX12_rodTold_117 : decode cX12_rodTold 117 = .ok (.if_icmp .ge 49, 3) := by decide +kernel
theorem dX12_rodTold_120 : decode cX12_rodTold 120 = .ok (.aload_n 0, 1) := by decide +kernel
theorem dX12_rodTold_121 : decode cX12_rodTold 121 = .ok (.getfield 50, 3) := by decide +kernel
theorem dX12_rodTold_124 : decode cX12_rodTold 124 = .ok (.iload_n 3, 1) := by decide +kernel
theorem dX12_rodTold_125 : decode cX12_rodTold 125 = .ok (.iconst 4, 1) := by decide +kernel
theorem dX12_rodTold_126 : decode cX12_rodTold 126 = .ok (.iadd, 1) := by decide +kernel
theorem dX12_rodTold_127 : decode cX12_rodTold 127 = .ok (.iaload, 1) := by decide +kernel
theorem dX12_rodTold_128 : decode cX12_rodTold 128 = .ok (.ifCond .le 38, 3) := by decide +kernel
theorem dX12_rodTold_131 : decode cX12_rodTold 131 = .ok (.aload_n 0, 1) := by decide +kernel
theorem dX12_rodTold_132 : decode cX12_rodTold 132 = .ok (.iload_n 3, 1) := by decide +kernel
theorem dX12_rodTold_133 : decode cX12_rodTold 133 = .ok (.iload 4, 2) := by decide +kernel
theorem dX12_rodTold_135 : decode cX12_rodTold 135 = .ok (.invokevirtual 260, 3) := by decide +kernel
theorem dX12_rodTold_138 : decode cX12_rodTold 138 = .ok (.invokestatic 263, 3) := by decide +kernel
theorem dX12_rodTold_141 : decode cX12_rodTold 141 = .ok (.aload_n 0, 1) := by decide +kernel
theorem dX12_rodTold_142 : decode cX12_rodTold 142 = .ok (.getfield 65, 3) := by decide +kernel
theorem dX12_rodTold_145 : decode cX12_rodTold 145 = .ok (.if_icmp .le 15, 3) := by decide +kernel
theorem dX12_rodTold_148 : decode cX12_rodTold 148 = .ok (.aload_n 0, 1) := by decide +kernel
theorem dX12_rodTold_149 : decode cX12_rodTold 149 = .ok (.getfield 50, 3) := by decide +kernel
theorem dX12_rodTold_152 : decode cX12_rodTold 152 = .ok (.iload_n 3, 1) := by decide +kernel
theorem dX12_rodTold_153 : decode cX12_rodTold 153 = .ok (.iconst 5, 1) := by decide +kernel
theorem dX12_rodTold_154 : decode cX12_rodTold 154 = .ok (.iadd, 1) := by decide +kernel
theorem dX12_rodTold_155 : decode cX12_rodTold 155 = .ok (.iaload, 1) := by decide +kernel
theorem dX12_rodTold_156 : decode cX12_rodTold 156 = .ok (.iload 4, 2) := by decide +kernel
theorem dX12_rodTold_158 : decode cX12_rodTold 158 = .ok (.iadd, 1) := by decide +kernel
theorem dX12_rodTold_159 : decode cX12_rodTold 159 = .ok (.ireturn, 1) := by decide +kernel
theorem dX12_rodTold_160 : decode cX12_rodTold 160 = .ok (.iinc 4 1, 3) := by decide +kernel
theorem dX12_rodTold_163 : decode cX12_rodTold 163 = .ok (.goto (-53), 3) := by decide +kernel
theorem dX12_rodTold_166 : decode cX12_rodTold 166 = .ok (.sipush (-1000), 3) := by decide +kernel
theorem dX12_rodTold_169 : decode cX12_rodTold 169 = .ok (.ireturn, 1) := by decide +kernel
set_option maxRecDepth 20000 in
theorem ggX12_cheated_X12_in : GoodIn wsX12_cheated wsX12_in := goodIn_r _ [8] (by decide +kernel) (by decide +kernel)
set_option maxRecDepth 20000 in
theorem gX12_cheated_X12_in : GoodIn wsX12_cheated (va_wsS RX12 93 yX12_in wsX12_in) := goodIn_app (goodIn_of _ (by decide +kernel)) ggX12_cheated_X12_in
theorem dX12_cheated_0 : decode cX12_cheated 0 = .ok (.iload_n 1, 1) := by decide +kernel
theorem dX12_cheated_1 : decode cX12_cheated 1 = .ok (.i2l, 1) := by decide +kernel
theorem dX12_cheated_2 : decode cX12_cheated 2 = .ok (.lconst 0, 1) := by decide +kernel
theorem dX12_cheated_3 : decode cX12_cheated 3 = .ok (.ldc2_w 200, 3) := by decide +kernel
theorem dX12_cheated_6 : decode cX12_cheated 6 = .ok (.invokestatic 93, 3) := by decide +kernel
theorem dX12_cheated_9 : decode cX12_cheated 9 = .ok (.ifCond .eq 13, 3) := by decide +kernel
theorem dX12_cheated_12 : decode cX12_cheated 12 = .ok (.iload_n 2, 1) := by decide +kernel
theorem dX12_cheated_13 : decode cX12_cheated 13 = .ok (.i2l, 1) := by decide +kernel
theorem dX12_cheated_14 : decode cX12_cheated 14 = .ok (.lconst 0, 1) := by decide +kernel
theorem dX12_cheated_15 : decode cX12_cheated 15 = .ok (.lconst 1, 1) := by decide +kernel
theorem dX12_cheated_16 : decode cX12_cheated 16 = .ok (.invokestatic 93, 3) := by decide +kernel
theorem dX12_cheated_19 : decode cX12_cheated 19 = .ok (.ifCond .ne 7, 3) := by decide +kernel
theorem dX12_cheated_22 : decode cX12_cheated 22 = .ok (.ldc2_w 119, 3) := by decide +kernel
theorem dX12_cheated_25 : decode cX12_cheated 25 = .ok (.lreturn, 1) := by decide +kernel
theorem dX12_cheated_26 : decode cX12_cheated 26 = .ok (.iload_n 2, 1) := by decide +kernel
theorem dX12_cheated_27 : decode cX12_cheated 27 = .ok (.ifCond .ne 12, 3) := by decide +kernel
theorem dX12_cheated_30 : decode cX12_cheated 30 = .ok (.aload_n 0, 1) := by decide +kernel
theorem dX12_cheated_31 : decode cX12_cheated 31 = .ok (.getfield 56, 3) := by decide +kernel
theorem dX12_cheated_34 : decode cX12_cheated 34 = .ok (.iload_n 1, 1) := by decide +kernel
theorem dX12_cheated_35 : decode cX12_cheated 35 = .ok (.laload, 1) := by decide +kernel
theorem dX12_cheated_36 : decode cX12_cheated 36 = .ok (.goto 9, 3) := by decide +kernel
theorem dX12_cheated_39 : decode cX12_cheated 39 = .ok (.aload_n 0, 1) := by decide +kernel
theorem dX12_cheated_40 : decode cX12_cheated 40 = .ok (.getfield 59, 3) := by decide +kernel
theorem dX12_cheated_43 : decode cX12_cheated 43 = .ok (.iload_n 1, 1) := by decide +kernel
theorem dX12_cheated_44 : decode cX12_cheated 44 = .ok (.laload, 1) := by decide +kernel
theorem dX12_cheated_45 : decode cX12_cheated 45 = .ok (.lreturn, 1) := by decide +kernel
theorem dX12_laySets_0 : decode cX12_laySets 0 = .ok (.aload_n 0, 1) := by decide +kernel
theorem dX12_laySets_1 : decode cX12_laySets 1 = .ok (.iconst 0, 1) := by decide +kernel
theorem dX12_laySets_2 : decode cX12_laySets 2 = .ok (.putfield 277, 3) := by decide +kernel
theorem dX12_laySets_5 : decode cX12_laySets 5 = .ok (.iconst 0, 1) := by decide +kernel
theorem dX12_laySets_6 : decode cX12_laySets 6 = .ok (.istore_n 2, 1) := by decide +kernel
theorem dX12_laySets_7 : decode cX12_laySets 7 = .ok (.iload_n 2, 1) := by decide +kernel
theorem dX12_laySets_8 : decode cX12_laySets 8 = .ok (.bipush 64, 2) := by decide +kernel
theorem dX12_laySets_10 : decode cX12_laySets 10 = .ok (.if_icmp .ge 61, 3) := by decide +kernel
theorem dX12_laySets_13 : decode cX12_laySets 13 = .ok (.iconst 0, 1) := by decide +kernel
theorem dX12_laySets_14 : decode cX12_laySets 14 = .ok (.istore_n 3, 1) := by decide +kernel
theorem dX12_laySets_15 : decode cX12_laySets 15 = .ok (.iconst 0, 1) := by decide +kernel
theorem dX12_laySets_16 : decode cX12_laySets 16 = .ok (.istore 4, 2) := by decide +kernel
theorem dX12_laySets_18 : decode cX12_laySets 18 = .ok (.iload 4, 2) := by decide +kernel
theorem dX12_laySets_20 : decode cX12_laySets 20 = .ok (.bipush 6, 2) := by decide +kernel
theorem dX12_laySets_22 : decode cX12_laySets 22 = .ok (.if_icmp .ge 18, 3) := by decide +kernel
theorem dX12_laySets_25 : decode cX12_laySets 25 = .ok (.iload_n 3, 1) := by decide +kernel
theorem dX12_laySets_26 : decode cX12_laySets 26 = .ok (.iload_n 2, 1) := by decide +kernel
theorem dX12_laySets_27 : decode cX12_laySets 27 = .ok (.iload 4, 2) := by decide +kernel
theorem dX12_laySets_29 : decode cX12_laySets 29 = .ok (.ishr, 1) := by decide +kernel
theorem dX12_laySets_30 : decode cX12_laySets 30 = .ok (.iconst 1, 1) := by decide +kernel
theorem dX12_laySets_31 : decode cX12_laySets 31 = .ok (.iand, 1) := by decide +kernel
theorem dX12_laySets_32 : decode cX12_laySets 32 = .ok (.iadd, 1) := by decide +kernel
theorem dX12_laySets_33 : decode cX12_laySets 33 = .ok (.istore_n 3, 1) := by decide +kernel
theorem dX12_laySets_34 : decode cX12_laySets 34 = .ok (.iinc 4 1, 3) := by decide +kernel
theorem dX12_laySets_37 : decode cX12_laySets 37 = .ok (.goto (-19), 3) := by decide +kernel
theorem dX12_laySets_40 : decode cX12_laySets 40 = .ok (.iload_n 3, 1) := by decide +kernel
theorem dX12_laySets_41 : decode cX12_laySets 41 = .ok (.iload_n 1, 1) := by decide +kernel
theorem dX12_laySets_42 : decode cX12_laySets 42 = .ok (.if_icmp .gt 23, 3) := by decide +kernel
theorem dX12_laySets_45 : decode cX12_laySets 45 = .ok (.aload_n 0, 1) := by decide +kernel
theorem dX12_laySets_46 : decode cX12_laySets 46 = .ok (.getfield 81, 3) := by decide +kernel
theorem dX12_laySets_49 : decode cX12_laySets 49 = .ok (.aload_n 0, 1) := by decide +kernel
theorem dX12_laySets_50 : decode cX12_laySets 50 = .ok (.getfield 277, 3) := by decide +kernel
theorem dX12_laySets_53 : decode cX12_laySets 53 = .ok (.iload_n 2, 1) := by decide +kernel
theorem dX12_laySets_54 : decode cX12_laySets 54 = .ok (.iastore, 1) := by decide +kernel
theorem dX12_laySets_55 : decode cX12_laySets 55 = .ok (.aload_n 0, 1) := by decide +kernel
theorem dX12_laySets_56 : decode cX12_laySets 56 = .ok (.dup, 1) := by decide +kernel
theorem dX12_laySets_57 : decode cX12_laySets 57 = .ok (.getfield 277, 3) := by decide +kernel
theorem dX12_laySets_60 : decode cX12_laySets 60 = .ok (.iconst 1, 1) := by decide +kernel
theorem dX12_laySets_61 : decode cX12_laySets 61 = .ok (.iadd, 1) := by decide +kernel
theorem dX12_laySets_62 : decode cX12_laySets 62 = .ok (.putfield 277, 3) := by decide +kernel
theorem dX12_laySets_65 : decode cX12_laySets 65 = .ok (.iinc 2 1, 3) := by decide +kernel
theorem dX12_laySets_68 : decode cX12_laySets 68 = .ok (.goto (-61), 3) := by decide +kernel
theorem dX12_laySets_71 : decode cX12_laySets 71 = .ok (.return_, 1) := by decide +kernel
set_option maxRecDepth 20000 in
theorem ggX12_cheatedBy_X12_offAt : GoodIn wsX12_cheatedBy wsX12_offAt := goodIn_r _ [11, 2, 33, 34, 35, 36, 37, 38, 39, 40, 41, 42, 43, 44, 45, 46, 47, 48, 49, 50, 51, 52, 53, 54, 55, 56, 57, 58, 59, 60, 61, 62, 63, 64, 65, 66, 67, 68, 69, 70, 71, 72, 73, 74] (by decide +kernel) (by decide +kernel)
set_option maxRecDepth 20000 in
theorem gX12_cheatedBy_X12_offAt : GoodIn wsX12_cheatedBy (wsV RX12 260 RX12 yX12_offAt wsX12_offAt) := goodIn_app (goodIn_of _ (by decide +kernel)) ggX12_cheatedBy_X12_offAt
set_option maxRecDepth 20000 in
theorem ggX12_cheatedBy_X12_isFalse : GoodIn wsX12_cheatedBy wsX12_isFalse := goodIn_r _ [15, 16, 2, 7, 8, 9, 10, 11, 17, 18, 19, 20, 21, 22, 23, 24, 25, 26, 27, 28, 29, 30, 31, 32, 33, 34, 35, 36, 37, 38, 39, 40, 41, 42, 43, 44, 45, 46, 47, 48, 49, 50, 51, 52, 53, 54, 55, 56, 57, 58, 59, 60, 61, 62, 63, 64, 65, 66, 67, 68, 69, 70, 71, 72, 73, 74] (by decide +kernel) (by decide +kernel)
set_option maxRecDepth 20000 in
theorem gX12_cheatedBy_X12_isFalse : GoodIn wsX12_cheatedBy (wsV RX12 267 RX12 yX12_isFalse wsX12_isFalse) := goodIn_app (goodIn_of _ (by decide +kernel)) ggX12_cheatedBy_X12_isFalse
theorem dX12_cheatedBy_0 : decode cX12_cheatedBy 0 = .ok (.lconst 0, 1) := by decide +kernel
theorem dX12_cheatedBy_1 : decode cX12_cheatedBy 1 = .ok (.lstore_n 2, 1) := by decide +kernel
theorem dX12_cheatedBy_2 : decode cX12_cheatedBy 2 = .ok (.iconst 0, 1) := by decide +kernel
theorem dX12_cheatedBy_3 : decode cX12_cheatedBy 3 = .ok (.istore 4, 2) := by decide +kernel
theorem dX12_cheatedBy_5 : decode cX12_cheatedBy 5 = .ok (.iload 4, 2) := by decide +kernel
theorem dX12_cheatedBy_7 : decode cX12_cheatedBy 7 = .ok (.bipush 8, 2) := by decide +kernel
theorem dX12_cheatedBy_9 : decode cX12_cheatedBy 9 = .ok (.aload_n 0, 1) := by decide +kernel
theorem dX12_cheatedBy_10 : decode cX12_cheatedBy 10 = .ok (.getfield 47, 3) := by decide +kernel
theorem dX12_cheatedBy_13 : decode cX12_cheatedBy 13 = .ok (.iconst 0, 1) := by decide +kernel
theorem dX12_cheatedBy_14 : decode cX12_cheatedBy 14 = .ok (.iaload, 1) := by decide +kernel
theorem dX12_cheatedBy_15 : decode cX12_cheatedBy 15 = .ok (.imul, 1) := by decide +kernel
theorem dX12_cheatedBy_16 : decode cX12_cheatedBy 16 = .ok (.if_icmp .ge 176, 3) := by decide +kernel
theorem dX12_cheatedBy_19 : decode cX12_cheatedBy 19 = .ok (.aload_n 0, 1) := by decide +kernel
theorem dX12_cheatedBy_20 : decode cX12_cheatedBy 20 = .ok (.getfield 50, 3) := by decide +kernel
theorem dX12_cheatedBy_23 : decode cX12_cheatedBy 23 = .ok (.iload 4, 2) := by decide +kernel
theorem dX12_cheatedBy_25 : decode cX12_cheatedBy 25 = .ok (.bipush 7, 2) := by decide +kernel
theorem dX12_cheatedBy_27 : decode cX12_cheatedBy 27 = .ok (.iadd, 1) := by decide +kernel
theorem dX12_cheatedBy_28 : decode cX12_cheatedBy 28 = .ok (.iaload, 1) := by decide +kernel
theorem dX12_cheatedBy_29 : decode cX12_cheatedBy 29 = .ok (.ifCond .ge 7, 3) := by decide +kernel
theorem dX12_cheatedBy_32 : decode cX12_cheatedBy 32 = .ok (.iconst 1, 1) := by decide +kernel
theorem dX12_cheatedBy_33 : decode cX12_cheatedBy 33 = .ok (.goto 4, 3) := by decide +kernel
theorem dX12_cheatedBy_36 : decode cX12_cheatedBy 36 = .ok (.iconst 0, 1) := by decide +kernel
theorem dX12_cheatedBy_37 : decode cX12_cheatedBy 37 = .ok (.istore 5, 2) := by decide +kernel
theorem dX12_cheatedBy_39 : decode cX12_cheatedBy 39 = .ok (.iconst 0, 1) := by decide +kernel
theorem dX12_cheatedBy_40 : decode cX12_cheatedBy 40 = .ok (.istore 6, 2) := by decide +kernel
theorem dX12_cheatedBy_42 : decode cX12_cheatedBy 42 = .ok (.iload 6, 2) := by decide +kernel
theorem dX12_cheatedBy_44 : decode cX12_cheatedBy 44 = .ok (.iload_n 1, 1) := by decide +kernel
theorem dX12_cheatedBy_45 : decode cX12_cheatedBy 45 = .ok (.if_icmp .ge 141, 3) := by decide +kernel
theorem dX12_cheatedBy_48 : decode cX12_cheatedBy 48 = .ok (.iload 5, 2) := by decide +kernel
theorem dX12_cheatedBy_50 : decode cX12_cheatedBy 50 = .ok (.ifCond .eq 136, 3) := by decide +kernel
theorem dX12_cheatedBy_53 : decode cX12_cheatedBy 53 = .ok (.aload_n 0, 1) := by decide +kernel
theorem dX12_cheatedBy_54 : decode cX12_cheatedBy 54 = .ok (.getfield 53, 3) := by decide +kernel
theorem dX12_cheatedBy_57 : decode cX12_cheatedBy 57 = .ok (.iconst 0, 1) := by decide +kernel
theorem dX12_cheatedBy_58 : decode cX12_cheatedBy 58 = .ok (.iaload, 1) := by decide +kernel
theorem dX12_cheatedBy_59 : decode cX12_cheatedBy 59 = .ok (.iload 6, 2) := by decide +kernel
theorem dX12_cheatedBy_61 : decode cX12_cheatedBy 61 = .ok (.iadd, 1) := by decide +kernel
theorem dX12_cheatedBy_62 : decode cX12_cheatedBy 62 = .ok (.aload_n 0, 1) := by decide +kernel
theorem dX12_cheatedBy_63 : decode cX12_cheatedBy 63 = .ok (.getfield 50, 3) := by decide +kernel
theorem dX12_cheatedBy_66 : decode cX12_cheatedBy 66 = .ok (.iload 4, 2) := by decide +kernel
theorem dX12_cheatedBy_68 : decode cX12_cheatedBy 68 = .ok (.iconst 5, 1) := by decide +kernel
theorem dX12_cheatedBy_69 : decode cX12_cheatedBy 69 = .ok (.iadd, 1) := by decide +kernel
theorem dX12_cheatedBy_70 : decode cX12_cheatedBy 70 = .ok (.iaload, 1) := by decide +kernel
theorem dX12_cheatedBy_71 : decode cX12_cheatedBy 71 = .ok (.isub, 1) := by decide +kernel
theorem dX12_cheatedBy_72 : decode cX12_cheatedBy 72 = .ok (.istore 7, 2) := by decide +kernel
theorem dX12_cheatedBy_74 : decode cX12_cheatedBy 74 = .ok (.aload_n 0, 1) := by decide +kernel
theorem dX12_cheatedBy_75 : decode cX12_cheatedBy 75 = .ok (.iload 4, 2) := by decide +kernel
theorem dX12_cheatedBy_77 : decode cX12_cheatedBy 77 = .ok (.iload 7, 2) := by decide +kernel
theorem dX12_cheatedBy_79 : decode cX12_cheatedBy 79 = .ok (.invokevirtual 260, 3) := by decide +kernel
theorem dX12_cheatedBy_82 : decode cX12_cheatedBy 82 = .ok (.istore 8, 2) := by decide +kernel
theorem dX12_cheatedBy_84 : decode cX12_cheatedBy 84 = .ok (.lload_n 2, 1) := by decide +kernel
theorem dX12_cheatedBy_85 : decode cX12_cheatedBy 85 = .ok (.iload 8, 2) := by decide +kernel
theorem dX12_cheatedBy_87 : decode cX12_cheatedBy 87 = .ok (.ifCond .ge 39, 3) := by decide +kernel
theorem dX12_cheatedBy_90 : decode cX12_cheatedBy 90 = .ok (.aload_n 0, 1) := by decide +kernel
theorem dX12_cheatedBy_91 : decode cX12_cheatedBy 91 = .ok (.getfield 50, 3) := by decide +kernel
theorem dX12_cheatedBy_94 : decode cX12_cheatedBy 94 = .ok (.iload 4, 2) := by decide +kernel
theorem dX12_cheatedBy_96 : decode cX12_cheatedBy 96 = .ok (.iconst 4, 1) := by decide +kernel
theorem dX12_cheatedBy_97 : decode cX12_cheatedBy 97 = .ok (.iadd, 1) := by decide +kernel
theorem dX12_cheatedBy_98 : decode cX12_cheatedBy 98 = .ok (.iaload, 1) := by decide +kernel
theorem dX12_cheatedBy_99 : decode cX12_cheatedBy 99 = .ok (.i2l, 1) := by decide +kernel
theorem dX12_cheatedBy_100 : decode cX12_cheatedBy 100 = .ok (.aload_n 0, 1) := by decide +kernel
theorem dX12_cheatedBy_101 : decode cX12_cheatedBy 101 = .ok (.getfield 13, 3) := by decide +kernel
theorem dX12_cheatedBy_104 : decode cX12_cheatedBy 104 = .ok (.aload_n 0, 1) := by decide +kernel
theorem dX12_cheatedBy_105 : decode cX12_cheatedBy 105 = .ok (.getfield 50, 3) := by decide +kernel
theorem dX12_cheatedBy_108 : decode cX12_cheatedBy 108 = .ok (.iload 4, 2) := by decide +kernel
theorem dX12_cheatedBy_110 : decode cX12_cheatedBy 110 = .ok (.iaload, 1) := by decide +kernel
theorem dX12_cheatedBy_111 : decode cX12_cheatedBy 111 = .ok (.iaload, 1) := by decide +kernel
theorem dX12_cheatedBy_112 : decode cX12_cheatedBy 112 = .ok (.i2l, 1) := by decide +kernel
theorem dX12_cheatedBy_113 : decode cX12_cheatedBy 113 = .ok (.lmul, 1) := by decide +kernel
theorem dX12_cheatedBy_114 : decode cX12_cheatedBy 114 = .ok (.iload 8, 2) := by decide +kernel
theorem dX12_cheatedBy_116 : decode cX12_cheatedBy 116 = .ok (.ineg, 1) := by decide +kernel
theorem dX12_cheatedBy_117 : decode cX12_cheatedBy 117 = .ok (.i2l, 1) := by decide +kernel
theorem dX12_cheatedBy_118 : decode cX12_cheatedBy 118 = .ok (.lmul, 1) := by decide +kernel
theorem dX12_cheatedBy_119 : decode cX12_cheatedBy 119 = .ok (.ldc2_w 109, 3) := by decide +kernel
theorem dX12_cheatedBy_122 : decode cX12_cheatedBy 122 = .ok (.ldiv, 1) := by decide +kernel
theorem dX12_cheatedBy_123 : decode cX12_cheatedBy 123 = .ok (.goto 4, 3) := by decide +kernel
theorem dX12_cheatedBy_126 : decode cX12_cheatedBy 126 = .ok (.lconst 0, 1) := by decide +kernel
theorem dX12_cheatedBy_127 : decode cX12_cheatedBy 127 = .ok (.ladd, 1) := by decide +kernel
theorem dX12_cheatedBy_128 : decode cX12_cheatedBy 128 = .ok (.lstore_n 2, 1) := by decide +kernel
theorem dX12_cheatedBy_129 : decode cX12_cheatedBy 129 = .ok (.aload_n 0, 1) := by decide +kernel
theorem dX12_cheatedBy_130 : decode cX12_cheatedBy 130 = .ok (.getfield 87, 3) := by decide +kernel
theorem dX12_cheatedBy_133 : decode cX12_cheatedBy 133 = .ok (.iload 6, 2) := by decide +kernel
theorem dX12_cheatedBy_135 : decode cX12_cheatedBy 135 = .ok (.iaload, 1) := by decide +kernel
theorem dX12_cheatedBy_136 : decode cX12_cheatedBy 136 = .ok (.aload_n 0, 1) := by decide +kernel
theorem dX12_cheatedBy_137 : decode cX12_cheatedBy 137 = .ok (.getfield 50, 3) := by decide +kernel
theorem dX12_cheatedBy_140 : decode cX12_cheatedBy 140 = .ok (.iload 4, 2) := by decide +kernel
theorem dX12_cheatedBy_142 : decode cX12_cheatedBy 142 = .ok (.iconst 1, 1) := by decide +kernel
theorem dX12_cheatedBy_143 : decode cX12_cheatedBy 143 = .ok (.iadd, 1) := by decide +kernel
theorem dX12_cheatedBy_144 : decode cX12_cheatedBy 144 = .ok (.iaload, 1) := by decide +kernel
theorem dX12_cheatedBy_145 : decode cX12_cheatedBy 145 = .ok (.ishr, 1) := by decide +kernel
theorem dX12_cheatedBy_146 : decode cX12_cheatedBy 146 = .ok (.iconst 1, 1) := by decide +kernel
theorem dX12_cheatedBy_147 : decode cX12_cheatedBy 147 = .ok (.iand, 1) := by decide +kernel
theorem dX12_cheatedBy_148 : decode cX12_cheatedBy 148 = .ok (.ifCond .eq 25, 3) := by decide +kernel
theorem dX12_cheatedBy_151 : decode cX12_cheatedBy 151 = .ok (.aload_n 0, 1) := by decide +kernel
theorem dX12_cheatedBy_152 : decode cX12_cheatedBy 152 = .ok (.iload 4, 2) := by decide +kernel
theorem dX12_cheatedBy_154 : decode cX12_cheatedBy 154 = .ok (.iload 7, 2) := by decide +kernel
theorem dX12_cheatedBy_156 : decode cX12_cheatedBy 156 = .ok (.iconst 1, 1) := by decide +kernel
theorem dX12_cheatedBy_157 : decode cX12_cheatedBy 157 = .ok (.iadd, 1) := by decide +kernel
theorem dX12_cheatedBy_158 : decode cX12_cheatedBy 158 = .ok (.aload_n 0, 1) := by decide +kernel
theorem dX12_cheatedBy_159 : decode cX12_cheatedBy 159 = .ok (.getfield 53, 3) := by decide +kernel
theorem dX12_cheatedBy_162 : decode cX12_cheatedBy 162 = .ok (.iconst 0, 1) := by decide +kernel
theorem dX12_cheatedBy_163 : decode cX12_cheatedBy 163 = .ok (.iaload, 1) := by decide +kernel
theorem dX12_cheatedBy_164 : decode cX12_cheatedBy 164 = .ok (.iload 6, 2) := by decide +kernel
theorem dX12_cheatedBy_166 : decode cX12_cheatedBy 166 = .ok (.iadd, 1) := by decide +kernel
theorem dX12_cheatedBy_167 : decode cX12_cheatedBy 167 = .ok (.invokevirtual 267, 3) := by decide +kernel
theorem dX12_cheatedBy_170 : decode cX12_cheatedBy 170 = .ok (.ifCond .ne 7, 3) := by decide +kernel
theorem dX12_cheatedBy_173 : decode cX12_cheatedBy 173 = .ok (.iconst 1, 1) := by decide +kernel
theorem dX12_cheatedBy_174 : decode cX12_cheatedBy 174 = .ok (.goto 4, 3) := by decide +kernel
theorem dX12_cheatedBy_177 : decode cX12_cheatedBy 177 = .ok (.iconst 0, 1) := by decide +kernel
theorem dX12_cheatedBy_178 : decode cX12_cheatedBy 178 = .ok (.istore 5, 2) := by decide +kernel
theorem dX12_cheatedBy_180 : decode cX12_cheatedBy 180 = .ok (.iinc 6 1, 3) := by decide +kernel
theorem dX12_cheatedBy_183 : decode cX12_cheatedBy 183 = .ok (.goto (-141), 3) := by decide +kernel
theorem dX12_cheatedBy_186 : decode cX12_cheatedBy 186 = .ok (.iinc 4 8, 3) := by decide +kernel
theorem dX12_cheatedBy_189 : decode cX12_cheatedBy 189 = .ok (.goto (-184), 3) := by decide +kernel
theorem dX12_cheatedBy_192 : decode cX12_cheatedBy 192 = .ok (.lload_n 2, 1) := by decide +kernel
theorem dX12_cheatedBy_193 : decode cX12_cheatedBy 193 = .ok (.lreturn, 1) := by decide +kernel
set_option maxRecDepth 20000 in
theorem ggX12_rounds_X12_in : GoodIn wsX12_rounds wsX12_in := goodIn_r _ [11] (by decide +kernel) (by decide +kernel)
set_option maxRecDepth 20000 in
theorem gX12_rounds_X12_in : GoodIn wsX12_rounds (va_wsS RX12 93 yX12_in wsX12_in) := goodIn_app (goodIn_of _ (by decide +kernel)) ggX12_rounds_X12_in
set_option maxRecDepth 20000 in
theorem ggX12_rounds_X12_laySets : GoodIn wsX12_rounds wsX12_laySets := goodIn_r _ [15, 4, 6, 47, 48, 49, 50, 51, 52, 53, 54, 55, 56, 57, 58, 59, 60, 61, 62, 63, 64, 65, 66, 67, 68, 69, 70, 71, 72, 73, 74, 75, 76, 77, 78, 79, 80, 81, 82, 83, 84, 85, 86, 87, 88] (by decide +kernel) (by decide +kernel)
set_option maxRecDepth 20000 in
theorem gX12_rounds_X12_laySets : GoodIn wsX12_rounds (wsV RX12 280 RX12 yX12_laySets wsX12_laySets) := goodIn_app (goodIn_of _ (by decide +kernel)) ggX12_rounds_X12_laySets
set_option maxRecDepth 20000 in
theorem ggX12_rounds_X12_cheatedBy : GoodIn wsX12_rounds wsX12_cheatedBy := goodIn_r _ [19, 20, 21, 22, 23, 24, 5, 25, 26, 27, 10, 28, 29, 30, 31, 32, 33, 34, 35, 36, 37, 38, 39, 40, 41, 42, 43, 44, 45, 46, 8, 9, 11, 47, 48, 49, 50, 51, 52, 53, 54, 55, 56, 57, 58, 59, 60, 61, 62, 63, 64, 65, 66, 67, 68, 69, 70, 71, 72, 73, 74, 75, 76, 77, 78, 79, 80, 81, 82, 83, 84, 85, 86, 87, 88] (by decide +kernel) (by decide +kernel)
set_option maxRecDepth 20000 in
theorem gX12_rounds_X12_cheatedBy : GoodIn wsX12_rounds (wsV RX12 283 RX12 yX12_cheatedBy wsX12_cheatedBy) := goodIn_app (goodIn_of _ (by decide +kernel)) ggX12_rounds_X12_cheatedBy
theorem dX12_rounds_0 : decode cX12_rounds 0 = .ok (.iload_n 1, 1) := by decide +kernel
theorem dX12_rounds_1 : decode cX12_rounds 1 = .ok (.i2l, 1) := by decide +kernel
theorem dX12_rounds_2 : decode cX12_rounds 2 = .ok (.lconst 1, 1) := by decide +kernel
theorem dX12_rounds_3 : decode cX12_rounds 3 = .ok (.ldc2_w 157, 3) := by decide +kernel
theorem dX12_rounds_6 : decode cX12_rounds 6 = .ok (.invokestatic 93, 3) := by decide +kernel
theorem dX12_rounds_9 : decode cX12_rounds 9 = .ok (.ifCond .eq 30, 3) := by decide +kernel
theorem dX12_rounds_12 : decode cX12_rounds 12 = .ok (.iload_n 2, 1) := by decide +kernel
theorem dX12_rounds_13 : decode cX12_rounds 13 = .ok (.i2l, 1) := by decide +kernel
theorem dX12_rounds_14 : decode cX12_rounds 14 = .ok (.lconst 1, 1) := by decide +kernel
theorem dX12_rounds_15 : decode cX12_rounds 15 = .ok (.ldc2_w 230, 3) := by decide +kernel
theorem dX12_rounds_18 : decode cX12_rounds 18 = .ok (.invokestatic 93, 3) := by decide +kernel
theorem dX12_rounds_21 : decode cX12_rounds 21 = .ok (.ifCond .eq 18, 3) := by decide +kernel
theorem dX12_rounds_24 : decode cX12_rounds 24 = .ok (.iload_n 3, 1) := by decide +kernel
theorem dX12_rounds_25 : decode cX12_rounds 25 = .ok (.i2l, 1) := by decide +kernel
theorem dX12_rounds_26 : decode cX12_rounds 26 = .ok (.ldc2_w 119, 3) := by decide +kernel
theorem dX12_rounds_29 : decode cX12_rounds 29 = .ok (.iload_n 1, 1) := by decide +kernel
theorem dX12_rounds_30 : decode cX12_rounds 30 = .ok (.iconst 1, 1) := by decide +kernel
theorem dX12_rounds_31 : decode cX12_rounds 31 = .ok (.isub, 1) := by decide +kernel
theorem dX12_rounds_32 : decode cX12_rounds 32 = .ok (.i2l, 1) := by decide +kernel
theorem dX12_rounds_33 : decode cX12_rounds 33 = .ok (.invokestatic 93, 3) := by decide +kernel
theorem dX12_rounds_36 : decode cX12_rounds 36 = .ok (.ifCond .ne 7, 3) := by decide +kernel
theorem dX12_rounds_39 : decode cX12_rounds 39 = .ok (.ldc2_w 119, 3) := by decide +kernel
theorem dX12_rounds_42 : decode cX12_rounds 42 = .ok (.lreturn, 1) := by decide +kernel
theorem dX12_rounds_43 : decode cX12_rounds 43 = .ok (.aload_n 0, 1) := by decide +kernel
theorem dX12_rounds_44 : decode cX12_rounds 44 = .ok (.iload_n 2, 1) := by decide +kernel
theorem dX12_rounds_45 : decode cX12_rounds 45 = .ok (.invokevirtual 280, 3) := by decide +kernel
theorem dX12_rounds_48 : decode cX12_rounds 48 = .ok (.iconst 1, 1) := by decide +kernel
theorem dX12_rounds_49 : decode cX12_rounds 49 = .ok (.istore 4, 2) := by decide +kernel
theorem dX12_rounds_51 : decode cX12_rounds 51 = .ok (.iconst 0, 1) := by decide +kernel
theorem dX12_rounds_52 : decode cX12_rounds 52 = .ok (.istore 5, 2) := by decide +kernel
theorem dX12_rounds_54 : decode cX12_rounds 54 = .ok (.iload 5, 2) := by decide +kernel
theorem dX12_rounds_56 : decode cX12_rounds 56 = .ok (.iload_n 1, 1) := by decide +kernel
theorem dX12_rounds_57 : decode cX12_rounds 57 = .ok (.if_icmp .ge 18, 3) := by decide +kernel
theorem dX12_rounds_60 : decode cX12_rounds 60 = .ok (.iload 4, 2) := by decide +kernel
theorem dX12_rounds_62 : decode cX12_rounds 62 = .ok (.aload_n 0, 1) := by decide +kernel
theorem dX12_rounds_63 : decode cX12_rounds 63 = .ok (.getfield 277, 3) := by decide +kernel
theorem dX12_rounds_66 : decode cX12_rounds 66 = .ok (.imul, 1) := by decide +kernel
theorem dX12_rounds_67 : decode cX12_rounds 67 = .ok (.istore 4, 2) := by decide +kernel
theorem dX12_rounds_69 : decode cX12_rounds 69 = .ok (.iinc 5 1, 3) := by decide +kernel
theorem dX12_rounds_72 : decode cX12_rounds 72 = .ok (.goto (-18), 3) := by decide +kernel
theorem dX12_rounds_75 : decode cX12_rounds 75 = .ok (.ldc2_w 119, 3) := by decide +kernel
theorem dX12_rounds_78 : decode cX12_rounds 78 = .ok (.lstore 5, 2) := by decide +kernel
theorem dX12_rounds_80 : decode cX12_rounds 80 = .ok (.iconst 0, 1) := by decide +kernel
theorem dX12_rounds_81 : decode cX12_rounds 81 = .ok (.istore 7, 2) := by decide +kernel
theorem dX12_rounds_83 : decode cX12_rounds 83 = .ok (.iload 7, 2) := by decide +kernel
theorem dX12_rounds_85 : decode cX12_rounds 85 = .ok (.iload 4, 2) := by decide +kernel
theorem dX12_rounds_87 : decode cX12_rounds 87 = .ok (.if_icmp .ge 136, 3) := by decide +kernel
theorem dX12_rounds_90 : decode cX12_rounds 90 = .ok (.iload 7, 2) := by decide +kernel
theorem dX12_rounds_92 : decode cX12_rounds 92 = .ok (.istore 8, 2) := by decide +kernel
theorem dX12_rounds_94 : decode cX12_rounds 94 = .ok (.iload_n 1, 1) := by decide +kernel
theorem dX12_rounds_95 : decode cX12_rounds 95 = .ok (.iconst 1, 1) := by decide +kernel
theorem dX12_rounds_96 : decode cX12_rounds 96 = .ok (.isub, 1) := by decide +kernel
theorem dX12_rounds_97 : decode cX12_rounds 97 = .ok (.istore 9, 2) := by decide +kernel
theorem dX12_rounds_99 : decode cX12_rounds 99 = .ok (.iload 9, 2) := by decide +kernel
theorem dX12_rounds_101 : decode cX12_rounds 101 = .ok (.ifCond .lt 37, 3) := by decide +kernel
theorem dX12_rounds_104 : decode cX12_rounds 104 = .ok (.aload_n 0, 1) := by decide +kernel
theorem dX12_rounds_105 : decode cX12_rounds 105 = .ok (.getfield 87, 3) := by decide +kernel
theorem dX12_rounds_108 : decode cX12_rounds 108 = .ok (.iload 9, 2) := by decide +kernel
theorem dX12_rounds_110 : decode cX12_rounds 110 = .ok (.aload_n 0, 1) := by decide +kernel
theorem dX12_rounds_111 : decode cX12_rounds 111 = .ok (.getfield 81, 3) := by decide +kernel
theorem dX12_rounds_114 : decode cX12_rounds 114 = .ok (.iload 8, 2) := by decide +kernel
theorem dX12_rounds_116 : decode cX12_rounds 116 = .ok (.aload_n 0, 1) := by decide +kernel
theorem dX12_rounds_117 : decode cX12_rounds 117 = .ok (.getfield 277, 3) := by decide +kernel
theorem dX12_rounds_120 : decode cX12_rounds 120 = .ok (.irem, 1) := by decide +kernel
theorem dX12_rounds_121 : decode cX12_rounds 121 = .ok (.iaload, 1) := by decide +kernel
theorem dX12_rounds_122 : decode cX12_rounds 122 = .ok (.iastore, 1) := by decide +kernel
theorem dX12_rounds_123 : decode cX12_rounds 123 = .ok (.iload 8, 2) := by decide +kernel
theorem dX12_rounds_125 : decode cX12_rounds 125 = .ok (.aload_n 0, 1) := by decide +kernel
theorem dX12_rounds_126 : decode cX12_rounds 126 = .ok (.getfield 277, 3) := by decide +kernel
theorem dX12_rounds_129 : decode cX12_rounds 129 = .ok (.idiv, 1) := by decide +kernel
theorem dX12_rounds_130 : decode cX12_rounds 130 = .ok (.istore 8, 2) := by decide +kernel
theorem dX12_rounds_132 : decode cX12_rounds 132 = .ok (.iinc 9 (-1), 3) := by decide +kernel
theorem dX12_rounds_135 : decode cX12_rounds 135 = .ok (.goto (-36), 3) := by decide +kernel
theorem dX12_rounds_138 : decode cX12_rounds 138 = .ok (.aload_n 0, 1) := by decide +kernel
theorem dX12_rounds_139 : decode cX12_rounds 139 = .ok (.getfield 87, 3) := by decide +kernel
theorem dX12_rounds_142 : decode cX12_rounds 142 = .ok (.iload_n 1, 1) := by decide +kernel
theorem dX12_rounds_143 : decode cX12_rounds 143 = .ok (.iconst 1, 1) := by decide +kernel
theorem dX12_rounds_144 : decode cX12_rounds 144 = .ok (.isub, 1) := by decide +kernel
theorem dX12_rounds_145 : decode cX12_rounds 145 = .ok (.iaload, 1) := by decide +kernel
theorem dX12_rounds_146 : decode cX12_rounds 146 = .ok (.ifCond .ne 11, 3) := by decide +kernel
theorem dX12_rounds_149 : decode cX12_rounds 149 = .ok (.aload_n 0, 1) := by decide +kernel
theorem dX12_rounds_150 : decode cX12_rounds 150 = .ok (.iload_n 1, 1) := by decide +kernel
theorem dX12_rounds_151 : decode cX12_rounds 151 = .ok (.invokevirtual 283, 3) := by decide +kernel
theorem dX12_rounds_154 : decode cX12_rounds 154 = .ok (.goto 6, 3) := by decide +kernel
theorem dX12_rounds_157 : decode cX12_rounds 157 = .ok (.ldc2_w 119, 3) := by decide +kernel
theorem dX12_rounds_160 : decode cX12_rounds 160 = .ok (.lstore 9, 2) := by decide +kernel
theorem dX12_rounds_162 : decode cX12_rounds 162 = .ok (.lload 9, 2) := by decide +kernel
theorem dX12_rounds_164 : decode cX12_rounds 164 = .ok (.lconst 0, 1) := by decide +kernel
theorem dX12_rounds_165 : decode cX12_rounds 165 = .ok (.lcmp, 1) := by decide +kernel
theorem dX12_rounds_166 : decode cX12_rounds 166 = .ok (.ifCond .lt 51, 3) := by decide +kernel
theorem dX12_rounds_169 : decode cX12_rounds 169 = .ok (.lload 5, 2) := by decide +kernel
theorem dX12_rounds_171 : decode cX12_rounds 171 = .ok (.lconst 0, 1) := by decide +kernel
theorem dX12_rounds_172 : decode cX12_rounds 172 = .ok (.lcmp, 1) := by decide +kernel
theorem dX12_rounds_173 : decode cX12_rounds 173 = .ok (.ifCond .lt 11, 3) := by decide +kernel
theorem dX12_rounds_176 : decode cX12_rounds 176 = .ok (.lload 9, 2) := by decide +kernel
theorem dX12_rounds_178 : decode cX12_rounds 178 = .ok (.lload 5, 2) := by decide +kernel
theorem dX12_rounds_180 : decode cX12_rounds 180 = .ok (.lcmp, 1) := by decide +kernel
theorem dX12_rounds_181 : decode cX12_rounds 181 = .ok (.ifCond .ge 36, 3) := by decide +kernel
theorem dX12_rounds_184 : decode cX12_rounds 184 = .ok (.lload 9, 2) := by decide +kernel
theorem dX12_rounds_186 : decode cX12_rounds 186 = .ok (.lstore 5, 2) := by decide +kernel
theorem dX12_rounds_188 : decode cX12_rounds 188 = .ok (.iconst 0, 1) := by decide +kernel
theorem dX12_rounds_189 : decode cX12_rounds 189 = .ok (.istore 11, 2) := by decide +kernel
theorem dX12_rounds_191 : decode cX12_rounds 191 = .ok (.iload 11, 2) := by decide +kernel
theorem dX12_rounds_193 : decode cX12_rounds 193 = .ok (.iconst 4, 1) := by decide +kernel
theorem dX12_rounds_194 : decode cX12_rounds 194 = .ok (.if_icmp .ge 23, 3) := by decide +kernel
theorem dX12_rounds_197 : decode cX12_rounds 197 = .ok (.aload_n 0, 1) := by decide +kernel
theorem dX12_rounds_198 : decode cX12_rounds 198 = .ok (.getfield 84, 3) := by decide +kernel
theorem dX12_rounds_201 : decode cX12_rounds 201 = .ok (.iload 11, 2) := by decide +kernel
theorem dX12_rounds_203 : decode cX12_rounds 203 = .ok (.aload_n 0, 1) := by decide +kernel
theorem dX12_rounds_204 : decode cX12_rounds 204 = .ok (.getfield 87, 3) := by decide +kernel
theorem dX12_rounds_207 : decode cX12_rounds 207 = .ok (.iload 11, 2) := by decide +kernel
theorem dX12_rounds_209 : decode cX12_rounds 209 = .ok (.iaload, 1) := by decide +kernel
theorem dX12_rounds_210 : decode cX12_rounds 210 = .ok (.iastore, 1) := by decide +kernel
theorem dX12_rounds_211 : decode cX12_rounds 211 = .ok (.iinc 11 1, 3) := by decide +kernel
theorem dX12_rounds_214 : decode cX12_rounds 214 = .ok (.goto (-23), 3) := by decide +kernel
theorem dX12_rounds_217 : decode cX12_rounds 217 = .ok (.iinc 7 1, 3) := by decide +kernel
theorem dX12_rounds_220 : decode cX12_rounds 220 = .ok (.goto (-137), 3) := by decide +kernel
theorem dX12_rounds_223 : decode cX12_rounds 223 = .ok (.iload_n 3, 1) := by decide +kernel
theorem dX12_rounds_224 : decode cX12_rounds 224 = .ok (.ifCond .ge 8, 3) := by decide +kernel
theorem dX12_rounds_227 : decode cX12_rounds 227 = .ok (.lload 5, 2) := by decide +kernel
theorem dX12_rounds_229 : decode cX12_rounds 229 = .ok (.goto 10, 3) := by decide +kernel
theorem dX12_rounds_232 : decode cX12_rounds 232 = .ok (.aload_n 0, 1) := by decide +kernel
theorem dX12_rounds_233 : decode cX12_rounds 233 = .ok (.getfield 84, 3) := by decide +kernel
theorem dX12_rounds_236 : decode cX12_rounds 236 = .ok (.iload_n 3, 1) := by decide +kernel
theorem dX12_rounds_237 : decode cX12_rounds 237 = .ok (.iaload, 1) := by decide +kernel
theorem dX12_rounds_238 : decode cX12_rounds 238 = .ok (.i2l, 1) := by decide +kernel
theorem dX12_rounds_239 : decode cX12_rounds 239 = .ok (.lreturn, 1) := by decide +kernel
set_option maxRecDepth 20000 in
theorem ggX12_people_X12_in : GoodIn wsX12_people wsX12_in := goodIn_r _ [9] (by decide +kernel) (by decide +kernel)
set_option maxRecDepth 20000 in
theorem gX12_people_X12_in : GoodIn wsX12_people (va_wsS RX12 93 yX12_in wsX12_in) := goodIn_app (goodIn_of _ (by decide +kernel)) ggX12_people_X12_in
theorem dX12_people_0 : decode cX12_people 0 = .ok (.iload_n 1, 1) := by decide +kernel
theorem dX12_people_1 : decode cX12_people 1 = .ok (.i2l, 1) := by decide +kernel
theorem dX12_people_2 : decode cX12_people 2 = .ok (.lconst 0, 1) := by decide +kernel
theorem dX12_people_3 : decode cX12_people 3 = .ok (.ldc2_w 200, 3) := by decide +kernel
theorem dX12_people_6 : decode cX12_people 6 = .ok (.invokestatic 93, 3) := by decide +kernel
theorem dX12_people_9 : decode cX12_people 9 = .ok (.ifCond .eq 56, 3) := by decide +kernel
theorem dX12_people_12 : decode cX12_people 12 = .ok (.iload_n 2, 1) := by decide +kernel
theorem dX12_people_13 : decode cX12_people 13 = .ok (.i2l, 1) := by decide +kernel
theorem dX12_people_14 : decode cX12_people 14 = .ok (.lconst 0, 1) := by decide +kernel
theorem dX12_people_15 : decode cX12_people 15 = .ok (.ldc2_w 286, 3) := by decide +kernel
theorem dX12_people_18 : decode cX12_people 18 = .ok (.invokestatic 93, 3) := by decide +kernel
theorem dX12_people_21 : decode cX12_people 21 = .ok (.ifCond .eq 44, 3) := by decide +kernel
theorem dX12_people_24 : decode cX12_people 24 = .ok (.iload_n 3, 1) := by decide +kernel
theorem dX12_people_25 : decode cX12_people 25 = .ok (.i2l, 1) := by decide +kernel
theorem dX12_people_26 : decode cX12_people 26 = .ok (.lconst 0, 1) := by decide +kernel
