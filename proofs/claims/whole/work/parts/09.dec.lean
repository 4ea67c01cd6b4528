theorem dJ6_bitCount_0f7a4_51 : decode cJ6_bitCount_0f7a4 51 = .ok (.iand, 1) := by decide +kernel
theorem dJ6_bitCount_0f7a4_52 : decode cJ6_bitCount_0f7a4 52 = .ok (.ireturn, 1) := by decide +kernel
theorem dJ9_abs_0f7a4_0 : decode cJ9_abs_0f7a4 0 = .ok (.iload_n 0, 1) := by decide +kernel
theorem dJ9_abs_0f7a4_1 : decode cJ9_abs_0f7a4 1 = .ok (.ifCond .ge 8, 3) := by decide +kernel
theorem dJ9_abs_0f7a4_4 : decode cJ9_abs_0f7a4 4 = .ok (.iload_n 0, 1) := by decide +kernel
theorem dJ9_abs_0f7a4_5 : decode cJ9_abs_0f7a4 5 = .ok (.ineg, 1) := by decide +kernel
theorem dJ9_abs_0f7a4_6 : decode cJ9_abs_0f7a4 6 = .ok (.goto 4, 3) := by decide +kernel
theorem dJ9_abs_0f7a4_9 : decode cJ9_abs_0f7a4 9 = .ok (.iload_n 0, 1) := by decide +kernel
theorem dJ9_abs_0f7a4_10 : decode cJ9_abs_0f7a4 10 = .ok (.ireturn, 1) := by decide +kernel
theorem dJ9_max_7cf53_0 : decode cJ9_max_7cf53 0 = .ok (.iload_n 0, 1) := by decide +kernel
theorem dJ9_max_7cf53_1 : decode cJ9_max_7cf53 1 = .ok (.iload_n 1, 1) := by decide +kernel
theorem dJ9_max_7cf53_2 : decode cJ9_max_7cf53 2 = .ok (.if_icmp .lt 7, 3) := by decide +kernel
theorem dJ9_max_7cf53_5 : decode cJ9_max_7cf53 5 = .ok (.iload_n 0, 1) := by decide +kernel
theorem dJ9_max_7cf53_6 : decode cJ9_max_7cf53 6 = .ok (.goto 4, 3) := by decide +kernel
theorem dJ9_max_7cf53_9 : decode cJ9_max_7cf53 9 = .ok (.iload_n 1, 1) := by decide +kernel
theorem dJ9_max_7cf53_10 : decode cJ9_max_7cf53 10 = .ok (.ireturn, 1) := by decide +kernel
theorem dJ9_max_f86c9_0 : decode cJ9_max_f86c9 0 = .ok (.lload_n 0, 1) := by decide +kernel
theorem dJ9_max_f86c9_1 : decode cJ9_max_f86c9 1 = .ok (.lload_n 2, 1) := by decide +kernel
theorem dJ9_max_f86c9_2 : decode cJ9_max_f86c9 2 = .ok (.lcmp, 1) := by decide +kernel
theorem dJ9_max_f86c9_3 : decode cJ9_max_f86c9 3 = .ok (.ifCond .lt 7, 3) := by decide +kernel
theorem dJ9_max_f86c9_6 : decode cJ9_max_f86c9 6 = .ok (.lload_n 0, 1) := by decide +kernel
theorem dJ9_max_f86c9_7 : decode cJ9_max_f86c9 7 = .ok (.goto 4, 3) := by decide +kernel
theorem dJ9_max_f86c9_10 : decode cJ9_max_f86c9 10 = .ok (.lload_n 2, 1) := by decide +kernel
theorem dJ9_max_f86c9_11 : decode cJ9_max_f86c9 11 = .ok (.lreturn, 1) := by decide +kernel
theorem dJ9_min_7cf53_0 : decode cJ9_min_7cf53 0 = .ok (.iload_n 0, 1) := by decide +kernel
theorem dJ9_min_7cf53_1 : decode cJ9_min_7cf53 1 = .ok (.iload_n 1, 1) := by decide +kernel
theorem dJ9_min_7cf53_2 : decode cJ9_min_7cf53 2 = .ok (.if_icmp .gt 7, 3) := by decide +kernel
theorem dJ9_min_7cf53_5 : decode cJ9_min_7cf53 5 = .ok (.iload_n 0, 1) := by decide +kernel
theorem dJ9_min_7cf53_6 : decode cJ9_min_7cf53 6 = .ok (.goto 4, 3) := by decide +kernel
theorem dJ9_min_7cf53_9 : decode cJ9_min_7cf53 9 = .ok (.iload_n 1, 1) := by decide +kernel
theorem dJ9_min_7cf53_10 : decode cJ9_min_7cf53 10 = .ok (.ireturn, 1) := by decide +kernel
theorem dJ9_min_f86c9_0 : decode cJ9_min_f86c9 0 = .ok (.lload_n 0, 1) := by decide +kernel
theorem dJ9_min_f86c9_1 : decode cJ9_min_f86c9 1 = .ok (.lload_n 2, 1) := by decide +kernel
theorem dJ9_min_f86c9_2 : decode cJ9_min_f86c9 2 = .ok (.lcmp, 1) := by decide +kernel
theorem dJ9_min_f86c9_3 : decode cJ9_min_f86c9 3 = .ok (.ifCond .gt 7, 3) := by decide +kernel
theorem dJ9_min_f86c9_6 : decode cJ9_min_f86c9 6 = .ok (.lload_n 0, 1) := by decide +kernel
theorem dJ9_min_f86c9_7 : decode cJ9_min_f86c9 7 = .ok (.goto 4, 3) := by decide +kernel
theorem dJ9_min_f86c9_10 : decode cJ9_min_f86c9 10 = .ok (.lload_n 2, 1) := by decide +kernel
theorem dJ9_min_f86c9_11 : decode cJ9_min_f86c9 11 = .ok (.lreturn, 1) := by decide +kernel
theorem dJ7_fill_d0a16_0 : decode cJ7_fill_d0a16 0 = .ok (.iconst 0, 1) := by decide +kernel
theorem dJ7_fill_d0a16_1 : decode cJ7_fill_d0a16 1 = .ok (.istore_n 3, 1) := by decide +kernel
theorem dJ7_fill_d0a16_2 : decode cJ7_fill_d0a16 2 = .ok (.aload_n 0, 1) := by decide +kernel
theorem dJ7_fill_d0a16_3 : decode cJ7_fill_d0a16 3 = .ok (.arraylength, 1) := by decide +kernel
theorem dJ7_fill_d0a16_4 : decode cJ7_fill_d0a16 4 = .ok (.istore 4, 2) := by decide +kernel
theorem dJ7_fill_d0a16_6 : decode cJ7_fill_d0a16 6 = .ok (.iload_n 3, 1) := by decide +kernel
theorem dJ7_fill_d0a16_7 : decode cJ7_fill_d0a16 7 = .ok (.iload 4, 2) := by decide +kernel
theorem dJ7_fill_d0a16_9 : decode cJ7_fill_d0a16 9 = .ok (.if_icmp .ge 13, 3) := by decide +kernel
theorem dJ7_fill_d0a16_12 : decode cJ7_fill_d0a16 12 = .ok (.aload_n 0, 1) := by decide +kernel
theorem dJ7_fill_d0a16_13 : decode cJ7_fill_d0a16 13 = .ok (.iload_n 3, 1) := by decide +kernel
theorem dJ7_fill_d0a16_14 : decode cJ7_fill_d0a16 14 = .ok (.lload_n 1, 1) := by decide +kernel
theorem dJ7_fill_d0a16_15 : decode cJ7_fill_d0a16 15 = .ok (.lastore, 1) := by decide +kernel
theorem dJ7_fill_d0a16_16 : decode cJ7_fill_d0a16 16 = .ok (.iinc 3 1, 3) := by decide +kernel
theorem dJ7_fill_d0a16_19 : decode cJ7_fill_d0a16 19 = .ok (.goto (-13), 3) := by decide +kernel
theorem dJ7_fill_d0a16_22 : decode cJ7_fill_d0a16 22 = .ok (.return_, 1) := by decide +kernel
theorem dJ7_fill_53178_0 : decode cJ7_fill_53178 0 = .ok (.iconst 0, 1) := by decide +kernel
theorem dJ7_fill_53178_1 : decode cJ7_fill_53178 1 = .ok (.istore_n 2, 1) := by decide +kernel
theorem dJ7_fill_53178_2 : decode cJ7_fill_53178 2 = .ok (.aload_n 0, 1) := by decide +kernel
theorem dJ7_fill_53178_3 : decode cJ7_fill_53178 3 = .ok (.arraylength, 1) := by decide +kernel
theorem dJ7_fill_53178_4 : decode cJ7_fill_53178 4 = .ok (.istore_n 3, 1) := by decide +kernel
theorem dJ7_fill_53178_5 : decode cJ7_fill_53178 5 = .ok (.iload_n 2, 1) := by decide +kernel
theorem dJ7_fill_53178_6 : decode cJ7_fill_53178 6 = .ok (.iload_n 3, 1) := by decide +kernel
theorem dJ7_fill_53178_7 : decode cJ7_fill_53178 7 = .ok (.if_icmp .ge 13, 3) := by decide +kernel
theorem dJ7_fill_53178_10 : decode cJ7_fill_53178 10 = .ok (.aload_n 0, 1) := by decide +kernel
theorem dJ7_fill_53178_11 : decode cJ7_fill_53178 11 = .ok (.iload_n 2, 1) := by decide +kernel
theorem dJ7_fill_53178_12 : decode cJ7_fill_53178 12 = .ok (.iload_n 1, 1) := by decide +kernel
theorem dJ7_fill_53178_13 : decode cJ7_fill_53178 13 = .ok (.iastore, 1) := by decide +kernel
theorem dJ7_fill_53178_14 : decode cJ7_fill_53178 14 = .ok (.iinc 2 1, 3) := by decide +kernel
theorem dJ7_fill_53178_17 : decode cJ7_fill_53178 17 = .ok (.goto (-12), 3) := by decide +kernel
theorem dJ7_fill_53178_20 : decode cJ7_fill_53178 20 = .ok (.return_, 1) := by decide +kernel
theorem dX12_init_0 : decode cX12_init 0 = .ok (.aload_n 0, 1) := by decide +kernel
theorem dX12_init_1 : decode cX12_init 1 = .ok (.invokespecial 1, 3) := by decide +kernel
theorem dX12_init_4 : decode cX12_init 4 = .ok (.aload_n 0, 1) := by decide +kernel
theorem dX12_init_5 : decode cX12_init 5 = .ok (.bipush 16, 2) := by decide +kernel
theorem dX12_init_7 : decode cX12_init 7 = .ok (.newarray .int, 2) := by decide +kernel
theorem dX12_init_9 : decode cX12_init 9 = .ok (.putfield 7, 3) := by decide +kernel
theorem dX12_init_12 : decode cX12_init 12 = .ok (.aload_n 0, 1) := by decide +kernel
theorem dX12_init_13 : decode cX12_init 13 = .ok (.bipush 16, 2) := by decide +kernel
theorem dX12_init_15 : decode cX12_init 15 = .ok (.newarray .int, 2) := by decide +kernel
theorem dX12_init_17 : decode cX12_init 17 = .ok (.putfield 13, 3) := by decide +kernel
theorem dX12_init_20 : decode cX12_init 20 = .ok (.aload_n 0, 1) := by decide +kernel
theorem dX12_init_21 : decode cX12_init 21 = .ok (.bipush 16, 2) := by decide +kernel
theorem dX12_init_23 : decode cX12_init 23 = .ok (.newarray .int, 2) := by decide +kernel
theorem dX12_init_25 : decode cX12_init 25 = .ok (.putfield 16, 3) := by decide +kernel
theorem dX12_init_28 : decode cX12_init 28 = .ok (.aload_n 0, 1) := by decide +kernel
theorem dX12_init_29 : decode cX12_init 29 = .ok (.sipush 768, 3) := by decide +kernel
theorem dX12_init_32 : decode cX12_init 32 = .ok (.newarray .int, 2) := by decide +kernel
theorem dX12_init_34 : decode cX12_init 34 = .ok (.putfield 19, 3) := by decide +kernel
theorem dX12_init_37 : decode cX12_init 37 = .ok (.aload_n 0, 1) := by decide +kernel
theorem dX12_init_38 : decode cX12_init 38 = .ok (.bipush 12, 2) := by decide +kernel
theorem dX12_init_40 : decode cX12_init 40 = .ok (.newarray .int, 2) := by decide +kernel
theorem dX12_init_42 : decode cX12_init 42 = .ok (.putfield 22, 3) := by decide +kernel
theorem dX12_init_45 : decode cX12_init 45 = .ok (.aload_n 0, 1) := by decide +kernel
theorem dX12_init_46 : decode cX12_init 46 = .ok (.bipush 12, 2) := by decide +kernel
theorem dX12_init_48 : decode cX12_init 48 = .ok (.newarray .long, 2) := by decide +kernel
theorem dX12_init_50 : decode cX12_init 50 = .ok (.putfield 25, 3) := by decide +kernel
theorem dX12_init_53 : decode cX12_init 53 = .ok (.aload_n 0, 1) := by decide +kernel
theorem dX12_init_54 : decode cX12_init 54 = .ok (.bipush 12, 2) := by decide +kernel
theorem dX12_init_56 : decode cX12_init 56 = .ok (.newarray .long, 2) := by decide +kernel
theorem dX12_init_58 : decode cX12_init 58 = .ok (.putfield 29, 3) := by decide +kernel
theorem dX12_init_61 : decode cX12_init 61 = .ok (.aload_n 0, 1) := by decide +kernel
theorem dX12_init_62 : decode cX12_init 62 = .ok (.sipush 150, 3) := by decide +kernel
theorem dX12_init_65 : decode cX12_init 65 = .ok (.newarray .int, 2) := by decide +kernel
theorem dX12_init_67 : decode cX12_init 67 = .ok (.putfield 32, 3) := by decide +kernel
theorem dX12_init_70 : decode cX12_init 70 = .ok (.aload_n 0, 1) := by decide +kernel
theorem dX12_init_71 : decode cX12_init 71 = .ok (.sipush 300, 3) := by decide +kernel
theorem dX12_init_74 : decode cX12_init 74 = .ok (.newarray .int, 2) := by decide +kernel
theorem dX12_init_76 : decode cX12_init 76 = .ok (.putfield 35, 3) := by decide +kernel
theorem dX12_init_79 : decode cX12_init 79 = .ok (.aload_n 0, 1) := by decide +kernel
theorem dX12_init_80 : decode cX12_init 80 = .ok (.iconst 2, 1) := by decide +kernel
theorem dX12_init_81 : decode cX12_init 81 = .ok (.newarray .int, 2) := by decide +kernel
theorem dX12_init_83 : decode cX12_init 83 = .ok (.putfield 38, 3) := by decide +kernel
theorem dX12_init_86 : decode cX12_init 86 = .ok (.aload_n 0, 1) := by decide +kernel
theorem dX12_init_87 : decode cX12_init 87 = .ok (.sipush 600, 3) := by decide +kernel
theorem dX12_init_90 : decode cX12_init 90 = .ok (.newarray .int, 2) := by decide +kernel
theorem dX12_init_92 : decode cX12_init 92 = .ok (.putfield 41, 3) := by decide +kernel
theorem dX12_init_95 : decode cX12_init 95 = .ok (.aload_n 0, 1) := by decide +kernel
theorem dX12_init_96 : decode cX12_init 96 = .ok (.bipush 50, 2) := by decide +kernel
theorem dX12_init_98 : decode cX12_init 98 = .ok (.newarray .int, 2) := by decide +kernel
theorem dX12_init_100 : decode cX12_init 100 = .ok (.putfield 44, 3) := by decide +kernel
theorem dX12_init_103 : decode cX12_init 103 = .ok (.aload_n 0, 1) := by decide +kernel
theorem dX12_init_104 : decode cX12_init 104 = .ok (.iconst 3, 1) := by decide +kernel
theorem dX12_init_105 : decode cX12_init 105 = .ok (.newarray .int, 2) := by decide +kernel
theorem dX12_init_107 : decode cX12_init 107 = .ok (.putfield 47, 3) := by decide +kernel
theorem dX12_init_110 : decode cX12_init 110 = .ok (.aload_n 0, 1) := by decide +kernel
theorem dX12_init_111 : decode cX12_init 111 = .ok (.sipush 288, 3) := by decide +kernel
theorem dX12_init_114 : decode cX12_init 114 = .ok (.newarray .int, 2) := by decide +kernel
theorem dX12_init_116 : decode cX12_init 116 = .ok (.putfield 50, 3) := by decide +kernel
theorem dX12_init_119 : decode cX12_init 119 = .ok (.aload_n 0, 1) := by decide +kernel
theorem dX12_init_120 : decode cX12_init 120 = .ok (.iconst 3, 1) := by decide +kernel
theorem dX12_init_121 : decode cX12_init 121 = .ok (.newarray .int, 2) := by decide +kernel
theorem dX12_init_123 : decode cX12_init 123 = .ok (.putfield 53, 3) := by decide +kernel
theorem dX12_init_126 : decode cX12_init 126 = .ok (.aload_n 0, 1) := by decide +kernel
theorem dX12_init_127 : decode cX12_init 127 = .ok (.bipush 18, 2) := by decide +kernel
theorem dX12_init_129 : decode cX12_init 129 = .ok (.newarray .long, 2) := by decide +kernel
theorem dX12_init_131 : decode cX12_init 131 = .ok (.putfield 56, 3) := by decide +kernel
theorem dX12_init_134 : decode cX12_init 134 = .ok (.aload_n 0, 1) := by decide +kernel
theorem dX12_init_135 : decode cX12_init 135 = .ok (.bipush 18, 2) := by decide +kernel
theorem dX12_init_137 : decode cX12_init 137 = .ok (.newarray .long, 2) := by decide +kernel
theorem dX12_init_139 : decode cX12_init 139 = .ok (.putfield 59, 3) := by decide +kernel
theorem dX12_init_142 : decode cX12_init 142 = .ok (.aload_n 0, 1) := by decide +kernel
theorem dX12_init_143 : decode cX12_init 143 = .ok (.bipush 72, 2) := by decide +kernel
theorem dX12_init_145 : decode cX12_init 145 = .ok (.newarray .int, 2) := by decide +kernel
theorem dX12_init_147 : decode cX12_init 147 = .ok (.putfield 62, 3) := by decide +kernel
theorem dX12_init_150 : decode cX12_init 150 = .ok (.aload_n 0, 1) := by decide +kernel
theorem dX12_init_151 : decode cX12_init 151 = .ok (.bipush 20, 2) := by decide +kernel
theorem dX12_init_153 : decode cX12_init 153 = .ok (.putfield 65, 3) := by decide +kernel
theorem dX12_init_156 : decode cX12_init 156 = .ok (.aload_n 0, 1) := by decide +kernel
theorem dX12_init_157 : decode cX12_init 157 = .ok (.bipush 10, 2) := by decide +kernel
theorem dX12_init_159 : decode cX12_init 159 = .ok (.newarray .int, 2) := by decide +kernel
theorem dX12_init_161 : decode cX12_init 161 = .ok (.putfield 69, 3) := by decide +kernel
theorem dX12_init_164 : decode cX12_init 164 = .ok (.aload_n 0, 1) := by decide +kernel
theorem dX12_init_165 : decode cX12_init 165 = .ok (.iconst 4, 1) := by decide +kernel
theorem dX12_init_166 : decode cX12_init 166 = .ok (.newarray .int, 2) := by decide +kernel
theorem dX12_init_168 : decode cX12_init 168 = .ok (.putfield 72, 3) := by decide +kernel
theorem dX12_init_171 : decode cX12_init 171 = .ok (.aload_n 0, 1) := by decide +kernel
theorem dX12_init_172 : decode cX12_init 172 = .ok (.iconst 4, 1) := by decide +kernel
theorem dX12_init_173 : decode cX12_init 173 = .ok (.newarray .int, 2) := by decide +kernel
theorem dX12_init_175 : decode cX12_init 175 = .ok (.putfield 75, 3) := by decide +kernel
theorem dX12_init_178 : decode cX12_init 178 = .ok (.aload_n 0, 1) := by decide +kernel
theorem dX12_init_179 : decode cX12_init 179 = .ok (.iconst 4, 1) := by decide +kernel
theorem dX12_init_180 : decode cX12_init 180 = .ok (.newarray .int, 2) := by decide +kernel
theorem dX12_init_182 : decode cX12_init 182 = .ok (.putfield 78, 3) := by decide +kernel
theorem dX12_init_185 : decode cX12_init 185 = .ok (.aload_n 0, 1) := by decide +kernel
theorem dX12_init_186 : decode cX12_init 186 = .ok (.bipush 22, 2) := by decide +kernel
theorem dX12_init_188 : decode cX12_init 188 = .ok (.newarray .int, 2) := by decide +kernel
theorem dX12_init_190 : decode cX12_init 190 = .ok (.putfield 81, 3) := by decide +kernel
theorem dX12_init_193 : decode cX12_init 193 = .ok (.aload_n 0, 1) := by decide +kernel
theorem dX12_init_194 : decode cX12_init 194 = .ok (.iconst 4, 1) := by decide +kernel
theorem dX12_init_195 : decode cX12_init 195 = .ok (.newarray .int, 2) := by decide +kernel
theorem dX12_init_197 : decode cX12_init 197 = .ok (.putfield 84, 3) := by decide +kernel
theorem dX12_init_200 : decode cX12_init 200 = .ok (.aload_n 0, 1) := by decide +kernel
theorem dX12_init_201 : decode cX12_init 201 = .ok (.iconst 4, 1) := by decide +kernel
theorem dX12_init_202 : decode cX12_init 202 = .ok (.newarray .int, 2) := by decide +kernel
theorem dX12_init_204 : decode cX12_init 204 = .ok (.putfield 87, 3) := by decide +kernel
theorem dX12_init_207 : decode cX12_init 207 = .ok (.return_, 1) := by decide +kernel
theorem dX12_in_0 : decode cX12_in 0 = .ok (.lload_n 0, 1) := by decide +kernel
theorem dX12_in_1 : decode cX12_in 1 = .ok (.lload_n 2, 1) := by decide +kernel
theorem dX12_in_2 : decode cX12_in 2 = .ok (.lcmp, 1) := by decide +kernel
theorem dX12_in_3 : decode cX12_in 3 = .ok (.ifCond .lt 14, 3) := by decide +kernel
theorem dX12_in_6 : decode cX12_in 6 = .ok (.lload_n 0, 1) := by decide +kernel
theorem dX12_in_7 : decode cX12_in 7 = .ok (.lload 4, 2) := by decide +kernel
theorem dX12_in_9 : decode cX12_in 9 = .ok (.lcmp, 1) := by decide +kernel
theorem dX12_in_10 : decode cX12_in 10 = .ok (.ifCond .gt 7, 3) := by decide +kernel
theorem dX12_in_13 : decode cX12_in 13 = .ok (.iconst 1, 1) := by decide +kernel
theorem dX12_in_14 : decode cX12_in 14 = .ok (.goto 4, 3) := by decide +kernel
theorem dX12_in_17 : decode cX12_in 17 = .ok (.iconst 0, 1) := by decide +kernel
theorem dX12_in_18 : decode cX12_in 18 = .ok (.ireturn, 1) := by decide +kernel
set_option maxRecDepth 20000 in
theorem ggX12_isUnit_X12_in : GoodIn wsX12_isUnit wsX12_in := goodIn_r _ [5] (by decide +kernel) (by decide +kernel)
set_option maxRecDepth 20000 in
theorem gX12_isUnit_X12_in : GoodIn wsX12_isUnit (va_wsS RX12 93 yX12_in wsX12_in) := goodIn_app (goodIn_of _ (by decide +kernel)) ggX12_isUnit_X12_in
theorem dX12_isUnit_0 : decode cX12_isUnit 0 = .ok (.iload_n 1, 1) := by decide +kernel
theorem dX12_isUnit_1 : decode cX12_isUnit 1 = .ok (.i2l, 1) := by decide +kernel
theorem dX12_isUnit_2 : decode cX12_isUnit 2 = .ok (.lconst 0, 1) := by decide +kernel
theorem dX12_isUnit_3 : decode cX12_isUnit 3 = .ok (.aload_n 0, 1) := by decide +kernel
theorem dX12_isUnit_4 : decode cX12_isUnit 4 = .ok (.getfield 90, 3) := by decide +kernel
theorem dX12_isUnit_7 : decode cX12_isUnit 7 = .ok (.iconst 1, 1) := by decide +kernel
theorem dX12_isUnit_8 : decode cX12_isUnit 8 = .ok (.isub, 1) := by decide +kernel
theorem dX12_isUnit_9 : decode cX12_isUnit 9 = .ok (.i2l, 1) := by decide +kernel
theorem dX12_isUnit_10 : decode cX12_isUnit 10 = .ok (.invokestatic 93, 3) := by decide +kernel
theorem dX12_isUnit_13 : decode cX12_isUnit 13 = .ok (.ireturn, 1) := by decide +kernel
set_option maxRecDepth 20000 in
theorem ggX12_unit_X12_in : GoodIn wsX12_unit wsX12_in := goodIn_r _ [10] (by decide +kernel) (by decide +kernel)
set_option maxRecDepth 20000 in
theorem gX12_unit_X12_in : GoodIn wsX12_unit (va_wsS RX12 93 yX12_in wsX12_in) := goodIn_app (goodIn_of _ (by decide +kernel)) ggX12_unit_X12_in
theorem dX12_unit_0 : decode cX12_unit 0 = .ok (.iload_n 1, 1) := by decide +kernel
theorem dX12_unit_1 : decode cX12_unit 1 = .ok (.i2l, 1) := by decide +kernel
theorem dX12_unit_2 : decode cX12_unit 2 = .ok (.lconst 0, 1) := by decide +kernel
theorem dX12_unit_3 : decode cX12_unit 3 = .ok (.lconst 1, 1) := by decide +kernel
theorem dX12_unit_4 : decode cX12_unit 4 = .ok (.invokestatic 93, 3) := by decide +kernel
theorem dX12_unit_7 : decode cX12_unit 7 = .ok (.ifCond .eq 36, 3) := by decide +kernel
theorem dX12_unit_10 : decode cX12_unit 10 = .ok (.iload_n 2, 1) := by decide +kernel
theorem dX12_unit_11 : decode cX12_unit 11 = .ok (.i2l, 1) := by decide +kernel
theorem dX12_unit_12 : decode cX12_unit 12 = .ok (.lconst 1, 1) := by decide +kernel
theorem dX12_unit_13 : decode cX12_unit 13 = .ok (.ldc2_w 97, 3) := by decide +kernel
theorem dX12_unit_16 : decode cX12_unit 16 = .ok (.invokestatic 93, 3) := by decide +kernel
theorem dX12_unit_19 : decode cX12_unit 19 = .ok (.ifCond .eq 24, 3) := by decide +kernel
theorem dX12_unit_22 : decode cX12_unit 22 = .ok (.iload_n 3, 1) := by decide +kernel
theorem dX12_unit_23 : decode cX12_unit 23 = .ok (.i2l, 1) := by decide +kernel
theorem dX12_unit_24 : decode cX12_unit 24 = .ok (.lconst 0, 1) := by decide +kernel
theorem dX12_unit_25 : decode cX12_unit 25 = .ok (.iload_n 1, 1) := by decide +kernel
theorem dX12_unit_26 : decode cX12_unit 26 = .ok (.iconst 1, 1) := by decide +kernel
theorem dX12_unit_27 : decode cX12_unit 27 = .ok (.if_icmp .ne 9, 3) := by decide +kernel
theorem dX12_unit_30 : decode cX12_unit 30 = .ok (.ldc2_w 99, 3) := by decide +kernel
theorem dX12_unit_33 : decode cX12_unit 33 = .ok (.goto 4, 3) := by decide +kernel
theorem dX12_unit_36 : decode cX12_unit 36 = .ok (.lconst 0, 1) := by decide +kernel
theorem dX12_unit_37 : decode cX12_unit 37 = .ok (.invokestatic 93, 3) := by decide +kernel
theorem dX12_unit_40 : decode cX12_unit 40 = .ok (.ifCond .ne 5, 3) := by decide +kernel
theorem dX12_unit_43 : decode cX12_unit 43 = .ok (.iconst (-1), 1) := by decide +kernel
theorem dX12_unit_44 : decode cX12_unit 44 = .ok (.ireturn, 1) := by decide +kernel
theorem dX12_unit_45 : decode cX12_unit 45 = .ok (.aload_n 0, 1) := by decide +kernel
theorem dX12_unit_46 : decode cX12_unit 46 = .ok (.getfield 90, 3) := by decide +kernel
theorem dX12_unit_49 : decode cX12_unit 49 = .ok (.bipush 16, 2) := by decide +kernel
theorem dX12_unit_51 : decode cX12_unit 51 = .ok (.if_icmp .ne 6, 3) := by decide +kernel
theorem dX12_unit_54 : decode cX12_unit 54 = .ok (.bipush (-3), 2) := by decide +kernel
theorem dX12_unit_56 : decode cX12_unit 56 = .ok (.ireturn, 1) := by decide +kernel
theorem dX12_unit_57 : decode cX12_unit 57 = .ok (.aload_n 0, 1) := by decide +kernel
theorem dX12_unit_58 : decode cX12_unit 58 = .ok (.getfield 7, 3) := by decide +kernel
theorem dX12_unit_61 : decode cX12_unit 61 = .ok (.aload_n 0, 1) := by decide +kernel
theorem dX12_unit_62 : decode cX12_unit 62 = .ok (.getfield 90, 3) := by decide +kernel
theorem dX12_unit_65 : decode cX12_unit 65 = .ok (.iload_n 1, 1) := by decide +kernel
theorem dX12_unit_66 : decode cX12_unit 66 = .ok (.iastore, 1) := by decide +kernel
theorem dX12_unit_67 : decode cX12_unit 67 = .ok (.aload_n 0, 1) := by decide +kernel
theorem dX12_unit_68 : decode cX12_unit 68 = .ok (.getfield 13, 3) := by decide +kernel
theorem dX12_unit_71 : decode cX12_unit 71 = .ok (.aload_n 0, 1) := by decide +kernel
theorem dX12_unit_72 : decode cX12_unit 72 = .ok (.getfield 90, 3) := by decide +kernel
theorem dX12_unit_75 : decode cX12_unit 75 = .ok (.iload_n 2, 1) := by decide +kernel
theorem dX12_unit_76 : decode cX12_unit 76 = .ok (.iastore, 1) := by decide +kernel
theorem dX12_unit_77 : decode cX12_unit 77 = .ok (.aload_n 0, 1) := by decide +kernel
theorem dX12_unit_78 : decode cX12_unit 78 = .ok (.getfield 16, 3) := by decide +kernel
theorem dX12_unit_81 : decode cX12_unit 81 = .ok (.aload_n 0, 1) := by decide +kernel
theorem dX12_unit_82 : decode cX12_unit 82 = .ok (.getfield 90, 3) := by decide +kernel
theorem dX12_unit_85 : decode cX12_unit 85 = .ok (.iload_n 3, 1) := by decide +kernel
theorem dX12_unit_86 : decode cX12_unit 86 = .ok (.iastore, 1) := by decide +kernel
theorem dX12_unit_87 : decode cX12_unit 87 = .ok (.aload_n 0, 1) := by decide +kernel
theorem dX12_unit_88 : decode cX12_unit 88 = .ok (.dup, 1) := by decide +kernel
theorem dX12_unit_89 : decode cX12_unit 89 = .ok (.getfield 90, 3) := by decide +kernel
theorem dX12_unit_92 : decode cX12_unit 92 = .ok (.iconst 1, 1) := by decide +kernel
theorem dX12_unit_93 : decode cX12_unit 93 = .ok (.iadd, 1) := by decide +kernel
theorem dX12_unit_94 : decode cX12_unit 94 = .ok (.putfield 90, 3) := by decide +kernel
theorem dX12_unit_97 : decode cX12_unit 97 = .ok (.aload_n 0, 1) := by decide +kernel
theorem dX12_unit_98 : decode cX12_unit 98 = .ok (.getfield 90, 3) := by decide +kernel
theorem dX12_unit_101 : decode cX12_unit 101 = .ok (.iconst 1, 1) := by decide +kernel
theorem dX12_unit_102 : decode cX12_unit 102 = .ok (.isub, 1) := by decide +kernel
theorem dX12_unit_103 : decode cX12_unit 103 = .ok (.ireturn, 1) := by decide +kernel
set_option maxRecDepth 20000 in
theorem ggX12_table_X12_isUnit : GoodIn wsX12_table wsX12_isUnit := goodIn_r _ [9, 10, 11, 12, 8, 13, 14, 15, 16, 17, 18, 19, 20, 21, 22, 23, 24, 25, 26, 27, 28, 29, 30, 31, 32, 33, 34, 35, 36, 37, 38, 39, 40, 41, 42, 43, 44, 45, 46, 47, 48, 49, 50, 51, 52, 53, 54, 55] (by decide +kernel) (by decide +kernel)
set_option maxRecDepth 20000 in
theorem gX12_table_X12_isUnit : GoodIn wsX12_table (wsV RX12 101 RX12 yX12_isUnit wsX12_isUnit) := goodIn_app (goodIn_of _ (by decide +kernel)) ggX12_table_X12_isUnit
set_option maxRecDepth 20000 in
theorem ggX12_table_X12_in : GoodIn wsX12_table wsX12_in := goodIn_r _ [13] (by decide +kernel) (by decide +kernel)
set_option maxRecDepth 20000 in
theorem gX12_table_X12_in : GoodIn wsX12_table (va_wsS RX12 93 yX12_in wsX12_in) := goodIn_app (goodIn_of _ (by decide +kernel)) ggX12_table_X12_in
theorem dX12_table_0 : decode cX12_table 0 = .ok (.aload_n 0, 1) := by decide +kernel
theorem dX12_table_1 : decode cX12_table 1 = .ok (.iload_n 1, 1) := by decide +kernel
theorem dX12_table_2 : decode cX12_table 2 = .ok (.invokevirtual 101, 3) := by decide +kernel
theorem dX12_table_5 : decode cX12_table 5 = .ok (.ifCond .eq 54, 3) := by decide +kernel
theorem dX12_table_8 : decode cX12_table 8 = .ok (.aload_n 0, 1) := by decide +kernel
theorem dX12_table_9 : decode cX12_table 9 = .ok (.iload_n 2, 1) := by decide +kernel
theorem dX12_table_10 : decode cX12_table 10 = .ok (.invokevirtual 101, 3) := by decide +kernel
theorem dX12_table_13 : decode cX12_table 13 = .ok (.ifCond .eq 46, 3) := by decide +kernel
theorem dX12_table_16 : decode cX12_table 16 = .ok (.iload_n 1, 1) := by decide +kernel
theorem dX12_table_17 : decode cX12_table 17 = .ok (.iload_n 2, 1) := by decide +kernel
theorem dX12_table_18 : decode cX12_table 18 = .ok (.if_icmp .eq 41, 3) := by decide +kernel
theorem dX12_table_21 : decode cX12_table 21 = .ok (.iload_n 3, 1) := by decide +kernel
theorem dX12_table_22 : decode cX12_table 22 = .ok (.i2l, 1) := by decide +kernel
theorem dX12_table_23 : decode cX12_table 23 = .ok (.lconst 1, 1) := by decide +kernel
theorem dX12_table_24 : decode cX12_table 24 = .ok (.ldc2_w 105, 3) := by decide +kernel
theorem dX12_table_27 : decode cX12_table 27 = .ok (.invokestatic 93, 3) := by decide +kernel
theorem dX12_table_30 : decode cX12_table 30 = .ok (.ifCond .eq 29, 3) := by decide +kernel
theorem dX12_table_33 : decode cX12_table 33 = .ok (.iload 4, 2) := by decide +kernel
theorem dX12_table_35 : decode cX12_table 35 = .ok (.i2l, 1) := by decide +kernel
theorem dX12_table_36 : decode cX12_table 36 = .ok (.lconst 1, 1) := by decide +kernel
theorem dX12_table_37 : decode cX12_table 37 = .ok (.ldc2_w 105, 3) := by decide +kernel
theorem dX12_table_40 : decode cX12_table 40 = .ok (.invokestatic 93, 3) := by decide +kernel
theorem dX12_table_43 : decode cX12_table 43 = .ok (.ifCond .eq 16, 3) := by decide +kernel
theorem dX12_table_46 : decode cX12_table 46 = .ok (.iload 5, 2) := by decide +kernel
theorem dX12_table_48 : decode cX12_table 48 = .ok (.i2l, 1) := by decide +kernel
theorem dX12_table_49 : decode cX12_table 49 = .ok (.lconst 0, 1) := by decide +kernel
theorem dX12_table_50 : decode cX12_table 50 = .ok (.ldc2_w 107, 3) := by decide +kernel
theorem dX12_table_53 : decode cX12_table 53 = .ok (.invokestatic 93, 3) := by decide +kernel
theorem dX12_table_56 : decode cX12_table 56 = .ok (.ifCond .ne 5, 3) := by decide +kernel
theorem dX12_table_59 : decode cX12_table 59 = .ok (.iconst (-1), 1) := by decide +kernel
theorem dX12_table_60 : decode cX12_table 60 = .ok (.ireturn, 1) := by decide +kernel
theorem dX12_table_61 : decode cX12_table 61 = .ok (.aload_n 0, 1) := by decide +kernel
theorem dX12_table_62 : decode cX12_table 62 = .ok (.getfield 7, 3) := by decide +kernel
theorem dX12_table_65 : decode cX12_table 65 = .ok (.iload_n 1, 1) := by decide +kernel
theorem dX12_table_66 : decode cX12_table 66 = .ok (.iaload, 1) := by decide +kernel
theorem dX12_table_67 : decode cX12_table 67 = .ok (.aload_n 0, 1) := by decide +kernel
theorem dX12_table_68 : decode cX12_table 68 = .ok (.getfield 7, 3) := by decide +kernel
theorem dX12_table_71 : decode cX12_table 71 = .ok (.iload_n 2, 1) := by decide +kernel
theorem dX12_table_72 : decode cX12_table 72 = .ok (.iaload, 1) := by decide +kernel
theorem dX12_table_73 : decode cX12_table 73 = .ok (.if_icmp .eq 6, 3) := by decide +kernel
theorem dX12_table_76 : decode cX12_table 76 = .ok (.bipush (-2), 2) := by decide +kernel
theorem dX12_table_78 : decode cX12_table 78 = .ok (.ireturn, 1) := by decide +kernel
theorem dX12_table_79 : decode cX12_table 79 = .ok (.iconst 3, 1) := by decide +kernel
theorem dX12_table_80 : decode cX12_table 80 = .ok (.bipush 16, 2) := by decide +kernel
theorem dX12_table_82 : decode cX12_table 82 = .ok (.iload_n 1, 1) := by decide +kernel
theorem dX12_table_83 : decode cX12_table 83 = .ok (.imul, 1) := by decide +kernel
theorem dX12_table_84 : decode cX12_table 84 = .ok (.iload_n 2, 1) := by decide +kernel
theorem dX12_table_85 : decode cX12_table 85 = .ok (.iadd, 1) := by decide +kernel
theorem dX12_table_86 : decode cX12_table 86 = .ok (.imul, 1) := by decide +kernel
theorem dX12_table_87 : decode cX12_table 87 = .ok (.istore 6, 2) := by decide +kernel
theorem dX12_table_89 : decode cX12_table 89 = .ok (.aload_n 0, 1) := by decide +kernel
theorem dX12_table_90 : decode cX12_table 90 = .ok (.getfield 19, 3) := by decide +kernel
theorem dX12_table_93 : decode cX12_table 93 = .ok (.iload 6, 2) := by decide +kernel
theorem dX12_table_95 : decode cX12_table 95 = .ok (.iload_n 3, 1) := by decide +kernel
theorem dX12_table_96 : decode cX12_table 96 = .ok (.iastore, 1) := by decide +kernel
theorem dX12_table_97 : decode cX12_table 97 = .ok (.aload_n 0, 1) := by decide +kernel
theorem dX12_table_98 : decode cX12_table 98 = .ok (.getfield 19, 3) := by decide +kernel
theorem dX12_table_101 : decode cX12_table 101 = .ok (.iload 6, 2) := by decide +kernel
theorem dX12_table_103 : decode cX12_table 103 = .ok (.iconst 1, 1) := by decide +kernel
theorem dX12_table_104 : decode cX12_table 104 = .ok (.iadd, 1) := by decide +kernel
theorem dX12_table_105 : decode cX12_table 105 = .ok (.iload 4, 2) := by decide +kernel
theorem dX12_table_107 : decode cX12_table 107 = .ok (.iastore, 1) := by decide +kernel
theorem dX12_table_108 : decode cX12_table 108 = .ok (.aload_n 0, 1) := by decide +kernel
theorem dX12_table_109 : decode cX12_table 109 = .ok (.getfield 19, 3) := by decide +kernel
theorem dX12_table_112 : decode cX12_table 112 = .ok (.iload 6, 2) := by decide +kernel
theorem dX12_table_114 : decode cX12_table 114 = .ok (.iconst 2, 1) := by decide +kernel
theorem dX12_table_115 : decode cX12_table 115 = .ok (.iadd, 1) := by decide +kernel
theorem dX12_table_116 : decode cX12_table 116 = .ok (.iload 5, 2) := by decide +kernel
theorem dX12_table_118 : decode cX12_table 118 = .ok (.iastore, 1) := by decide +kernel
theorem dX12_table_119 : decode cX12_table 119 = .ok (.iconst 0, 1) := by decide +kernel
theorem dX12_table_120 : decode cX12_table 120 = .ok (.ireturn, 1) := by decide +kernel
theorem dX12_hasTable_0 : decode cX12_hasTable 0 = .ok (.aload_n 0, 1) := by decide +kernel
theorem dX12_hasTable_1 : decode cX12_hasTable 1 = .ok (.getfield 19, 3) := by decide +kernel
theorem dX12_hasTable_4 : decode cX12_hasTable 4 = .ok (.iconst 3, 1) := by decide +kernel
theorem dX12_hasTable_5 : decode cX12_hasTable 5 = .ok (.bipush 16, 2) := by decide +kernel
theorem dX12_hasTable_7 : decode cX12_hasTable 7 = .ok (.iload_n 1, 1) := by decide +kernel
theorem dX12_hasTable_8 : decode cX12_hasTable 8 = .ok (.imul, 1) := by decide +kernel
theorem dX12_hasTable_9 : decode cX12_hasTable 9 = .ok (.iload_n 2, 1) := by decide +kernel
theorem dX12_hasTable_10 : decode cX12_hasTable 10 = .ok (.iadd, 1) := by decide +kernel
theorem dX12_hasTable_11 : decode cX12_hasTable 11 = .ok (.imul, 1) := by decide +kernel
theorem dX12_hasTable_12 : decode cX12_hasTable 12 = .ok (.iaload, 1) := by decide +kernel
theorem dX12_hasTable_13 : decode cX12_hasTable 13 = .ok (.ifCond .le 7, 3) := by decide +kernel
theorem dX12_hasTable_16 : decode cX12_hasTable 16 = .ok (.iconst 1, 1) := by decide +kernel
theorem dX12_hasTable_17 : decode cX12_hasTable 17 = .ok (.goto 4, 3) := by decide +kernel
theorem dX12_hasTable_20 : decode cX12_hasTable 20 = .ok (.iconst 0, 1) := by decide +kernel
theorem dX12_hasTable_21 : decode cX12_hasTable 21 = .ok (.ireturn, 1) := by decide +kernel
theorem dX12_turned_0 : decode cX12_turned 0 = .ok (.iconst 3, 1) := by decide +kernel
theorem dX12_turned_1 : decode cX12_turned 1 = .ok (.bipush 16, 2) := by decide +kernel
theorem dX12_turned_3 : decode cX12_turned 3 = .ok (.iload_n 1, 1) := by decide +kernel
theorem dX12_turned_4 : decode cX12_turned 4 = .ok (.imul, 1) := by decide +kernel
theorem dX12_turned_5 : decode cX12_turned 5 = .ok (.iload_n 2, 1) := by decide +kernel
theorem dX12_turned_6 : decode cX12_turned 6 = .ok (.iadd, 1) := by decide +kernel
theorem dX12_turned_7 : decode cX12_turned 7 = .ok (.imul, 1) := by decide +kernel
theorem dX12_turned_8 : decode cX12_turned 8 = .ok (.istore 5, 2) := by decide +kernel
theorem dX12_turned_10 : decode cX12_turned 10 = .ok (.lload_n 3, 1) := by decide +kernel
theorem dX12_turned_11 : decode cX12_turned 11 = .ok (.aload_n 0, 1) := by decide +kernel
theorem dX12_turned_12 : decode cX12_turned 12 = .ok (.getfield 19, 3) := by decide +kernel
theorem dX12_turned_15 : decode cX12_turned 15 = .ok (.iload 5, 2) := by decide +kernel
theorem dX12_turned_17 : decode cX12_turned 17 = .ok (.iaload, 1) := by decide +kernel
theorem dX12_turned_18 : decode cX12_turned 18 = .ok (.i2l, 1) := by decide +kernel
theorem dX12_turned_19 : decode cX12_turned 19 = .ok (.lmul, 1) := by decide +kernel
theorem dX12_turned_20 : decode cX12_turned 20 = .ok (.aload_n 0, 1) := by decide +kernel
theorem dX12_turned_21 : decode cX12_turned 21 = .ok (.getfield 19, 3) := by decide +kernel
theorem dX12_turned_24 : decode cX12_turned 24 = .ok (.iload 5, 2) := by decide +kernel
theorem dX12_turned_26 : decode cX12_turned 26 = .ok (.iconst 1, 1) := by decide +kernel
theorem dX12_turned_27 : decode cX12_turned 27 = .ok (.iadd, 1) := by decide +kernel
theorem dX12_turned_28 : decode cX12_turned 28 = .ok (.iaload, 1) := by decide +kernel
theorem dX12_turned_29 : decode cX12_turned 29 = .ok (.i2l, 1) := by decide +kernel
theorem dX12_turned_30 : decode cX12_turned 30 = .ok (.ldiv, 1) := by decide +kernel
theorem dX12_turned_31 : decode cX12_turned 31 = .ok (.lstore 6, 2) := by decide +kernel
theorem dX12_turned_33 : decode cX12_turned 33 = .ok (.aload_n 0, 1) := by decide +kernel
theorem dX12_turned_34 : decode cX12_turned 34 = .ok (.getfield 19, 3) := by decide +kernel
theorem dX12_turned_37 : decode cX12_turned 37 = .ok (.iload 5, 2) := by decide +kernel
theorem dX12_turned_39 : decode cX12_turned 39 = .ok (.iconst 2, 1) := by decide +kernel
theorem dX12_turned_40 : decode cX12_turned 40 = .ok (.iadd, 1) := by decide +kernel
theorem dX12_turned_41 : decode cX12_turned 41 = .ok (.iaload, 1) := by decide +kernel
theorem dX12_turned_42 : decode cX12_turned 42 = .ok (.istore 8, 2) := by decide +kernel
theorem dX12_turned_44 : decode cX12_turned 44 = .ok (.lload 6, 2) := by decide +kernel
theorem dX12_turned_46 : decode cX12_turned 46 = .ok (.lload 6, 2) := by decide +kernel
theorem dX12_turned_48 : decode cX12_turned 48 = .ok (.iload 8, 2) := by decide +kernel
theorem dX12_turned_50 : decode cX12_turned 50 = .ok (.ifCond .ne 9, 3) := by decide +kernel
theorem dX12_turned_53 : decode cX12_turned 53 = .ok (.ldc2_w 109, 3) := by decide +kernel
theorem dX12_turned_56 : decode cX12_turned 56 = .ok (.goto 28, 3) := by decide +kernel
theorem dX12_turned_59 : decode cX12_turned 59 = .ok (.iload 8, 2) := by decide +kernel
theorem dX12_turned_61 : decode cX12_turned 61 = .ok (.iconst 1, 1) := by decide +kernel
theorem dX12_turned_62 : decode cX12_turned 62 = .ok (.if_icmp .ne 9, 3) := by decide +kernel
theorem dX12_turned_65 : decode cX12_turned 65 = .ok (.ldc2_w 99, 3) := by decide +kernel
theorem dX12_turned_68 : decode cX12_turned 68 = .ok (.goto 16, 3) := by decide +kernel
theorem dX12_turned_71 : decode cX12_turned 71 = .ok (.iload 8, 2) := by decide +kernel
theorem dX12_turned_73 : decode cX12_turned 73 = .ok (.iconst 2, 1) := by decide +kernel
theorem dX12_turned_74 : decode cX12_turned 74 = .ok (.if_icmp .ne 9, 3) := by decide +kernel
theorem dX12_turned_77 : decode cX12_turned 77 = .ok (.ldc2_w 111, 3) := by decide +kernel
theorem dX12_turned_80 : decode cX12_turned 80 = .ok (.goto 4, 3) := by decide +kernel
theorem dX12_turned_83 : decode cX12_turned 83 = .ok (.lconst 1, 1) := by decide +kernel
theorem dX12_turned_84 : decode cX12_turned 84 = .ok (.lrem, 1) := by decide +kernel
theorem dX12_turned_85 : decode cX12_turned 85 = .ok (.lsub, 1) := by decide +kernel
theorem dX12_turned_86 : decode cX12_turned 86 = .ok (.lreturn, 1) := by decide +kernel
set_option maxRecDepth 20000 in
theorem ggX12_areAsked_X12_isUnit : GoodIn wsX12_areAsked wsX12_isUnit := goodIn_r _ [6, 7, 8, 9, 5, 10, 11, 12, 13, 14, 15, 16, 17, 18, 19, 20, 21, 22, 23, 24, 25, 26, 27, 28, 29, 30, 31, 32, 33, 34, 35, 36, 37, 38, 39, 40, 41, 42, 43, 44, 45, 46, 47, 48, 49, 50, 51, 52] (by decide +kernel) (by decide +kernel)
set_option maxRecDepth 20000 in
theorem gX12_areAsked_X12_isUnit : GoodIn wsX12_areAsked (wsV RX12 101 RX12 yX12_isUnit wsX12_isUnit) := goodIn_app (goodIn_of _ (by decide +kernel)) ggX12_areAsked_X12_isUnit
set_option maxRecDepth 20000 in
theorem ggX12_areAsked_X12_in : GoodIn wsX12_areAsked wsX12_in := goodIn_r _ [10] (by decide +kernel) (by decide +kernel)
set_option maxRecDepth 20000 in
theorem gX12_areAsked_X12_in : GoodIn wsX12_areAsked (va_wsS RX12 93 yX12_in wsX12_in) := goodIn_app (goodIn_of _ (by decide +kernel)) ggX12_areAsked_X12_in
theorem dX12_areAsked_0 : decode cX12_areAsked 0 = .ok (.aload_n 0, 1) := by decide +kernel
theorem dX12_areAsked_1 : decode cX12_areAsked 1 = .ok (.iload_n 1, 1) := by decide +kernel
theorem dX12_areAsked_2 : decode cX12_areAsked 2 = .ok (.invokevirtual 101, 3) := by decide +kernel
theorem dX12_areAsked_5 : decode cX12_areAsked 5 = .ok (.ifCond .eq 27, 3) := by decide +kernel
theorem dX12_areAsked_8 : decode cX12_areAsked 8 = .ok (.aload_n 0, 1) := by decide +kernel
theorem dX12_areAsked_9 : decode cX12_areAsked 9 = .ok (.iload_n 2, 1) := by decide +kernel
theorem dX12_areAsked_10 : decode cX12_areAsked 10 = .ok (.invokevirtual 101, 3) := by decide +kernel
theorem dX12_areAsked_13 : decode cX12_areAsked 13 = .ok (.ifCond .eq 19, 3) := by decide +kernel
theorem dX12_areAsked_16 : decode cX12_areAsked 16 = .ok (.iload_n 3, 1) := by decide +kernel
theorem dX12_areAsked_17 : decode cX12_areAsked 17 = .ok (.i2l, 1) := by decide +kernel
theorem dX12_areAsked_18 : decode cX12_areAsked 18 = .ok (.lconst 0, 1) := by decide +kernel
theorem dX12_areAsked_19 : decode cX12_areAsked 19 = .ok (.ldc2_w 113, 3) := by decide +kernel
theorem dX12_areAsked_22 : decode cX12_areAsked 22 = .ok (.invokestatic 93, 3) := by decide +kernel
theorem dX12_areAsked_25 : decode cX12_areAsked 25 = .ok (.ifCond .eq 7, 3) := by decide +kernel
theorem dX12_areAsked_28 : decode cX12_areAsked 28 = .ok (.iconst 1, 1) := by decide +kernel
theorem dX12_areAsked_29 : decode cX12_areAsked 29 = .ok (.goto 4, 3) := by decide +kernel
theorem dX12_areAsked_32 : decode cX12_areAsked 32 = .ok (.iconst 0, 1) := by decide +kernel
theorem dX12_areAsked_33 : decode cX12_areAsked 33 = .ok (.ireturn, 1) := by decide +kernel
set_option maxRecDepth 20000 in
theorem ggX12_turn_X12_areAsked : GoodIn wsX12_turn wsX12_areAsked := goodIn_r _ [7, 8, 9, 10, 11, 6, 12, 13, 14, 15, 16, 29, 30, 31, 32, 33, 34, 35, 36, 37, 38, 39, 40, 41, 42, 43, 44, 45, 46, 47, 48, 49, 50, 51, 52, 53, 54, 55, 56, 57, 58, 59, 60, 61, 62, 63, 64, 65, 66, 67, 68, 69, 70] (by decide +kernel) (by decide +kernel)
set_option maxRecDepth 20000 in
theorem gX12_turn_X12_areAsked : GoodIn wsX12_turn (wsV RX12 115 RX12 yX12_areAsked wsX12_areAsked) := goodIn_app (goodIn_of _ (by decide +kernel)) ggX12_turn_X12_areAsked
set_option maxRecDepth 20000 in
theorem ggX12_turn_X12_hasTable : GoodIn wsX12_turn wsX12_hasTable := goodIn_r _ [20, 21, 29, 30, 31, 32, 33, 34, 35, 36, 37, 38, 39, 40, 41, 42, 43, 44, 45, 46, 47, 48, 49, 50, 51, 52, 53, 54, 55, 56, 57, 58, 59, 60, 61, 62, 63, 64, 65, 66, 67, 68, 69, 70] (by decide +kernel) (by decide +kernel)
set_option maxRecDepth 20000 in
theorem gX12_turn_X12_hasTable : GoodIn wsX12_turn (wsV RX12 121 RX12 yX12_hasTable wsX12_hasTable) := goodIn_app (goodIn_of _ (by decide +kernel)) ggX12_turn_X12_hasTable
set_option maxRecDepth 20000 in
theorem ggX12_turn_X12_turned : GoodIn wsX12_turn wsX12_turned := goodIn_r _ [25, 21, 26, 27, 28, 29, 30, 31, 32, 33, 34, 35, 36, 37, 38, 39, 40, 41, 42, 43, 44, 45, 46, 47, 48, 49, 50, 51, 52, 53, 54, 55, 56, 57, 58, 59, 60, 61, 62, 63, 64, 65, 66, 67, 68, 69, 70] (by decide +kernel) (by decide +kernel)
set_option maxRecDepth 20000 in
theorem gX12_turn_X12_turned : GoodIn wsX12_turn (wsV RX12 125 RX12 yX12_turned wsX12_turned) := goodIn_app (goodIn_of _ (by decide +kernel)) ggX12_turn_X12_turned
theorem dX12_turn_0 : decode cX12_turn 0 = .ok (.aload_n 0, 1) := by decide +kernel
theorem dX12_turn_1 : decode cX12_turn 1 = .ok (.iload_n 1, 1) := by decide +kernel
theorem dX12_turn_2 : decode cX12_turn 2 = .ok (.iload_n 2, 1) := by decide +kernel
theorem dX12_turn_3 : decode cX12_turn 3 = .ok (.iload_n 3, 1) := by decide +kernel
theorem dX12_turn_4 : decode cX12_turn 4 = .ok (.invokevirtual 115, 3) := by decide +kernel
theorem dX12_turn_7 : decode cX12_turn 7 = .ok (.ifCond .ne 7, 3) := by decide +kernel
theorem dX12_turn_10 : decode cX12_turn 10 = .ok (.ldc2_w 119, 3) := by decide +kernel
theorem dX12_turn_13 : decode cX12_turn 13 = .ok (.lreturn, 1) := by decide +kernel
theorem dX12_turn_14 : decode cX12_turn 14 = .ok (.aload_n 0, 1) := by decide +kernel
theorem dX12_turn_15 : decode cX12_turn 15 = .ok (.iload_n 1, 1) := by decide +kernel
theorem dX12_turn_16 : decode cX12_turn 16 = .ok (.iload_n 2, 1) := by decide +kernel
theorem dX12_turn_17 : decode cX12_turn 17 = .ok (.invokevirtual 121, 3) := by decide +kernel
theorem dX12_turn_20 : decode cX12_turn 20 = .ok (.ifCond .eq 14, 3) := by decide +kernel
theorem dX12_turn_23 : decode cX12_turn 23 = .ok (.aload_n 0, 1) := by decide +kernel
theorem dX12_turn_24 : decode cX12_turn 24 = .ok (.iload_n 1, 1) := by decide +kernel
theorem dX12_turn_25 : decode cX12_turn 25 = .ok (.iload_n 2, 1) := by decide +kernel
theorem dX12_turn_26 : decode cX12_turn 26 = .ok (.iload_n 3, 1) := by decide +kernel
theorem dX12_turn_27 : decode cX12_turn 27 = .ok (.i2l, 1) := by decide +kernel
theorem dX12_turn_28 : decode cX12_turn 28 = .ok (.invokevirtual 125, 3) := by decide +kernel
theorem dX12_turn_31 : decode cX12_turn 31 = .ok (.goto 6, 3) := by decide +kernel
theorem dX12_turn_34 : decode cX12_turn 34 = .ok (.ldc2_w 129, 3) := by decide +kernel
theorem dX12_turn_37 : decode cX12_turn 37 = .ok (.lreturn, 1) := by decide +kernel
set_option maxRecDepth 20000 in
theorem ggX12_lost_X12_areAsked : GoodIn wsX12_lost wsX12_areAsked := goodIn_r _ [7, 8, 9, 10, 11, 6, 12, 13, 14, 15, 16, 29, 30, 31, 32, 33, 34, 35, 36, 37, 38, 39, 40, 41, 42, 43, 44, 45, 46, 47, 48, 49, 50, 51, 52, 53, 54, 55, 56, 57, 58, 59, 60, 61, 62, 63, 64, 65, 66, 67, 68, 69, 70] (by decide +kernel) (by decide +kernel)
set_option maxRecDepth 20000 in
theorem gX12_lost_X12_areAsked : GoodIn wsX12_lost (wsV RX12 115 RX12 yX12_areAsked wsX12_areAsked) := goodIn_app (goodIn_of _ (by decide +kernel)) ggX12_lost_X12_areAsked
set_option maxRecDepth 20000 in
theorem ggX12_lost_X12_hasTable : GoodIn wsX12_lost wsX12_hasTable := goodIn_r _ [20, 21, 29, 30, 31, 32, 33, 34, 35, 36, 37, 38, 39, 40, 41, 42, 43, 44, 45, 46, 47, 48, 49, 50, 51, 52, 53, 54, 55, 56, 57, 58, 59, 60, 61, 62, 63, 64, 65, 66, 67, 68, 69, 70] (by decide +kernel) (by decide +kernel)
set_option maxRecDepth 20000 in
theorem gX12_lost_X12_hasTable : GoodIn wsX12_lost (wsV RX12 121 RX12 yX12_hasTable wsX12_hasTable) := goodIn_app (goodIn_of _ (by decide +kernel)) ggX12_lost_X12_hasTable
set_option maxRecDepth 20000 in
theorem ggX12_lost_X12_turned : GoodIn wsX12_lost wsX12_turned := goodIn_r _ [25, 21, 26, 27, 28, 29, 30, 31, 32, 33, 34, 35, 36, 37, 38, 39, 40, 41, 42, 43, 44, 45, 46, 47, 48, 49, 50, 51, 52, 53, 54, 55, 56, 57, 58, 59, 60, 61, 62, 63, 64, 65, 66, 67, 68, 69, 70] (by decide +kernel) (by decide +kernel)
set_option maxRecDepth 20000 in
theorem gX12_lost_X12_turned : GoodIn wsX12_lost (wsV RX12 125 RX12 yX12_turned wsX12_turned) := goodIn_app (goodIn_of _ (by decide +kernel)) ggX12_lost_X12_turned
theorem dX12_lost_0 : decode cX12_lost 0 = .ok (.aload_n 0, 1) := by decide +kernel
theorem dX12_lost_1 : decode cX12_lost 1 = .ok (.iload_n 1, 1) := by decide +kernel
theorem dX12_lost_2 : decode cX12_lost 2 = .ok (.iload_n 2, 1) := by decide +kernel
theorem dX12_lost_3 : decode cX12_lost 3 = .ok (.iload_n 3, 1) := by decide +kernel
theorem dX12_lost_4 : decode cX12_lost 4 = .ok (.invokevirtual 115, 3) := by decide +kernel
theorem dX12_lost_7 : decode cX12_lost 7 = .ok (.ifCond .ne 7, 3) := by decide +kernel
theorem dX12_lost_10 : decode cX12_lost 10 = .ok (.ldc2_w 131, 3) := by decide +kernel
theorem dX12_lost_13 : decode cX12_lost 13 = .ok (.lreturn, 1) := by decide +kernel
theorem dX12_lost_14 : decode cX12_lost 14 = .ok (.aload_n 0, 1) := by decide +kernel
theorem dX12_lost_15 : decode cX12_lost 15 = .ok (.iload_n 1, 1) := by decide +kernel
theorem dX12_lost_16 : decode cX12_lost 16 = .ok (.iload_n 2, 1) := by decide +kernel
theorem dX12_lost_17 : decode cX12_lost 17 = .ok (.invokevirtual 121, 3) := by decide +kernel
theorem dX12_lost_20 : decode cX12_lost 20 = .ok (.ifCond .eq 12, 3) := by decide +kernel
theorem dX12_lost_23 : decode cX12_lost 23 = .ok (.aload_n 0, 1) := by decide +kernel
theorem dX12_lost_24 : decode cX12_lost 24 = .ok (.iload_n 2, 1) := by decide +kernel
theorem dX12_lost_25 : decode cX12_lost 25 = .ok (.iload_n 1, 1) := by decide +kernel
theorem dX12_lost_26 : decode cX12_lost 26 = .ok (.invokevirtual 121, 3) := by decide +kernel
theorem dX12_lost_29 : decode cX12_lost 29 = .ok (.ifCond .ne 7, 3) := by decide +kernel
theorem dX12_lost_32 : decode cX12_lost 32 = .ok (.ldc2_w 133, 3) := by decide +kernel
theorem dX12_lost_35 : decode cX12_lost 35 = .ok (.lreturn, 1) := by decide +kernel
theorem dX12_lost_36 : decode cX12_lost 36 = .ok (.iload_n 3, 1) := by decide +kernel
theorem dX12_lost_37 : decode cX12_lost 37 = .ok (.i2l, 1) := by decide +kernel
theorem dX12_lost_38 : decode cX12_lost 38 = .ok (.aload_n 0, 1) := by decide +kernel
theorem dX12_lost_39 : decode cX12_lost 39 = .ok (.iload_n 2, 1) := by decide +kernel
theorem dX12_lost_40 : decode cX12_lost 40 = .ok (.iload_n 1, 1) := by decide +kernel
theorem dX12_lost_41 : decode cX12_lost 41 = .ok (.aload_n 0, 1) := by decide +kernel
theorem dX12_lost_42 : decode cX12_lost 42 = .ok (.iload_n 1, 1) := by decide +kernel
theorem dX12_lost_43 : decode cX12_lost 43 = .ok (.iload_n 2, 1) := by decide +kernel
theorem dX12_lost_44 : decode cX12_lost 44 = .ok (.iload_n 3, 1) := by decide +kernel
theorem dX12_lost_45 : decode cX12_lost 45 = .ok (.i2l, 1) := by decide +kernel
theorem dX12_lost_46 : decode cX12_lost 46 = .ok (.invokevirtual 125, 3) := by decide +kernel
theorem dX12_lost_49 : decode cX12_lost 49 = .ok (.invokevirtual 125, 3) := by decide +kernel
theorem dX12_lost_52 : decode cX12_lost 52 = .ok (.lsub, 1) := by decide +kernel
theorem dX12_lost_53 : decode cX12_lost 53 = .ok (.lreturn, 1) := by decide +kernel
set_option maxRecDepth 20000 in
theorem ggX12_round_X12_hasTable : GoodIn wsX12_round wsX12_hasTable := goodIn_r _ [9, 10, 18, 19, 20, 21, 22, 23, 24, 25, 26, 27, 28, 29, 30, 31, 32, 33, 34, 35, 36, 37, 38, 39, 40, 41, 42, 43, 44, 45, 46, 47, 48, 49, 50, 51, 52, 53, 54, 55, 56, 57, 58, 59] (by decide +kernel) (by decide +kernel)
set_option maxRecDepth 20000 in
theorem gX12_round_X12_hasTable : GoodIn wsX12_round (wsV RX12 121 RX12 yX12_hasTable wsX12_hasTable) := goodIn_app (goodIn_of _ (by decide +kernel)) ggX12_round_X12_hasTable
set_option maxRecDepth 20000 in
theorem ggX12_round_X12_turned : GoodIn wsX12_round wsX12_turned := goodIn_r _ [14, 10, 15, 16, 17, 18, 19, 20, 21, 22, 23, 24, 25, 26, 27, 28, 29, 30, 31, 32, 33, 34, 35, 36, 37, 38, 39, 40, 41, 42, 43, 44, 45, 46, 47, 48, 49, 50, 51, 52, 53, 54, 55, 56, 57, 58, 59] (by decide +kernel) (by decide +kernel)
set_option maxRecDepth 20000 in
theorem gX12_round_X12_turned : GoodIn wsX12_round (wsV RX12 125 RX12 yX12_turned wsX12_turned) := goodIn_app (goodIn_of _ (by decide +kernel)) ggX12_round_X12_turned
theorem dX12_round_0 : decode cX12_round 0 = .ok (.ldc2_w 97, 3) := by decide +kernel
theorem dX12_round_3 : decode cX12_round 3 = .ok (.lstore_n 2, 1) := by decide +kernel
theorem dX12_round_4 : decode cX12_round 4 = .ok (.iconst 0, 1) := by decide +kernel
theorem dX12_round_5 : decode cX12_round 5 = .ok (.istore 4, 2) := by decide +kernel
theorem dX12_round_7 : decode cX12_round 7 = .ok (.iload 4, 2) := by decide +kernel
theorem dX12_round_9 : decode cX12_round 9 = .ok (.iload_n 1, 1) := by decide +kernel
theorem dX12_round_10 : decode cX12_round 10 = .ok (.if_icmp .ge 68, 3) := by decide +kernel
theorem dX12_round_13 : decode cX12_round 13 = .ok (.aload_n 0, 1) := by decide +kernel
theorem dX12_round_14 : decode cX12_round 14 = .ok (.getfield 72, 3) := by decide +kernel
theorem dX12_round_17 : decode cX12_round 17 = .ok (.iload 4, 2) := by decide +kernel
theorem dX12_round_19 : decode cX12_round 19 = .ok (.iaload, 1) := by decide +kernel
theorem dX12_round_20 : decode cX12_round 20 = .ok (.istore 5, 2) := by decide +kernel
theorem dX12_round_22 : decode cX12_round 22 = .ok (.aload_n 0, 1) := by decide +kernel
theorem dX12_round_23 : decode cX12_round 23 = .ok (.getfield 72, 3) := by decide +kernel
theorem dX12_round_26 : decode cX12_round 26 = .ok (.iload 4, 2) := by decide +kernel
theorem dX12_round_28 : decode cX12_round 28 = .ok (.iconst 1, 1) := by decide +kernel
theorem dX12_round_29 : decode cX12_round 29 = .ok (.iadd, 1) := by decide +kernel
theorem dX12_round_30 : decode cX12_round 30 = .ok (.iload_n 1, 1) := by decide +kernel
theorem dX12_round_31 : decode cX12_round 31 = .ok (.irem, 1) := by decide +kernel
theorem dX12_round_32 : decode cX12_round 32 = .ok (.iaload, 1) := by decide +kernel
theorem dX12_round_33 : decode cX12_round 33 = .ok (.istore 6, 2) := by decide +kernel
theorem dX12_round_35 : decode cX12_round 35 = .ok (.aload_n 0, 1) := by decide +kernel
theorem dX12_round_36 : decode cX12_round 36 = .ok (.iload 5, 2) := by decide +kernel
theorem dX12_round_38 : decode cX12_round 38 = .ok (.iload 6, 2) := by decide +kernel
theorem dX12_round_40 : decode cX12_round 40 = .ok (.invokevirtual 121, 3) := by decide +kernel
theorem dX12_round_43 : decode cX12_round 43 = .ok (.ifCond .ne 7, 3) := by decide +kernel
theorem dX12_round_46 : decode cX12_round 46 = .ok (.ldc2_w 135, 3) := by decide +kernel
theorem dX12_round_49 : decode cX12_round 49 = .ok (.lreturn, 1) := by decide +kernel
theorem dX12_round_50 : decode cX12_round 50 = .ok (.aload_n 0, 1) := by decide +kernel
theorem dX12_round_51 : decode cX12_round 51 = .ok (.iload 5, 2) := by decide +kernel
theorem dX12_round_53 : decode cX12_round 53 = .ok (.iload 6, 2) := by decide +kernel
theorem dX12_round_55 : decode cX12_round 55 = .ok (.lload_n 2, 1) := by decide +kernel
theorem dX12_round_56 : decode cX12_round 56 = .ok (.invokevirtual 125, 3) := by decide +kernel
theorem dX12_round_59 : decode cX12_round 59 = .ok (.lstore_n 2, 1) := by decide +kernel
theorem dX12_round_60 : decode cX12_round 60 = .ok (.lload_n 2, 1) := by decide +kernel
theorem dX12_round_61 : decode cX12_round 61 = .ok (.ldc2_w 137, 3) := by decide +kernel
theorem dX12_round_64 : decode cX12_round 64 = .ok (.lcmp, 1) := by decide +kernel
theorem dX12_round_65 : decode cX12_round 65 = .ok (.ifCond .le 7, 3) := by decide +kernel
theorem dX12_round_68 : decode cX12_round 68 = .ok (.ldc2_w 135, 3) := by decide +kernel
theorem dX12_round_71 : decode cX12_round 71 = .ok (.lreturn, 1) := by decide +kernel
theorem dX12_round_72 : decode cX12_round 72 = .ok (.iinc 4 1, 3) := by decide +kernel
theorem dX12_round_75 : decode cX12_round 75 = .ok (.goto (-68), 3) := by decide +kernel
theorem dX12_round_78 : decode cX12_round 78 = .ok (.lload_n 2, 1) := by decide +kernel
theorem dX12_round_79 : decode cX12_round 79 = .ok (.lreturn, 1) := by decide +kernel
set_option maxRecDepth 20000 in
theorem ggX12_layBest_X12_isUnit : GoodIn wsX12_layBest wsX12_isUnit := goodIn_r _ [11, 12, 13, 14, 10, 15, 34, 35, 36, 37, 38, 39, 40, 41, 42, 43, 44, 45, 46, 47, 48, 49, 50, 51, 52, 53, 54, 55, 56, 57, 58, 59, 60, 61, 62, 63, 64, 65, 66, 67, 68, 69, 70, 71, 72, 73, 74, 75] (by decide +kernel) (by decide +kernel)
set_option maxRecDepth 20000 in
theorem gX12_layBest_X12_isUnit : GoodIn wsX12_layBest (wsV RX12 101 RX12 yX12_isUnit wsX12_isUnit) := goodIn_app (goodIn_of _ (by decide +kernel)) ggX12_layBest_X12_isUnit
set_option maxRecDepth 20000 in
theorem ggX12_layBest_X12_round : GoodIn wsX12_layBest wsX12_round := goodIn_r _ [19, 20, 5, 2, 21, 22, 23, 24, 10, 25, 26, 27, 28, 29, 30, 31, 32, 33, 34, 35, 36, 37, 38, 39, 40, 41, 42, 43, 44, 45, 46, 47, 48, 49, 50, 51, 52, 53, 54, 55, 56, 57, 58, 59, 60, 61, 62, 63, 64, 65, 66, 67, 68, 69, 70, 71, 72, 73, 74, 75] (by decide +kernel) (by decide +kernel)
set_option maxRecDepth 20000 in
theorem gX12_layBest_X12_round : GoodIn wsX12_layBest (wsV RX12 147 RX12 yX12_round wsX12_round) := goodIn_app (goodIn_of _ (by decide +kernel)) ggX12_layBest_X12_round
theorem dX12_layBest_0 : decode cX12_layBest 0 = .ok (.aload_n 0, 1) := by decide +kernel
theorem dX12_layBest_1 : decode cX12_layBest 1 = .ok (.iconst 0, 1) := by decide +kernel
theorem dX12_layBest_2 : decode cX12_layBest 2 = .ok (.putfield 139, 3) := by decide +kernel
theorem dX12_layBest_5 : decode cX12_layBest 5 = .ok (.aload_n 0, 1) := by decide +kernel
theorem dX12_layBest_6 : decode cX12_layBest 6 = .ok (.ldc2_w 135, 3) := by decide +kernel
theorem dX12_layBest_9 : decode cX12_layBest 9 = .ok (.putfield 142, 3) := by decide +kernel
theorem dX12_layBest_12 : decode cX12_layBest 12 = .ok (.iconst 2, 1) := by decide +kernel
theorem dX12_layBest_13 : decode cX12_layBest 13 = .ok (.istore_n 1, 1) := by decide +kernel
theorem dX12_layBest_14 : decode cX12_layBest 14 = .ok (.iload_n 1, 1) := by decide +kernel
theorem dX12_layBest_15 : decode cX12_layBest 15 = .ok (.iconst 4, 1) := by decide +kernel
theorem dX12_layBest_16 : decode cX12_layBest 16 = .ok (.if_icmp .gt 229, 3) := by decide +kernel
theorem dX12_layBest_19 : decode cX12_layBest 19 = .ok (.iload_n 1, 1) := by decide +kernel
theorem dX12_layBest_20 : decode cX12_layBest 20 = .ok (.iconst 2, 1) := by decide +kernel
theorem dX12_layBest_21 : decode cX12_layBest 21 = .ok (.if_icmp .ne 9, 3) := by decide +kernel
theorem dX12_layBest_24 : decode cX12_layBest 24 = .ok (.sipush 256, 3) := by decide +kernel
theorem dX12_layBest_27 : decode cX12_layBest 27 = .ok (.goto 16, 3) := by decide +kernel
theorem dX12_layBest_30 : decode cX12_layBest 30 = .ok (.iload_n 1, 1) := by decide +kernel
theorem dX12_layBest_31 : decode cX12_layBest 31 = .ok (.iconst 3, 1) := by decide +kernel
theorem dX12_layBest_32 : decode cX12_layBest 32 = .ok (.if_icmp .ne 9, 3) := by decide +kernel
theorem dX12_layBest_35 : decode cX12_layBest 35 = .ok (.sipush 4096, 3) := by decide +kernel
theorem dX12_layBest_38 : decode cX12_layBest 38 = .ok (.goto 5, 3) := by decide +kernel
theorem dX12_layBest_41 : decode cX12_layBest 41 = .ok (.ldc 146, 2) := by decide +kernel
theorem dX12_layBest_43 : decode cX12_layBest 43 = .ok (.istore_n 2, 1) := by decide +kernel
theorem dX12_layBest_44 : decode cX12_layBest 44 = .ok (.iconst 0, 1) := by decide +kernel
theorem dX12_layBest_45 : decode cX12_layBest 45 = .ok (.istore_n 3, 1) := by decide +kernel
theorem dX12_layBest_46 : decode cX12_layBest 46 = .ok (.iload_n 3, 1) := by decide +kernel
theorem dX12_layBest_47 : decode cX12_layBest 47 = .ok (.iload_n 2, 1) := by decide +kernel
theorem dX12_layBest_48 : decode cX12_layBest 48 = .ok (.if_icmp .ge 191, 3) := by decide +kernel
theorem dX12_layBest_51 : decode cX12_layBest 51 = .ok (.iload_n 3, 1) := by decide +kernel
theorem dX12_layBest_52 : decode cX12_layBest 52 = .ok (.istore 4, 2) := by decide +kernel
theorem dX12_layBest_54 : decode cX12_layBest 54 = .ok (.iconst 1, 1) := by decide +kernel
theorem dX12_layBest_55 : decode cX12_layBest 55 = .ok (.istore 5, 2) := by decide +kernel
theorem dX12_layBest_57 : decode cX12_layBest 57 = .ok (.iload_n 1, 1) := by decide +kernel
theorem dX12_layBest_58 : decode cX12_layBest 58 = .ok (.iconst 1, 1) := by decide +kernel
theorem dX12_layBest_59 : decode cX12_layBest 59 = .ok (.isub, 1) := by decide +kernel
theorem dX12_layBest_60 : decode cX12_layBest 60 = .ok (.istore 6, 2) := by decide +kernel
theorem dX12_layBest_62 : decode cX12_layBest 62 = .ok (.iload 6, 2) := by decide +kernel
theorem dX12_layBest_64 : decode cX12_layBest 64 = .ok (.ifCond .lt 101, 3) := by decide +kernel
theorem dX12_layBest_67 : decode cX12_layBest 67 = .ok (.aload_n 0, 1) := by decide +kernel
theorem dX12_layBest_68 : decode cX12_layBest 68 = .ok (.getfield 72, 3) := by decide +kernel
theorem dX12_layBest_71 : decode cX12_layBest 71 = .ok (.iload 6, 2) := by decide +kernel
theorem dX12_layBest_73 : decode cX12_layBest 73 = .ok (.iload 4, 2) := by decide +kernel
theorem dX12_layBest_75 : decode cX12_layBest 75 = .ok (.bipush 16, 2) := by decide +kernel
theorem dX12_layBest_77 : decode cX12_layBest 77 = .ok (.irem, 1) := by decide +kernel
theorem dX12_layBest_78 : decode cX12_layBest 78 = .ok (.iastore, 1) := by decide +kernel
theorem dX12_layBest_79 : decode cX12_layBest 79 = .ok (.iload 4, 2) := by decide +kernel
theorem dX12_layBest_81 : decode cX12_layBest 81 = .ok (.bipush 16, 2) := by decide +kernel
theorem dX12_layBest_83 : decode cX12_layBest 83 = .ok (.idiv, 1) := by decide +kernel
theorem dX12_layBest_84 : decode cX12_layBest 84 = .ok (.istore 4, 2) := by decide +kernel
theorem dX12_layBest_86 : decode cX12_layBest 86 = .ok (.iload 5, 2) := by decide +kernel
theorem dX12_layBest_88 : decode cX12_layBest 88 = .ok (.ifCond .eq 21, 3) := by decide +kernel
theorem dX12_layBest_91 : decode cX12_layBest 91 = .ok (.aload_n 0, 1) := by decide +kernel
theorem dX12_layBest_92 : decode cX12_layBest 92 = .ok (.aload_n 0, 1) := by decide +kernel
theorem dX12_layBest_93 : decode cX12_layBest 93 = .ok (.getfield 72, 3) := by decide +kernel
theorem dX12_layBest_96 : decode cX12_layBest 96 = .ok (.iload 6, 2) := by decide +kernel
theorem dX12_layBest_98 : decode cX12_layBest 98 = .ok (.iaload, 1) := by decide +kernel
theorem dX12_layBest_99 : decode cX12_layBest 99 = .ok (.invokevirtual 101, 3) := by decide +kernel
theorem dX12_layBest_102 : decode cX12_layBest 102 = .ok (.ifCond .eq 7, 3) := by decide +kernel
theorem dX12_layBest_105 : decode cX12_layBest 105 = .ok (.iconst 1, 1) := by decide +kernel
theorem dX12_layBest_106 : decode cX12_layBest 106 = .ok (.goto 4, 3) := by decide +kernel
theorem dX12_layBest_109 : decode cX12_layBest 109 = .ok (.iconst 0, 1) := by decide +kernel
theorem dX12_layBest_110 : decode cX12_layBest 110 = .ok (.istore 5, 2) := by decide +kernel
theorem dX12_layBest_112 : decode cX12_layBest 112 = .ok (.iload 6, 2) := by decide +kernel
theorem dX12_layBest_114 : decode cX12_layBest 114 = .ok (.iconst 1, 1) := by decide +kernel
theorem dX12_layBest_115 : decode cX12_layBest 115 = .ok (.iadd, 1) := by decide +kernel
theorem dX12_layBest_116 : decode cX12_layBest 116 = .ok (.istore 7, 2) := by decide +kernel
theorem dX12_layBest_118 : decode cX12_layBest 118 = .ok (.iload 7, 2) := by decide +kernel
theorem dX12_layBest_120 : decode cX12_layBest 120 = .ok (.iload_n 1, 1) := by decide +kernel
theorem dX12_layBest_121 : decode cX12_layBest 121 = .ok (.if_icmp .ge 38, 3) := by decide +kernel
theorem dX12_layBest_124 : decode cX12_layBest 124 = .ok (.iload 5, 2) := by decide +kernel
theorem dX12_layBest_126 : decode cX12_layBest 126 = .ok (.ifCond .eq 24, 3) := by decide +kernel
theorem dX12_layBest_129 : decode cX12_layBest 129 = .ok (.aload_n 0, 1) := by decide +kernel
theorem dX12_layBest_130 : decode cX12_layBest 130 = .ok (.getfield 72, 3) := by decide +kernel
theorem dX12_layBest_133 : decode cX12_layBest 133 = .ok (.iload 7, 2) := by decide +kernel
theorem dX12_layBest_135 : decode cX12_layBest 135 = .ok (.iaload, 1) := by decide +kernel
theorem dX12_layBest_136 : decode cX12_layBest 136 = .ok (.aload_n 0, 1) := by decide +kernel
theorem dX12_layBest_137 : decode cX12_layBest 137 = .ok (.getfield 72, 3) := by decide +kernel
theorem dX12_layBest_140 : decode cX12_layBest 140 = .ok (.iload 6, 2) := by decide +kernel
theorem dX12_layBest_142 : decode cX12_layBest 142 = .ok (.iaload, 1) := by decide +kernel
theorem dX12_layBest_143 : decode cX12_layBest 143 = .ok (.if_icmp .eq 7, 3) := by decide +kernel
theorem dX12_layBest_146 : decode cX12_layBest 146 = .ok (.iconst 1, 1) := by decide +kernel
theorem dX12_layBest_147 : decode cX12_layBest 147 = .ok (.goto 4, 3) := by decide +kernel
theorem dX12_layBest_150 : decode cX12_layBest 150 = .ok (.iconst 0, 1) := by decide +kernel
theorem dX12_layBest_151 : decode cX12_layBest 151 = .ok (.istore 5, 2) := by decide +kernel
theorem dX12_layBest_153 : decode cX12_layBest 153 = .ok (.iinc 7 1, 3) := by decide +kernel
theorem dX12_layBest_156 : decode cX12_layBest 156 = .ok (.goto (-38), 3) := by decide +kernel
theorem dX12_layBest_159 : decode cX12_layBest 159 = .ok (.iinc 6 (-1), 3) := by decide +kernel
theorem dX12_layBest_162 : decode cX12_layBest 162 = .ok (.goto (-100), 3) := by decide +kernel
theorem dX12_layBest_165 : decode cX12_layBest 165 = .ok (.iload 5, 2) := by decide +kernel
theorem dX12_layBest_167 : decode cX12_layBest 167 = .ok (.ifCond .eq 11, 3) := by decide +kernel
theorem dX12_layBest_170 : decode cX12_layBest 170 = .ok (.aload_n 0, 1) := by decide +kernel
theorem dX12_layBest_171 : decode cX12_layBest 171 = .ok (.iload_n 1, 1) := by decide +kernel
theorem dX12_layBest_172 : decode cX12_layBest 172 = .ok (.invokevirtual 147, 3) := by decide +kernel
theorem dX12_layBest_175 : decode cX12_layBest 175 = .ok (.goto 6, 3) := by decide +kernel
theorem dX12_layBest_178 : decode cX12_layBest 178 = .ok (.ldc2_w 135, 3) := by decide +kernel
theorem dX12_layBest_181 : decode cX12_layBest 181 = .ok (.lstore 6, 2) := by decide +kernel
theorem dX12_layBest_183 : decode cX12_layBest 183 = .ok (.lload 6, 2) := by decide +kernel
theorem dX12_layBest_185 : decode cX12_layBest 185 = .ok (.aload_n 0, 1) := by decide +kernel
theorem dX12_layBest_186 : decode cX12_layBest 186 = .ok (.getfield 142, 3) := by decide +kernel
theorem dX12_layBest_189 : decode cX12_layBest 189 = .ok (.lcmp, 1) := by decide +kernel
theorem dX12_layBest_190 : decode cX12_layBest 190 = .ok (.ifCond .le 43, 3) := by decide +kernel
theorem dX12_layBest_193 : decode cX12_layBest 193 = .ok (.aload_n 0, 1) := by decide +kernel
theorem dX12_layBest_194 : decode cX12_layBest 194 = .ok (.lload 6, 2) := by decide +kernel
theorem dX12_layBest_196 : decode cX12_layBest 196 = .ok (.putfield 142, 3) := by decide +kernel
theorem dX12_layBest_199 : decode cX12_layBest 199 = .ok (.aload_n 0, 1) := by decide +kernel
theorem dX12_layBest_200 : decode cX12_layBest 200 = .ok (.iload_n 1, 1) := by decide +kernel
theorem dX12_layBest_201 : decode cX12_layBest 201 = .ok (.putfield 139, 3) := by decide +kernel
theorem dX12_layBest_204 : decode cX12_layBest 204 = .ok (.iconst 0, 1) := by decide +kernel
theorem dX12_layBest_205 : decode cX12_layBest 205 = .ok (.istore 8, 2) := by decide +kernel
theorem dX12_layBest_207 : decode cX12_layBest 207 = .ok (.iload 8, 2) := by decide +kernel
theorem dX12_layBest_209 : decode cX12_layBest 209 = .ok (.iconst 4, 1) := by decide +kernel
theorem dX12_layBest_210 : decode cX12_layBest 210 = .ok (.if_icmp .ge 23, 3) := by decide +kernel
theorem dX12_layBest_213 : decode cX12_layBest 213 = .ok (.aload_n 0, 1) := by decide +kernel
theorem dX12_layBest_214 : decode cX12_layBest 214 = .ok (.getfield 75, 3) := by decide +kernel
theorem dX12_layBest_217 : decode cX12_layBest 217 = .ok (.iload 8, 2) := by decide +kernel
theorem dX12_layBest_219 : decode cX12_layBest 219 = .ok (.aload_n 0, 1) := by decide +kernel
theorem dX12_layBest_220 : decode cX12_layBest 220 = .ok (.getfield 72, 3) := by decide +kernel
theorem dX12_layBest_223 : decode cX12_layBest 223 = .ok (.iload 8, 2) := by decide +kernel
theorem dX12_layBest_225 : decode cX12_layBest 225 = .ok (.iaload, 1) := by decide +kernel
theorem dX12_layBest_226 : decode cX12_layBest 226 = .ok (.iastore, 1) := by decide +kernel
theorem dX12_layBest_227 : decode cX12_layBest 227 = .ok (.iinc 8 1, 3) := by decide +kernel
theorem dX12_layBest_230 : decode cX12_layBest 230 = .ok (.goto (-23), 3) := by decide +kernel
theorem dX12_layBest_233 : decode cX12_layBest 233 = .ok (.iinc 3 1, 3) := by decide +kernel
theorem dX12_layBest_236 : decode cX12_layBest 236 = .ok (.goto (-190), 3) := by decide +kernel
theorem dX12_layBest_239 : decode cX12_layBest 239 = .ok (.iinc 1 1, 3) := by decide +kernel
theorem dX12_layBest_242 : decode cX12_layBest 242 = .ok (.goto (-228), 3) := by decide +kernel
theorem dX12_layBest_245 : decode cX12_layBest 245 = .ok (.return_, 1) := by decide +kernel
set_option maxRecDepth 20000 in
theorem ggX12_best_X12_layBest : GoodIn wsX12_best wsX12_layBest := goodIn_r _ [10, 2, 3, 4, 11, 12, 5, 13, 14, 15, 9, 16, 17, 18, 19, 20, 21, 22, 23, 24, 25, 26, 27, 28, 29, 30, 31, 32, 33, 34, 35, 36, 37, 38, 39, 40, 41, 42, 43, 44, 45, 46, 47, 48, 49, 50, 51, 52, 53, 54, 55, 56, 57, 58, 59, 60, 61, 62, 63, 64, 65, 66, 67, 68, 69, 70, 71, 72, 73, 74, 75, 76, 77, 78, 79, 80] (by decide +kernel) (by decide +kernel)
set_option maxRecDepth 20000 in
theorem gX12_best_X12_layBest : GoodIn wsX12_best (wsV RX12 151 RX12 yX12_layBest wsX12_layBest) := goodIn_app (goodIn_of _ (by decide +kernel)) ggX12_best_X12_layBest
theorem dX12_best_0 : decode cX12_best 0 = .ok (.iload_n 1, 1) := by decide +kernel
theorem dX12_best_1 : decode cX12_best 1 = .ok (.bipush (-2), 2) := by decide +kernel
theorem dX12_best_3 : decode cX12_best 3 = .ok (.if_icmp .ge 7, 3) := by decide +kernel
theorem dX12_best_6 : decode cX12_best 6 = .ok (.ldc2_w 119, 3) := by decide +kernel
theorem dX12_best_9 : decode cX12_best 9 = .ok (.lreturn, 1) := by decide +kernel
theorem dX12_best_10 : decode cX12_best 10 = .ok (.aload_n 0, 1) := by decide +kernel
theorem dX12_best_11 : decode cX12_best 11 = .ok (.invokevirtual 151, 3) := by decide +kernel
theorem dX12_best_14 : decode cX12_best 14 = .ok (.aload_n 0, 1) := by decide +kernel
theorem dX12_best_15 : decode cX12_best 15 = .ok (.getfield 139, 3) := by decide +kernel
theorem dX12_best_18 : decode cX12_best 18 = .ok (.ifCond .ne 7, 3) := by decide +kernel
theorem dX12_best_21 : decode cX12_best 21 = .ok (.ldc2_w 135, 3) := by decide +kernel
theorem dX12_best_24 : decode cX12_best 24 = .ok (.lreturn, 1) := by decide +kernel
theorem dX12_best_25 : decode cX12_best 25 = .ok (.iload_n 1, 1) := by decide +kernel
theorem dX12_best_26 : decode cX12_best 26 = .ok (.iconst (-1), 1) := by decide +kernel
theorem dX12_best_27 : decode cX12_best 27 = .ok (.if_icmp .ne 10, 3) := by decide +kernel
theorem dX12_best_30 : decode cX12_best 30 = .ok (.aload_n 0, 1) := by decide +kernel
theorem dX12_best_31 : decode cX12_best 31 = .ok (.getfield 142, 3) := by decide +kernel
theorem dX12_best_34 : decode cX12_best 34 = .ok (.goto 38, 3) := by decide +kernel
theorem dX12_best_37 : decode cX12_best 37 = .ok (.iload_n 1, 1) := by decide +kernel
theorem dX12_best_38 : decode cX12_best 38 = .ok (.bipush (-2), 2) := by decide +kernel
theorem dX12_best_40 : decode cX12_best 40 = .ok (.if_icmp .ne 11, 3) := by decide +kernel
theorem dX12_best_43 : decode cX12_best 43 = .ok (.aload_n 0, 1) := by decide +kernel
theorem dX12_best_44 : decode cX12_best 44 = .ok (.getfield 139, 3) := by decide +kernel
theorem dX12_best_47 : decode cX12_best 47 = .ok (.i2l, 1) := by decide +kernel
theorem dX12_best_48 : decode cX12_best 48 = .ok (.goto 24, 3) := by decide +kernel
theorem dX12_best_51 : decode cX12_best 51 = .ok (.iload_n 1, 1) := by decide +kernel
theorem dX12_best_52 : decode cX12_best 52 = .ok (.aload_n 0, 1) := by decide +kernel
theorem dX12_best_53 : decode cX12_best 53 = .ok (.getfield 139, 3) := by decide +kernel
theorem dX12_best_56 : decode cX12_best 56 = .ok (.if_icmp .ge 13, 3) := by decide +kernel
theorem dX12_best_59 : decode cX12_best 59 = .ok (.aload_n 0, 1) := by decide +kernel
theorem dX12_best_60 : decode cX12_best 60 = .ok (.getfield 75, 3) := by decide +kernel
theorem dX12_best_63 : decode cX12_best 63 = .ok (.iload_n 1, 1) := by decide +kernel
theorem dX12_best_64 : decode cX12_best 64 = .ok (.iaload, 1) := by decide +kernel
theorem dX12_best_65 : decode cX12_best 65 = .ok (.i2l, 1) := by decide +kernel
theorem dX12_best_66 : decode cX12_best 66 = .ok (.goto 6, 3) := by decide +kernel
theorem dX12_best_69 : decode cX12_best 69 = .ok (.ldc2_w 135, 3) := by decide +kernel
theorem dX12_best_72 : decode cX12_best 72 = .ok (.lreturn, 1) := by decide +kernel
set_option maxRecDepth 20000 in
theorem ggX12_chain_X12_in : GoodIn wsX12_chain wsX12_in := goodIn_r _ [10] (by decide +kernel) (by decide +kernel)
set_option maxRecDepth 20000 in
theorem gX12_chain_X12_in : GoodIn wsX12_chain (va_wsS RX12 93 yX12_in wsX12_in) := goodIn_app (goodIn_of _ (by decide +kernel)) ggX12_chain_X12_in
theorem dX12_chain_0 : decode cX12_chain 0 = .ok (.iload_n 1, 1) := by decide +kernel
theorem dX12_chain_1 : decode cX12_chain 1 = .ok (.i2l, 1) := by decide +kernel
theorem dX12_chain_2 : decode cX12_chain 2 = .ok (.lconst 0, 1) := by decide +kernel
theorem dX12_chain_3 : decode cX12_chain 3 = .ok (.lconst 1, 1) := by decide +kernel
theorem dX12_chain_4 : decode cX12_chain 4 = .ok (.invokestatic 93, 3) := by decide +kernel
theorem dX12_chain_7 : decode cX12_chain 7 = .ok (.ifCond .eq 27, 3) := by decide +kernel
theorem dX12_chain_10 : decode cX12_chain 10 = .ok (.iload_n 2, 1) := by decide +kernel
theorem dX12_chain_11 : decode cX12_chain 11 = .ok (.i2l, 1) := by decide +kernel
theorem dX12_chain_12 : decode cX12_chain 12 = .ok (.lconst 1, 1) := by decide +kernel
theorem dX12_chain_13 : decode cX12_chain 13 = .ok (.ldc2_w 97, 3) := by decide +kernel
theorem dX12_chain_16 : decode cX12_chain 16 = .ok (.invokestatic 93, 3) := by decide +kernel
theorem dX12_chain_19 : decode cX12_chain 19 = .ok (.ifCond .eq 15, 3) := by decide +kernel
theorem dX12_chain_22 : decode cX12_chain 22 = .ok (.iload_n 3, 1) := by decide +kernel
theorem dX12_chain_23 : decode cX12_chain 23 = .ok (.i2l, 1) := by decide +kernel
theorem dX12_chain_24 : decode cX12_chain 24 = .ok (.lconst 1, 1) := by decide +kernel
theorem dX12_chain_25 : decode cX12_chain 25 = .ok (.ldc2_w 109, 3) := by decide +kernel
theorem dX12_chain_28 : decode cX12_chain 28 = .ok (.invokestatic 93, 3) := by decide +kernel
theorem dX12_chain_31 : decode cX12_chain 31 = .ok (.ifCond .ne 5, 3) := by decide +kernel
theorem dX12_chain_34 : decode cX12_chain 34 = .ok (.iconst (-1), 1) := by decide +kernel
theorem dX12_chain_35 : decode cX12_chain 35 = .ok (.ireturn, 1) := by decide +kernel
theorem dX12_chain_36 : decode cX12_chain 36 = .ok (.aload_n 0, 1) := by decide +kernel
theorem dX12_chain_37 : decode cX12_chain 37 = .ok (.getfield 154, 3) := by decide +kernel
theorem dX12_chain_40 : decode cX12_chain 40 = .ok (.bipush 12, 2) := by decide +kernel
theorem dX12_chain_42 : decode cX12_chain 42 = .ok (.if_icmp .ne 6, 3) := by decide +kernel
theorem dX12_chain_45 : decode cX12_chain 45 = .ok (.bipush (-3), 2) := by decide +kernel
theorem dX12_chain_47 : decode cX12_chain 47 = .ok (.ireturn, 1) := by decide +kernel
theorem dX12_chain_48 : decode cX12_chain 48 = .ok (.aload_n 0, 1) := by decide +kernel
theorem dX12_chain_49 : decode cX12_chain 49 = .ok (.getfield 22, 3) := by decide +kernel
theorem dX12_chain_52 : decode cX12_chain 52 = .ok (.aload_n 0, 1) := by decide +kernel
theorem dX12_chain_53 : decode cX12_chain 53 = .ok (.getfield 154, 3) := by decide +kernel
theorem dX12_chain_56 : decode cX12_chain 56 = .ok (.iload_n 1, 1) := by decide +kernel
theorem dX12_chain_57 : decode cX12_chain 57 = .ok (.iastore, 1) := by decide +kernel
theorem dX12_chain_58 : decode cX12_chain 58 = .ok (.aload_n 0, 1) := by decide +kernel
theorem dX12_chain_59 : decode cX12_chain 59 = .ok (.getfield 25, 3) := by decide +kernel
theorem dX12_chain_62 : decode cX12_chain 62 = .ok (.aload_n 0, 1) := by decide +kernel
theorem dX12_chain_63 : decode cX12_chain 63 = .ok (.getfield 154, 3) := by decide +kernel
theorem dX12_chain_66 : decode cX12_chain 66 = .ok (.iload_n 2, 1) := by decide +kernel
theorem dX12_chain_67 : decode cX12_chain 67 = .ok (.i2l, 1) := by decide +kernel
theorem dX12_chain_68 : decode cX12_chain 68 = .ok (.lastore, 1) := by decide +kernel
theorem dX12_chain_69 : decode cX12_chain 69 = .ok (.aload_n 0, 1) := by decide +kernel
theorem dX12_chain_70 : decode cX12_chain 70 = .ok (.getfield 29, 3) := by decide +kernel
theorem dX12_chain_73 : decode cX12_chain 73 = .ok (.aload_n 0, 1) := by decide +kernel
theorem dX12_chain_74 : decode cX12_chain 74 = .ok (.getfield 154, 3) := by decide +kernel
theorem dX12_chain_77 : decode cX12_chain 77 = .ok (.iload_n 3, 1) := by decide +kernel
theorem dX12_chain_78 : decode cX12_chain 78 = .ok (.i2l, 1) := by decide +kernel
theorem dX12_chain_79 : decode cX12_chain 79 = .ok (.lastore, 1) := by decide +kernel
theorem dX12_chain_80 : decode cX12_chain 80 = .ok (.aload_n 0, 1) := by decide +kernel
theorem dX12_chain_81 : decode cX12_chain 81 = .ok (.dup, 1) := by decide +kernel
theorem dX12_chain_82 : decode cX12_chain 82 = .ok (.getfield 154, 3) := by decide +kernel
theorem dX12_chain_85 : decode cX12_chain 85 = .ok (.iconst 1, 1) := by decide +kernel
theorem dX12_chain_86 : decode cX12_chain 86 = .ok (.iadd, 1) := by decide +kernel
theorem dX12_chain_87 : decode cX12_chain 87 = .ok (.putfield 154, 3) := by decide +kernel
theorem dX12_chain_90 : decode cX12_chain 90 = .ok (.aload_n 0, 1) := by decide +kernel
theorem dX12_chain_91 : decode cX12_chain 91 = .ok (.getfield 154, 3) := by decide +kernel
theorem dX12_chain_94 : decode cX12_chain 94 = .ok (.ireturn, 1) := by decide +kernel
theorem dX12_common_0 : decode cX12_common 0 = .ok (.lload_n 0, 1) := by decide +kernel
theorem dX12_common_1 : decode cX12_common 1 = .ok (.lstore 4, 2) := by decide +kernel
theorem dX12_common_3 : decode cX12_common 3 = .ok (.lload_n 2, 1) := by decide +kernel
theorem dX12_common_4 : decode cX12_common 4 = .ok (.lstore 6, 2) := by decide +kernel
theorem dX12_common_6 : decode cX12_common 6 = .ok (.lload 6, 2) := by decide +kernel
theorem dX12_common_8 : decode cX12_common 8 = .ok (.lconst 0, 1) := by decide +kernel
theorem dX12_common_9 : decode cX12_common 9 = .ok (.lcmp, 1) := by decide +kernel
theorem dX12_common_10 : decode cX12_common 10 = .ok (.ifCond .eq 21, 3) := by decide +kernel
theorem dX12_common_13 : decode cX12_common 13 = .ok (.lload 4, 2) := by decide +kernel
theorem dX12_common_15 : decode cX12_common 15 = .ok (.lload 6, 2) := by decide +kernel
theorem dX12_common_17 : decode cX12_common 17 = .ok (.lrem, 1) := by decide +kernel
theorem dX12_common_18 : decode cX12_common 18 = .ok (.lstore 8, 2) := by decide +kernel
theorem dX12_common_20 : decode cX12_common 20 = .ok (.lload 6, 2) := by decide +kernel
theorem dX12_common_22 : decode cX12_common 22 = .ok (.lstore 4, 2) := by decide +kernel
theorem dX12_common_24 : decode cX12_common 24 = .ok (.lload 8, 2) := by decide +kernel
theorem dX12_common_26 : decode cX12_common 26 = .ok (.lstore 6, 2) := by decide +kernel
theorem dX12_common_28 : decode cX12_common 28 = .ok (.goto (-22), 3) := by decide +kernel
theorem dX12_common_31 : decode cX12_common 31 = .ok (.lload 4, 2) := by decide +kernel
theorem dX12_common_33 : decode cX12_common 33 = .ok (.lreturn, 1) := by decide +kernel
set_option maxRecDepth 20000 in
theorem ggX12_earth_X12_in : GoodIn wsX12_earth wsX12_in := goodIn_r _ [13] (by decide +kernel) (by decide +kernel)
set_option maxRecDepth 20000 in
theorem gX12_earth_X12_in : GoodIn wsX12_earth (va_wsS RX12 93 yX12_in wsX12_in) := goodIn_app (goodIn_of _ (by decide +kernel)) ggX12_earth_X12_in
set_option maxRecDepth 20000 in
theorem ggX12_earth_X12_common : GoodIn wsX12_earth wsX12_common := goodIn_r _ [16] (by decide +kernel) (by decide +kernel)
set_option maxRecDepth 20000 in
theorem gX12_earth_X12_common : GoodIn wsX12_earth (va_wsS RX12 161 yX12_common wsX12_common) := goodIn_app (goodIn_of _ (by decide +kernel)) ggX12_earth_X12_common
theorem dX12_earth_0 : decode cX12_earth 0 = .ok (.iload_n 1, 1) := by decide +kernel
theorem dX12_earth_1 : decode cX12_earth 1 = .ok (.i2l, 1) := by decide +kernel
theorem dX12_earth_2 : decode cX12_earth 2 = .ok (.lconst 0, 1) := by decide +kernel
theorem dX12_earth_3 : decode cX12_earth 3 = .ok (.ldc2_w 157, 3) := by decide +kernel
theorem dX12_earth_6 : decode cX12_earth 6 = .ok (.invokestatic 93, 3) := by decide +kernel
theorem dX12_earth_9 : decode cX12_earth 9 = .ok (.ifCond .eq 13, 3) := by decide +kernel
theorem dX12_earth_12 : decode cX12_earth 12 = .ok (.iload_n 2, 1) := by decide +kernel
theorem dX12_earth_13 : decode cX12_earth 13 = .ok (.i2l, 1) := by decide +kernel
theorem dX12_earth_14 : decode cX12_earth 14 = .ok (.lconst 0, 1) := by decide +kernel
theorem dX12_earth_15 : decode cX12_earth 15 = .ok (.lconst 1, 1) := by decide +kernel
theorem dX12_earth_16 : decode cX12_earth 16 = .ok (.invokestatic 93, 3) := by decide +kernel
theorem dX12_earth_19 : decode cX12_earth 19 = .ok (.ifCond .ne 7, 3) := by decide +kernel
theorem dX12_earth_22 : decode cX12_earth 22 = .ok (.ldc2_w 119, 3) := by decide +kernel
theorem dX12_earth_25 : decode cX12_earth 25 = .ok (.lreturn, 1) := by decide +kernel
theorem dX12_earth_26 : decode cX12_earth 26 = .ok (.lconst 0, 1) := by decide +kernel
theorem dX12_earth_27 : decode cX12_earth 27 = .ok (.lstore_n 3, 1) := by decide +kernel
theorem dX12_earth_28 : decode cX12_earth 28 = .ok (.lconst 0, 1) := by decide +kernel
theorem dX12_earth_29 : decode cX12_earth 29 = .ok (.lstore 5, 2) := by decide +kernel
theorem dX12_earth_31 : decode cX12_earth 31 = .ok (.iconst 0, 1) := by decide +kernel
theorem dX12_earth_32 : decode cX12_earth 32 = .ok (.istore 7, 2) := by decide +kernel
theorem dX12_earth_34 : decode cX12_earth 34 = .ok (.iconst 0, 1) := by decide +kernel
theorem dX12_earth_35 : decode cX12_earth 35 = .ok (.istore 8, 2) := by decide +kernel
theorem dX12_earth_37 : decode cX12_earth 37 = .ok (.iconst 0, 1) := by decide +kernel
theorem dX12_earth_38 : decode cX12_earth 38 = .ok (.istore 9, 2) := by decide +kernel
theorem dX12_earth_40 : decode cX12_earth 40 = .ok (.iload 9, 2) := by decide +kernel
theorem dX12_earth_42 : decode cX12_earth 42 = .ok (.aload_n 0, 1) := by decide +kernel
theorem dX12_earth_43 : decode cX12_earth 43 = .ok (.getfield 154, 3) := by decide +kernel
theorem dX12_earth_46 : decode cX12_earth 46 = .ok (.if_icmp .ge 158, 3) := by decide +kernel
theorem dX12_earth_49 : decode cX12_earth 49 = .ok (.iload_n 1, 1) := by decide +kernel
theorem dX12_earth_50 : decode cX12_earth 50 = .ok (.iconst 1, 1) := by decide +kernel
theorem dX12_earth_51 : decode cX12_earth 51 = .ok (.if_icmp .gt 14, 3) := by decide +kernel
theorem dX12_earth_54 : decode cX12_earth 54 = .ok (.aload_n 0, 1) := by decide +kernel
theorem dX12_earth_55 : decode cX12_earth 55 = .ok (.getfield 22, 3) := by decide +kernel
theorem dX12_earth_58 : decode cX12_earth 58 = .ok (.iload 9, 2) := by decide +kernel
theorem dX12_earth_60 : decode cX12_earth 60 = .ok (.iaload, 1) := by decide +kernel
theorem dX12_earth_61 : decode cX12_earth 61 = .ok (.iload_n 1, 1) := by decide +kernel
theorem dX12_earth_62 : decode cX12_earth 62 = .ok (.if_icmp .ne 7, 3) := by decide +kernel
theorem dX12_earth_65 : decode cX12_earth 65 = .ok (.iconst 1, 1) := by decide +kernel
theorem dX12_earth_66 : decode cX12_earth 66 = .ok (.goto 4, 3) := by decide +kernel
theorem dX12_earth_69 : decode cX12_earth 69 = .ok (.iconst 0, 1) := by decide +kernel
theorem dX12_earth_70 : decode cX12_earth 70 = .ok (.istore 10, 2) := by decide +kernel
theorem dX12_earth_72 : decode cX12_earth 72 = .ok (.lload_n 3, 1) := by decide +kernel
theorem dX12_earth_73 : decode cX12_earth 73 = .ok (.iload 10, 2) := by decide +kernel
theorem dX12_earth_75 : decode cX12_earth 75 = .ok (.ifCond .eq 13, 3) := by decide +kernel
theorem dX12_earth_78 : decode cX12_earth 78 = .ok (.aload_n 0, 1) := by decide +kernel
theorem dX12_earth_79 : decode cX12_earth 79 = .ok (.getfield 25, 3) := by decide +kernel
theorem dX12_earth_82 : decode cX12_earth 82 = .ok (.iload 9, 2) := by decide +kernel
theorem dX12_earth_84 : decode cX12_earth 84 = .ok (.laload, 1) := by decide +kernel
theorem dX12_earth_85 : decode cX12_earth 85 = .ok (.goto 4, 3) := by decide +kernel
theorem dX12_earth_88 : decode cX12_earth 88 = .ok (.lconst 0, 1) := by decide +kernel
theorem dX12_earth_89 : decode cX12_earth 89 = .ok (.ladd, 1) := by decide +kernel
theorem dX12_earth_90 : decode cX12_earth 90 = .ok (.lstore_n 3, 1) := by decide +kernel
theorem dX12_earth_91 : decode cX12_earth 91 = .ok (.lload 5, 2) := by decide +kernel
theorem dX12_earth_93 : decode cX12_earth 93 = .ok (.iload 10, 2) := by decide +kernel
theorem dX12_earth_95 : decode cX12_earth 95 = .ok (.ifCond .eq 13, 3) := by decide +kernel
theorem dX12_earth_98 : decode cX12_earth 98 = .ok (.aload_n 0, 1) := by decide +kernel
theorem dX12_earth_99 : decode cX12_earth 99 = .ok (.getfield 29, 3) := by decide +kernel
theorem dX12_earth_102 : decode cX12_earth 102 = .ok (.iload 9, 2) := by decide +kernel
theorem dX12_earth_104 : decode cX12_earth 104 = .ok (.laload, 1) := by decide +kernel
theorem dX12_earth_105 : decode cX12_earth 105 = .ok (.goto 4, 3) := by decide +kernel
theorem dX12_earth_108 : decode cX12_earth 108 = .ok (.lconst 0, 1) := by decide +kernel
theorem dX12_earth_109 : decode cX12_earth 109 = .ok (.ladd, 1) := by decide +kernel
theorem dX12_earth_110 : decode cX12_earth 110 = .ok (.lstore 5, 2) := by decide +kernel
theorem dX12_earth_112 : decode cX12_earth 112 = .ok (.aload_n 0, 1) := by decide +kernel
theorem dX12_earth_113 : decode cX12_earth 113 = .ok (.getfield 25, 3) := by decide +kernel
theorem dX12_earth_116 : decode cX12_earth 116 = .ok (.iload 9, 2) := by decide +kernel
theorem dX12_earth_118 : decode cX12_earth 118 = .ok (.laload, 1) := by decide +kernel
theorem dX12_earth_119 : decode cX12_earth 119 = .ok (.aload_n 0, 1) := by decide +kernel
theorem dX12_earth_120 : decode cX12_earth 120 = .ok (.getfield 29, 3) := by decide +kernel
theorem dX12_earth_123 : decode cX12_earth 123 = .ok (.iload 7, 2) := by decide +kernel
theorem dX12_earth_125 : decode cX12_earth 125 = .ok (.laload, 1) := by decide +kernel
theorem dX12_earth_126 : decode cX12_earth 126 = .ok (.lmul, 1) := by decide +kernel
theorem dX12_earth_127 : decode cX12_earth 127 = .ok (.aload_n 0, 1) := by decide +kernel
theorem dX12_earth_128 : decode cX12_earth 128 = .ok (.getfield 25, 3) := by decide +kernel
theorem dX12_earth_131 : decode cX12_earth 131 = .ok (.iload 7, 2) := by decide +kernel
theorem dX12_earth_133 : decode cX12_earth 133 = .ok (.laload, 1) := by decide +kernel
theorem dX12_earth_134 : decode cX12_earth 134 = .ok (.aload_n 0, 1) := by decide +kernel
theorem dX12_earth_135 : decode cX12_earth 135 = .ok (.getfield 29, 3) := by decide +kernel
theorem dX12_earth_138 : decode cX12_earth 138 = .ok (.iload 9, 2) := by decide +kernel
theorem dX12_earth_140 : decode cX12_earth 140 = .ok (.laload, 1) := by decide +kernel
theorem dX12_earth_141 : decode cX12_earth 141 = .ok (.lmul, 1) := by decide +kernel
theorem dX12_earth_142 : decode cX12_earth 142 = .ok (.lcmp, 1) := by decide +kernel
theorem dX12_earth_143 : decode cX12_earth 143 = .ok (.ifCond .le 8, 3) := by decide +kernel
theorem dX12_earth_146 : decode cX12_earth 146 = .ok (.iload 9, 2) := by decide +kernel
theorem dX12_earth_148 : decode cX12_earth 148 = .ok (.goto 5, 3) := by decide +kernel
theorem dX12_earth_151 : decode cX12_earth 151 = .ok (.iload 7, 2) := by decide +kernel
theorem dX12_earth_153 : decode cX12_earth 153 = .ok (.istore 7, 2) := by decide +kernel
theorem dX12_earth_155 : decode cX12_earth 155 = .ok (.aload_n 0, 1) := by decide +kernel
theorem dX12_earth_156 : decode cX12_earth 156 = .ok (.getfield 25, 3) := by decide +kernel
theorem dX12_earth_159 : decode cX12_earth 159 = .ok (.iload 9, 2) := by decide +kernel
theorem dX12_earth_161 : decode cX12_earth 161 = .ok (.laload, 1) := by decide +kernel
theorem dX12_earth_162 : decode cX12_earth 162 = .ok (.aload_n 0, 1) := by decide +kernel
theorem dX12_earth_163 : decode cX12_earth 163 = .ok (.getfield 29, 3) := by decide +kernel
theorem dX12_earth_166 : decode cX12_earth 166 = .ok (.iload 8, 2) := by decide +kernel
theorem dX12_earth_168 : decode cX12_earth 168 = .ok (.laload, 1) := by decide +kernel
theorem dX12_earth_169 : decode cX12_earth 169 = .ok (.lmul, 1) := by decide +kernel
theorem dX12_earth_170 : decode cX12_earth 170 = .ok (.aload_n 0, 1) := by decide +kernel
theorem dX12_earth_171 : decode cX12_earth 171 = .ok (.getfield 25, 3) := by decide +kernel
theorem dX12_earth_174 : decode cX12_earth 174 = .ok (.iload 8, 2) := by decide +kernel
theorem dX12_earth_176 : decode cX12_earth 176 = .ok (.laload, 1) := by decide +kernel
theorem dX12_earth_177 : decode cX12_earth 177 = .ok (.aload_n 0, 1) := by decide +kernel
theorem dX12_earth_178 : decode cX12_earth 178 = .ok (.getfield 29, 3) := by decide +kernel
theorem dX12_earth_181 : decode cX12_earth 181 = .ok (.iload 9, 2) := by decide +kernel
theorem dX12_earth_183 : decode cX12_earth 183 = .ok (.laload, 1) := by decide +kernel
theorem dX12_earth_184 : decode cX12_earth 184 = .ok (.lmul, 1) := by decide +kernel
theorem dX12_earth_185 : decode cX12_earth 185 = .ok (.lcmp, 1) := by decide +kernel
theorem dX12_earth_186 : decode cX12_earth 186 = .ok (.ifCond .ge 8, 3) := by decide +kernel
theorem dX12_earth_189 : decode cX12_earth 189 = .ok (.iload 9, 2) := by decide +kernel
theorem dX12_earth_191 : decode cX12_earth 191 = .ok (.goto 5, 3) := by decide +kernel
theorem dX12_earth_194 : decode cX12_earth 194 = .ok (.iload 8, 2) := by decide +kernel
