theorem dX12_earth_196 : decode cX12_earth 196 = .ok (.istore 8, 2) := by decide +kernel
theorem dX12_earth_198 : decode cX12_earth 198 = .ok (.iinc 9 1, 3) := by decide +kernel
theorem dX12_earth_201 : decode cX12_earth 201 = .ok (.goto (-161), 3) := by decide +kernel
theorem dX12_earth_204 : decode cX12_earth 204 = .ok (.lload 5, 2) := by decide +kernel
theorem dX12_earth_206 : decode cX12_earth 206 = .ok (.lconst 0, 1) := by decide +kernel
theorem dX12_earth_207 : decode cX12_earth 207 = .ok (.lcmp, 1) := by decide +kernel
theorem dX12_earth_208 : decode cX12_earth 208 = .ok (.ifCond .ne 7, 3) := by decide +kernel
theorem dX12_earth_211 : decode cX12_earth 211 = .ok (.ldc2_w 135, 3) := by decide +kernel
theorem dX12_earth_214 : decode cX12_earth 214 = .ok (.lreturn, 1) := by decide +kernel
theorem dX12_earth_215 : decode cX12_earth 215 = .ok (.iload_n 1, 1) := by decide +kernel
theorem dX12_earth_216 : decode cX12_earth 216 = .ok (.iconst 3, 1) := by decide +kernel
theorem dX12_earth_217 : decode cX12_earth 217 = .ok (.if_icmp .ge 12, 3) := by decide +kernel
theorem dX12_earth_220 : decode cX12_earth 220 = .ok (.lload_n 3, 1) := by decide +kernel
theorem dX12_earth_221 : decode cX12_earth 221 = .ok (.ldc2_w 159, 3) := by decide +kernel
theorem dX12_earth_224 : decode cX12_earth 224 = .ok (.lmul, 1) := by decide +kernel
theorem dX12_earth_225 : decode cX12_earth 225 = .ok (.lstore_n 3, 1) := by decide +kernel
theorem dX12_earth_226 : decode cX12_earth 226 = .ok (.goto 68, 3) := by decide +kernel
theorem dX12_earth_229 : decode cX12_earth 229 = .ok (.iload_n 1, 1) := by decide +kernel
theorem dX12_earth_230 : decode cX12_earth 230 = .ok (.iconst 3, 1) := by decide +kernel
theorem dX12_earth_231 : decode cX12_earth 231 = .ok (.if_icmp .ne 14, 3) := by decide +kernel
theorem dX12_earth_234 : decode cX12_earth 234 = .ok (.lload 5, 2) := by decide +kernel
theorem dX12_earth_236 : decode cX12_earth 236 = .ok (.ldc2_w 109, 3) := by decide +kernel
theorem dX12_earth_239 : decode cX12_earth 239 = .ok (.lmul, 1) := by decide +kernel
theorem dX12_earth_240 : decode cX12_earth 240 = .ok (.lstore 5, 2) := by decide +kernel
theorem dX12_earth_242 : decode cX12_earth 242 = .ok (.goto 52, 3) := by decide +kernel
theorem dX12_earth_245 : decode cX12_earth 245 = .ok (.aload_n 0, 1) := by decide +kernel
theorem dX12_earth_246 : decode cX12_earth 246 = .ok (.getfield 25, 3) := by decide +kernel
theorem dX12_earth_249 : decode cX12_earth 249 = .ok (.iload 7, 2) := by decide +kernel
theorem dX12_earth_251 : decode cX12_earth 251 = .ok (.laload, 1) := by decide +kernel
theorem dX12_earth_252 : decode cX12_earth 252 = .ok (.aload_n 0, 1) := by decide +kernel
theorem dX12_earth_253 : decode cX12_earth 253 = .ok (.getfield 29, 3) := by decide +kernel
theorem dX12_earth_256 : decode cX12_earth 256 = .ok (.iload 8, 2) := by decide +kernel
theorem dX12_earth_258 : decode cX12_earth 258 = .ok (.laload, 1) := by decide +kernel
theorem dX12_earth_259 : decode cX12_earth 259 = .ok (.lmul, 1) := by decide +kernel
theorem dX12_earth_260 : decode cX12_earth 260 = .ok (.aload_n 0, 1) := by decide +kernel
theorem dX12_earth_261 : decode cX12_earth 261 = .ok (.getfield 25, 3) := by decide +kernel
theorem dX12_earth_264 : decode cX12_earth 264 = .ok (.iload 8, 2) := by decide +kernel
theorem dX12_earth_266 : decode cX12_earth 266 = .ok (.laload, 1) := by decide +kernel
theorem dX12_earth_267 : decode cX12_earth 267 = .ok (.aload_n 0, 1) := by decide +kernel
theorem dX12_earth_268 : decode cX12_earth 268 = .ok (.getfield 29, 3) := by decide +kernel
theorem dX12_earth_271 : decode cX12_earth 271 = .ok (.iload 7, 2) := by decide +kernel
theorem dX12_earth_273 : decode cX12_earth 273 = .ok (.laload, 1) := by decide +kernel
theorem dX12_earth_274 : decode cX12_earth 274 = .ok (.lmul, 1) := by decide +kernel
theorem dX12_earth_275 : decode cX12_earth 275 = .ok (.lsub, 1) := by decide +kernel
theorem dX12_earth_276 : decode cX12_earth 276 = .ok (.lstore_n 3, 1) := by decide +kernel
theorem dX12_earth_277 : decode cX12_earth 277 = .ok (.aload_n 0, 1) := by decide +kernel
theorem dX12_earth_278 : decode cX12_earth 278 = .ok (.getfield 29, 3) := by decide +kernel
theorem dX12_earth_281 : decode cX12_earth 281 = .ok (.iload 7, 2) := by decide +kernel
theorem dX12_earth_283 : decode cX12_earth 283 = .ok (.laload, 1) := by decide +kernel
theorem dX12_earth_284 : decode cX12_earth 284 = .ok (.aload_n 0, 1) := by decide +kernel
theorem dX12_earth_285 : decode cX12_earth 285 = .ok (.getfield 29, 3) := by decide +kernel
theorem dX12_earth_288 : decode cX12_earth 288 = .ok (.iload 8, 2) := by decide +kernel
theorem dX12_earth_290 : decode cX12_earth 290 = .ok (.laload, 1) := by decide +kernel
theorem dX12_earth_291 : decode cX12_earth 291 = .ok (.lmul, 1) := by decide +kernel
theorem dX12_earth_292 : decode cX12_earth 292 = .ok (.lstore 5, 2) := by decide +kernel
theorem dX12_earth_294 : decode cX12_earth 294 = .ok (.lload 5, 2) := by decide +kernel
theorem dX12_earth_296 : decode cX12_earth 296 = .ok (.lload_n 3, 1) := by decide +kernel
theorem dX12_earth_297 : decode cX12_earth 297 = .ok (.invokestatic 161, 3) := by decide +kernel
theorem dX12_earth_300 : decode cX12_earth 300 = .ok (.lstore 9, 2) := by decide +kernel
theorem dX12_earth_302 : decode cX12_earth 302 = .ok (.iload_n 2, 1) := by decide +kernel
theorem dX12_earth_303 : decode cX12_earth 303 = .ok (.ifCond .ne 7, 3) := by decide +kernel
theorem dX12_earth_306 : decode cX12_earth 306 = .ok (.lload_n 3, 1) := by decide +kernel
theorem dX12_earth_307 : decode cX12_earth 307 = .ok (.goto 5, 3) := by decide +kernel
theorem dX12_earth_310 : decode cX12_earth 310 = .ok (.lload 5, 2) := by decide +kernel
theorem dX12_earth_312 : decode cX12_earth 312 = .ok (.lload 9, 2) := by decide +kernel
theorem dX12_earth_314 : decode cX12_earth 314 = .ok (.ldiv, 1) := by decide +kernel
theorem dX12_earth_315 : decode cX12_earth 315 = .ok (.lreturn, 1) := by decide +kernel
set_option maxRecDepth 20000 in
theorem ggX12_trial_X12_isUnit : GoodIn wsX12_trial wsX12_isUnit := goodIn_r _ [10, 11, 12, 13, 9, 14, 15, 16, 17, 18, 19, 20, 21, 22, 23, 24, 25, 26, 27, 28, 29, 30, 31, 32, 33, 34, 35, 36, 37, 38, 39, 40, 41, 42, 43, 44, 45, 46, 47, 48, 49, 50, 51, 52, 53, 54, 55, 56] (by decide +kernel) (by decide +kernel)
set_option maxRecDepth 20000 in
theorem gX12_trial_X12_isUnit : GoodIn wsX12_trial (wsV RX12 101 RX12 yX12_isUnit wsX12_isUnit) := goodIn_app (goodIn_of _ (by decide +kernel)) ggX12_trial_X12_isUnit
set_option maxRecDepth 20000 in
theorem ggX12_trial_X12_in : GoodIn wsX12_trial wsX12_in := goodIn_r _ [14] (by decide +kernel) (by decide +kernel)
set_option maxRecDepth 20000 in
theorem gX12_trial_X12_in : GoodIn wsX12_trial (va_wsS RX12 93 yX12_in wsX12_in) := goodIn_app (goodIn_of _ (by decide +kernel)) ggX12_trial_X12_in
theorem dX12_trial_0 : decode cX12_trial 0 = .ok (.aload_n 0, 1) := by decide +kernel
theorem dX12_trial_1 : decode cX12_trial 1 = .ok (.iload_n 1, 1) := by decide +kernel
theorem dX12_trial_2 : decode cX12_trial 2 = .ok (.invokevirtual 101, 3) := by decide +kernel
theorem dX12_trial_5 : decode cX12_trial 5 = .ok (.ifCond .eq 49, 3) := by decide +kernel
theorem dX12_trial_8 : decode cX12_trial 8 = .ok (.aload_n 0, 1) := by decide +kernel
theorem dX12_trial_9 : decode cX12_trial 9 = .ok (.iload_n 2, 1) := by decide +kernel
theorem dX12_trial_10 : decode cX12_trial 10 = .ok (.invokevirtual 101, 3) := by decide +kernel
theorem dX12_trial_13 : decode cX12_trial 13 = .ok (.ifCond .eq 41, 3) := by decide +kernel
theorem dX12_trial_16 : decode cX12_trial 16 = .ok (.iload_n 3, 1) := by decide +kernel
theorem dX12_trial_17 : decode cX12_trial 17 = .ok (.i2l, 1) := by decide +kernel
theorem dX12_trial_18 : decode cX12_trial 18 = .ok (.lconst 1, 1) := by decide +kernel
theorem dX12_trial_19 : decode cX12_trial 19 = .ok (.ldc2_w 105, 3) := by decide +kernel
theorem dX12_trial_22 : decode cX12_trial 22 = .ok (.invokestatic 93, 3) := by decide +kernel
theorem dX12_trial_25 : decode cX12_trial 25 = .ok (.ifCond .eq 29, 3) := by decide +kernel
theorem dX12_trial_28 : decode cX12_trial 28 = .ok (.iload 4, 2) := by decide +kernel
theorem dX12_trial_30 : decode cX12_trial 30 = .ok (.i2l, 1) := by decide +kernel
theorem dX12_trial_31 : decode cX12_trial 31 = .ok (.lconst 1, 1) := by decide +kernel
theorem dX12_trial_32 : decode cX12_trial 32 = .ok (.ldc2_w 105, 3) := by decide +kernel
theorem dX12_trial_35 : decode cX12_trial 35 = .ok (.invokestatic 93, 3) := by decide +kernel
theorem dX12_trial_38 : decode cX12_trial 38 = .ok (.ifCond .eq 16, 3) := by decide +kernel
theorem dX12_trial_41 : decode cX12_trial 41 = .ok (.iload 5, 2) := by decide +kernel
theorem dX12_trial_43 : decode cX12_trial 43 = .ok (.i2l, 1) := by decide +kernel
theorem dX12_trial_44 : decode cX12_trial 44 = .ok (.lconst 0, 1) := by decide +kernel
theorem dX12_trial_45 : decode cX12_trial 45 = .ok (.ldc2_w 97, 3) := by decide +kernel
theorem dX12_trial_48 : decode cX12_trial 48 = .ok (.invokestatic 93, 3) := by decide +kernel
theorem dX12_trial_51 : decode cX12_trial 51 = .ok (.ifCond .ne 5, 3) := by decide +kernel
theorem dX12_trial_54 : decode cX12_trial 54 = .ok (.iconst (-1), 1) := by decide +kernel
theorem dX12_trial_55 : decode cX12_trial 55 = .ok (.ireturn, 1) := by decide +kernel
theorem dX12_trial_56 : decode cX12_trial 56 = .ok (.iload_n 1, 1) := by decide +kernel
theorem dX12_trial_57 : decode cX12_trial 57 = .ok (.iload_n 2, 1) := by decide +kernel
theorem dX12_trial_58 : decode cX12_trial 58 = .ok (.if_icmp .eq 18, 3) := by decide +kernel
theorem dX12_trial_61 : decode cX12_trial 61 = .ok (.aload_n 0, 1) := by decide +kernel
theorem dX12_trial_62 : decode cX12_trial 62 = .ok (.getfield 7, 3) := by decide +kernel
theorem dX12_trial_65 : decode cX12_trial 65 = .ok (.iload_n 1, 1) := by decide +kernel
theorem dX12_trial_66 : decode cX12_trial 66 = .ok (.iaload, 1) := by decide +kernel
theorem dX12_trial_67 : decode cX12_trial 67 = .ok (.aload_n 0, 1) := by decide +kernel
theorem dX12_trial_68 : decode cX12_trial 68 = .ok (.getfield 7, 3) := by decide +kernel
theorem dX12_trial_71 : decode cX12_trial 71 = .ok (.iload_n 2, 1) := by decide +kernel
theorem dX12_trial_72 : decode cX12_trial 72 = .ok (.iaload, 1) := by decide +kernel
theorem dX12_trial_73 : decode cX12_trial 73 = .ok (.if_icmp .eq 6, 3) := by decide +kernel
theorem dX12_trial_76 : decode cX12_trial 76 = .ok (.bipush (-2), 2) := by decide +kernel
theorem dX12_trial_78 : decode cX12_trial 78 = .ok (.ireturn, 1) := by decide +kernel
theorem dX12_trial_79 : decode cX12_trial 79 = .ok (.aload_n 0, 1) := by decide +kernel
theorem dX12_trial_80 : decode cX12_trial 80 = .ok (.getfield 165, 3) := by decide +kernel
theorem dX12_trial_83 : decode cX12_trial 83 = .ok (.bipush 30, 2) := by decide +kernel
theorem dX12_trial_85 : decode cX12_trial 85 = .ok (.if_icmp .ne 6, 3) := by decide +kernel
theorem dX12_trial_88 : decode cX12_trial 88 = .ok (.bipush (-3), 2) := by decide +kernel
theorem dX12_trial_90 : decode cX12_trial 90 = .ok (.ireturn, 1) := by decide +kernel
theorem dX12_trial_91 : decode cX12_trial 91 = .ok (.iconst 5, 1) := by decide +kernel
theorem dX12_trial_92 : decode cX12_trial 92 = .ok (.aload_n 0, 1) := by decide +kernel
theorem dX12_trial_93 : decode cX12_trial 93 = .ok (.getfield 165, 3) := by decide +kernel
theorem dX12_trial_96 : decode cX12_trial 96 = .ok (.imul, 1) := by decide +kernel
theorem dX12_trial_97 : decode cX12_trial 97 = .ok (.istore 6, 2) := by decide +kernel
theorem dX12_trial_99 : decode cX12_trial 99 = .ok (.aload_n 0, 1) := by decide +kernel
theorem dX12_trial_100 : decode cX12_trial 100 = .ok (.getfield 32, 3) := by decide +kernel
theorem dX12_trial_103 : decode cX12_trial 103 = .ok (.iload 6, 2) := by decide +kernel
theorem dX12_trial_105 : decode cX12_trial 105 = .ok (.iload_n 1, 1) := by decide +kernel
theorem dX12_trial_106 : decode cX12_trial 106 = .ok (.iastore, 1) := by decide +kernel
theorem dX12_trial_107 : decode cX12_trial 107 = .ok (.aload_n 0, 1) := by decide +kernel
theorem dX12_trial_108 : decode cX12_trial 108 = .ok (.getfield 32, 3) := by decide +kernel
theorem dX12_trial_111 : decode cX12_trial 111 = .ok (.iload 6, 2) := by decide +kernel
theorem dX12_trial_113 : decode cX12_trial 113 = .ok (.iconst 1, 1) := by decide +kernel
theorem dX12_trial_114 : decode cX12_trial 114 = .ok (.iadd, 1) := by decide +kernel
theorem dX12_trial_115 : decode cX12_trial 115 = .ok (.iload_n 2, 1) := by decide +kernel
theorem dX12_trial_116 : decode cX12_trial 116 = .ok (.iastore, 1) := by decide +kernel
theorem dX12_trial_117 : decode cX12_trial 117 = .ok (.aload_n 0, 1) := by decide +kernel
theorem dX12_trial_118 : decode cX12_trial 118 = .ok (.getfield 32, 3) := by decide +kernel
theorem dX12_trial_121 : decode cX12_trial 121 = .ok (.iload 6, 2) := by decide +kernel
theorem dX12_trial_123 : decode cX12_trial 123 = .ok (.iconst 2, 1) := by decide +kernel
theorem dX12_trial_124 : decode cX12_trial 124 = .ok (.iadd, 1) := by decide +kernel
theorem dX12_trial_125 : decode cX12_trial 125 = .ok (.iload_n 3, 1) := by decide +kernel
theorem dX12_trial_126 : decode cX12_trial 126 = .ok (.iastore, 1) := by decide +kernel
theorem dX12_trial_127 : decode cX12_trial 127 = .ok (.aload_n 0, 1) := by decide +kernel
theorem dX12_trial_128 : decode cX12_trial 128 = .ok (.getfield 32, 3) := by decide +kernel
theorem dX12_trial_131 : decode cX12_trial 131 = .ok (.iload 6, 2) := by decide +kernel
theorem dX12_trial_133 : decode cX12_trial 133 = .ok (.iconst 3, 1) := by decide +kernel
theorem dX12_trial_134 : decode cX12_trial 134 = .ok (.iadd, 1) := by decide +kernel
theorem dX12_trial_135 : decode cX12_trial 135 = .ok (.iload 4, 2) := by decide +kernel
theorem dX12_trial_137 : decode cX12_trial 137 = .ok (.iastore, 1) := by decide +kernel
theorem dX12_trial_138 : decode cX12_trial 138 = .ok (.aload_n 0, 1) := by decide +kernel
theorem dX12_trial_139 : decode cX12_trial 139 = .ok (.getfield 32, 3) := by decide +kernel
theorem dX12_trial_142 : decode cX12_trial 142 = .ok (.iload 6, 2) := by decide +kernel
theorem dX12_trial_144 : decode cX12_trial 144 = .ok (.iconst 4, 1) := by decide +kernel
theorem dX12_trial_145 : decode cX12_trial 145 = .ok (.iadd, 1) := by decide +kernel
theorem dX12_trial_146 : decode cX12_trial 146 = .ok (.iload 5, 2) := by decide +kernel
theorem dX12_trial_148 : decode cX12_trial 148 = .ok (.iastore, 1) := by decide +kernel
theorem dX12_trial_149 : decode cX12_trial 149 = .ok (.aload_n 0, 1) := by decide +kernel
theorem dX12_trial_150 : decode cX12_trial 150 = .ok (.dup, 1) := by decide +kernel
theorem dX12_trial_151 : decode cX12_trial 151 = .ok (.getfield 165, 3) := by decide +kernel
theorem dX12_trial_154 : decode cX12_trial 154 = .ok (.iconst 1, 1) := by decide +kernel
theorem dX12_trial_155 : decode cX12_trial 155 = .ok (.iadd, 1) := by decide +kernel
theorem dX12_trial_156 : decode cX12_trial 156 = .ok (.putfield 165, 3) := by decide +kernel
theorem dX12_trial_159 : decode cX12_trial 159 = .ok (.aload_n 0, 1) := by decide +kernel
theorem dX12_trial_160 : decode cX12_trial 160 = .ok (.getfield 165, 3) := by decide +kernel
theorem dX12_trial_163 : decode cX12_trial 163 = .ok (.ireturn, 1) := by decide +kernel
theorem dX12_laySpan_0 : decode cX12_laySpan 0 = .ok (.aload_n 0, 1) := by decide +kernel
theorem dX12_laySpan_1 : decode cX12_laySpan 1 = .ok (.lconst 1, 1) := by decide +kernel
theorem dX12_laySpan_2 : decode cX12_laySpan 2 = .ok (.putfield 168, 3) := by decide +kernel
theorem dX12_laySpan_5 : decode cX12_laySpan 5 = .ok (.aload_n 0, 1) := by decide +kernel
theorem dX12_laySpan_6 : decode cX12_laySpan 6 = .ok (.ldc2_w 97, 3) := by decide +kernel
theorem dX12_laySpan_9 : decode cX12_laySpan 9 = .ok (.putfield 171, 3) := by decide +kernel
theorem dX12_laySpan_12 : decode cX12_laySpan 12 = .ok (.iconst 0, 1) := by decide +kernel
theorem dX12_laySpan_13 : decode cX12_laySpan 13 = .ok (.istore 5, 2) := by decide +kernel
theorem dX12_laySpan_15 : decode cX12_laySpan 15 = .ok (.iload 5, 2) := by decide +kernel
theorem dX12_laySpan_17 : decode cX12_laySpan 17 = .ok (.iconst 5, 1) := by decide +kernel
theorem dX12_laySpan_18 : decode cX12_laySpan 18 = .ok (.aload_n 0, 1) := by decide +kernel
theorem dX12_laySpan_19 : decode cX12_laySpan 19 = .ok (.getfield 165, 3) := by decide +kernel
theorem dX12_laySpan_22 : decode cX12_laySpan 22 = .ok (.imul, 1) := by decide +kernel
theorem dX12_laySpan_23 : decode cX12_laySpan 23 = .ok (.if_icmp .ge 250, 3) := by decide +kernel
theorem dX12_laySpan_26 : decode cX12_laySpan 26 = .ok (.aload_n 0, 1) := by decide +kernel
theorem dX12_laySpan_27 : decode cX12_laySpan 27 = .ok (.getfield 32, 3) := by decide +kernel
theorem dX12_laySpan_30 : decode cX12_laySpan 30 = .ok (.iload 5, 2) := by decide +kernel
theorem dX12_laySpan_32 : decode cX12_laySpan 32 = .ok (.iaload, 1) := by decide +kernel
theorem dX12_laySpan_33 : decode cX12_laySpan 33 = .ok (.iload_n 1, 1) := by decide +kernel
theorem dX12_laySpan_34 : decode cX12_laySpan 34 = .ok (.if_icmp .ne 20, 3) := by decide +kernel
theorem dX12_laySpan_37 : decode cX12_laySpan 37 = .ok (.aload_n 0, 1) := by decide +kernel
theorem dX12_laySpan_38 : decode cX12_laySpan 38 = .ok (.getfield 32, 3) := by decide +kernel
theorem dX12_laySpan_41 : decode cX12_laySpan 41 = .ok (.iload 5, 2) := by decide +kernel
theorem dX12_laySpan_43 : decode cX12_laySpan 43 = .ok (.iconst 1, 1) := by decide +kernel
theorem dX12_laySpan_44 : decode cX12_laySpan 44 = .ok (.iadd, 1) := by decide +kernel
theorem dX12_laySpan_45 : decode cX12_laySpan 45 = .ok (.iaload, 1) := by decide +kernel
theorem dX12_laySpan_46 : decode cX12_laySpan 46 = .ok (.iload_n 2, 1) := by decide +kernel
theorem dX12_laySpan_47 : decode cX12_laySpan 47 = .ok (.if_icmp .ne 7, 3) := by decide +kernel
theorem dX12_laySpan_50 : decode cX12_laySpan 50 = .ok (.iconst 1, 1) := by decide +kernel
theorem dX12_laySpan_51 : decode cX12_laySpan 51 = .ok (.goto 4, 3) := by decide +kernel
theorem dX12_laySpan_54 : decode cX12_laySpan 54 = .ok (.iconst 0, 1) := by decide +kernel
theorem dX12_laySpan_55 : decode cX12_laySpan 55 = .ok (.istore 6, 2) := by decide +kernel
theorem dX12_laySpan_57 : decode cX12_laySpan 57 = .ok (.aload_n 0, 1) := by decide +kernel
theorem dX12_laySpan_58 : decode cX12_laySpan 58 = .ok (.getfield 32, 3) := by decide +kernel
theorem dX12_laySpan_61 : decode cX12_laySpan 61 = .ok (.iload 5, 2) := by decide +kernel
theorem dX12_laySpan_63 : decode cX12_laySpan 63 = .ok (.iaload, 1) := by decide +kernel
theorem dX12_laySpan_64 : decode cX12_laySpan 64 = .ok (.iload_n 2, 1) := by decide +kernel
theorem dX12_laySpan_65 : decode cX12_laySpan 65 = .ok (.if_icmp .ne 20, 3) := by decide +kernel
theorem dX12_laySpan_68 : decode cX12_laySpan 68 = .ok (.aload_n 0, 1) := by decide +kernel
theorem dX12_laySpan_69 : decode cX12_laySpan 69 = .ok (.getfield 32, 3) := by decide +kernel
theorem dX12_laySpan_72 : decode cX12_laySpan 72 = .ok (.iload 5, 2) := by decide +kernel
theorem dX12_laySpan_74 : decode cX12_laySpan 74 = .ok (.iconst 1, 1) := by decide +kernel
theorem dX12_laySpan_75 : decode cX12_laySpan 75 = .ok (.iadd, 1) := by decide +kernel
theorem dX12_laySpan_76 : decode cX12_laySpan 76 = .ok (.iaload, 1) := by decide +kernel
theorem dX12_laySpan_77 : decode cX12_laySpan 77 = .ok (.iload_n 1, 1) := by decide +kernel
theorem dX12_laySpan_78 : decode cX12_laySpan 78 = .ok (.if_icmp .ne 7, 3) := by decide +kernel
theorem dX12_laySpan_81 : decode cX12_laySpan 81 = .ok (.iconst 1, 1) := by decide +kernel
theorem dX12_laySpan_82 : decode cX12_laySpan 82 = .ok (.goto 4, 3) := by decide +kernel
theorem dX12_laySpan_85 : decode cX12_laySpan 85 = .ok (.iconst 0, 1) := by decide +kernel
theorem dX12_laySpan_86 : decode cX12_laySpan 86 = .ok (.istore 7, 2) := by decide +kernel
theorem dX12_laySpan_88 : decode cX12_laySpan 88 = .ok (.iload 6, 2) := by decide +kernel
theorem dX12_laySpan_90 : decode cX12_laySpan 90 = .ok (.ifCond .ne 8, 3) := by decide +kernel
theorem dX12_laySpan_93 : decode cX12_laySpan 93 = .ok (.iload 7, 2) := by decide +kernel
theorem dX12_laySpan_95 : decode cX12_laySpan 95 = .ok (.ifCond .eq 172, 3) := by decide +kernel
theorem dX12_laySpan_98 : decode cX12_laySpan 98 = .ok (.iload 6, 2) := by decide +kernel
theorem dX12_laySpan_100 : decode cX12_laySpan 100 = .ok (.ifCond .eq 16, 3) := by decide +kernel
theorem dX12_laySpan_103 : decode cX12_laySpan 103 = .ok (.aload_n 0, 1) := by decide +kernel
theorem dX12_laySpan_104 : decode cX12_laySpan 104 = .ok (.getfield 32, 3) := by decide +kernel
theorem dX12_laySpan_107 : decode cX12_laySpan 107 = .ok (.iload 5, 2) := by decide +kernel
theorem dX12_laySpan_109 : decode cX12_laySpan 109 = .ok (.iconst 2, 1) := by decide +kernel
theorem dX12_laySpan_110 : decode cX12_laySpan 110 = .ok (.iadd, 1) := by decide +kernel
theorem dX12_laySpan_111 : decode cX12_laySpan 111 = .ok (.iaload, 1) := by decide +kernel
theorem dX12_laySpan_112 : decode cX12_laySpan 112 = .ok (.i2l, 1) := by decide +kernel
theorem dX12_laySpan_113 : decode cX12_laySpan 113 = .ok (.goto 13, 3) := by decide +kernel
theorem dX12_laySpan_116 : decode cX12_laySpan 116 = .ok (.aload_n 0, 1) := by decide +kernel
theorem dX12_laySpan_117 : decode cX12_laySpan 117 = .ok (.getfield 32, 3) := by decide +kernel
theorem dX12_laySpan_120 : decode cX12_laySpan 120 = .ok (.iload 5, 2) := by decide +kernel
theorem dX12_laySpan_122 : decode cX12_laySpan 122 = .ok (.iconst 3, 1) := by decide +kernel
theorem dX12_laySpan_123 : decode cX12_laySpan 123 = .ok (.iadd, 1) := by decide +kernel
theorem dX12_laySpan_124 : decode cX12_laySpan 124 = .ok (.iaload, 1) := by decide +kernel
theorem dX12_laySpan_125 : decode cX12_laySpan 125 = .ok (.i2l, 1) := by decide +kernel
theorem dX12_laySpan_126 : decode cX12_laySpan 126 = .ok (.lstore 8, 2) := by decide +kernel
theorem dX12_laySpan_128 : decode cX12_laySpan 128 = .ok (.iload 6, 2) := by decide +kernel
theorem dX12_laySpan_130 : decode cX12_laySpan 130 = .ok (.ifCond .eq 16, 3) := by decide +kernel
theorem dX12_laySpan_133 : decode cX12_laySpan 133 = .ok (.aload_n 0, 1) := by decide +kernel
theorem dX12_laySpan_134 : decode cX12_laySpan 134 = .ok (.getfield 32, 3) := by decide +kernel
theorem dX12_laySpan_137 : decode cX12_laySpan 137 = .ok (.iload 5, 2) := by decide +kernel
theorem dX12_laySpan_139 : decode cX12_laySpan 139 = .ok (.iconst 3, 1) := by decide +kernel
theorem dX12_laySpan_140 : decode cX12_laySpan 140 = .ok (.iadd, 1) := by decide +kernel
theorem dX12_laySpan_141 : decode cX12_laySpan 141 = .ok (.iaload, 1) := by decide +kernel
theorem dX12_laySpan_142 : decode cX12_laySpan 142 = .ok (.i2l, 1) := by decide +kernel
theorem dX12_laySpan_143 : decode cX12_laySpan 143 = .ok (.goto 13, 3) := by decide +kernel
theorem dX12_laySpan_146 : decode cX12_laySpan 146 = .ok (.aload_n 0, 1) := by decide +kernel
theorem dX12_laySpan_147 : decode cX12_laySpan 147 = .ok (.getfield 32, 3) := by decide +kernel
theorem dX12_laySpan_150 : decode cX12_laySpan 150 = .ok (.iload 5, 2) := by decide +kernel
theorem dX12_laySpan_152 : decode cX12_laySpan 152 = .ok (.iconst 2, 1) := by decide +kernel
theorem dX12_laySpan_153 : decode cX12_laySpan 153 = .ok (.iadd, 1) := by decide +kernel
theorem dX12_laySpan_154 : decode cX12_laySpan 154 = .ok (.iaload, 1) := by decide +kernel
theorem dX12_laySpan_155 : decode cX12_laySpan 155 = .ok (.i2l, 1) := by decide +kernel
theorem dX12_laySpan_156 : decode cX12_laySpan 156 = .ok (.lstore 10, 2) := by decide +kernel
theorem dX12_laySpan_158 : decode cX12_laySpan 158 = .ok (.lload 10, 2) := by decide +kernel
theorem dX12_laySpan_160 : decode cX12_laySpan 160 = .ok (.lload_n 3, 1) := by decide +kernel
theorem dX12_laySpan_161 : decode cX12_laySpan 161 = .ok (.lmul, 1) := by decide +kernel
theorem dX12_laySpan_162 : decode cX12_laySpan 162 = .ok (.aload_n 0, 1) := by decide +kernel
theorem dX12_laySpan_163 : decode cX12_laySpan 163 = .ok (.getfield 32, 3) := by decide +kernel
theorem dX12_laySpan_166 : decode cX12_laySpan 166 = .ok (.iload 5, 2) := by decide +kernel
theorem dX12_laySpan_168 : decode cX12_laySpan 168 = .ok (.iconst 4, 1) := by decide +kernel
theorem dX12_laySpan_169 : decode cX12_laySpan 169 = .ok (.iadd, 1) := by decide +kernel
theorem dX12_laySpan_170 : decode cX12_laySpan 170 = .ok (.iaload, 1) := by decide +kernel
theorem dX12_laySpan_171 : decode cX12_laySpan 171 = .ok (.i2l, 1) := by decide +kernel
theorem dX12_laySpan_172 : decode cX12_laySpan 172 = .ok (.lsub, 1) := by decide +kernel
theorem dX12_laySpan_173 : decode cX12_laySpan 173 = .ok (.lstore 12, 2) := by decide +kernel
theorem dX12_laySpan_175 : decode cX12_laySpan 175 = .ok (.lload 10, 2) := by decide +kernel
theorem dX12_laySpan_177 : decode cX12_laySpan 177 = .ok (.lload_n 3, 1) := by decide +kernel
theorem dX12_laySpan_178 : decode cX12_laySpan 178 = .ok (.lmul, 1) := by decide +kernel
theorem dX12_laySpan_179 : decode cX12_laySpan 179 = .ok (.aload_n 0, 1) := by decide +kernel
theorem dX12_laySpan_180 : decode cX12_laySpan 180 = .ok (.getfield 32, 3) := by decide +kernel
theorem dX12_laySpan_183 : decode cX12_laySpan 183 = .ok (.iload 5, 2) := by decide +kernel
theorem dX12_laySpan_185 : decode cX12_laySpan 185 = .ok (.iconst 4, 1) := by decide +kernel
theorem dX12_laySpan_186 : decode cX12_laySpan 186 = .ok (.iadd, 1) := by decide +kernel
theorem dX12_laySpan_187 : decode cX12_laySpan 187 = .ok (.iaload, 1) := by decide +kernel
theorem dX12_laySpan_188 : decode cX12_laySpan 188 = .ok (.i2l, 1) := by decide +kernel
theorem dX12_laySpan_189 : decode cX12_laySpan 189 = .ok (.ladd, 1) := by decide +kernel
theorem dX12_laySpan_190 : decode cX12_laySpan 190 = .ok (.lstore 14, 2) := by decide +kernel
theorem dX12_laySpan_192 : decode cX12_laySpan 192 = .ok (.lload 12, 2) := by decide +kernel
theorem dX12_laySpan_194 : decode cX12_laySpan 194 = .ok (.lconst 0, 1) := by decide +kernel
theorem dX12_laySpan_195 : decode cX12_laySpan 195 = .ok (.lcmp, 1) := by decide +kernel
theorem dX12_laySpan_196 : decode cX12_laySpan 196 = .ok (.ifCond .gt 7, 3) := by decide +kernel
theorem dX12_laySpan_199 : decode cX12_laySpan 199 = .ok (.lconst 0, 1) := by decide +kernel
theorem dX12_laySpan_200 : decode cX12_laySpan 200 = .ok (.goto 13, 3) := by decide +kernel
theorem dX12_laySpan_203 : decode cX12_laySpan 203 = .ok (.lload 12, 2) := by decide +kernel
theorem dX12_laySpan_205 : decode cX12_laySpan 205 = .ok (.lload 8, 2) := by decide +kernel
theorem dX12_laySpan_207 : decode cX12_laySpan 207 = .ok (.ladd, 1) := by decide +kernel
theorem dX12_laySpan_208 : decode cX12_laySpan 208 = .ok (.lconst 1, 1) := by decide +kernel
theorem dX12_laySpan_209 : decode cX12_laySpan 209 = .ok (.lsub, 1) := by decide +kernel
theorem dX12_laySpan_210 : decode cX12_laySpan 210 = .ok (.lload 8, 2) := by decide +kernel
theorem dX12_laySpan_212 : decode cX12_laySpan 212 = .ok (.ldiv, 1) := by decide +kernel
theorem dX12_laySpan_213 : decode cX12_laySpan 213 = .ok (.lstore 16, 2) := by decide +kernel
theorem dX12_laySpan_215 : decode cX12_laySpan 215 = .ok (.aload_n 0, 1) := by decide +kernel
theorem dX12_laySpan_216 : decode cX12_laySpan 216 = .ok (.lload 16, 2) := by decide +kernel
theorem dX12_laySpan_218 : decode cX12_laySpan 218 = .ok (.aload_n 0, 1) := by decide +kernel
theorem dX12_laySpan_219 : decode cX12_laySpan 219 = .ok (.getfield 168, 3) := by decide +kernel
theorem dX12_laySpan_222 : decode cX12_laySpan 222 = .ok (.lcmp, 1) := by decide +kernel
theorem dX12_laySpan_223 : decode cX12_laySpan 223 = .ok (.ifCond .le 8, 3) := by decide +kernel
theorem dX12_laySpan_226 : decode cX12_laySpan 226 = .ok (.lload 16, 2) := by decide +kernel
theorem dX12_laySpan_228 : decode cX12_laySpan 228 = .ok (.goto 7, 3) := by decide +kernel
theorem dX12_laySpan_231 : decode cX12_laySpan 231 = .ok (.aload_n 0, 1) := by decide +kernel
theorem dX12_laySpan_232 : decode cX12_laySpan 232 = .ok (.getfield 168, 3) := by decide +kernel
theorem dX12_laySpan_235 : decode cX12_laySpan 235 = .ok (.putfield 168, 3) := by decide +kernel
theorem dX12_laySpan_238 : decode cX12_laySpan 238 = .ok (.aload_n 0, 1) := by decide +kernel
theorem dX12_laySpan_239 : decode cX12_laySpan 239 = .ok (.lload 14, 2) := by decide +kernel
theorem dX12_laySpan_241 : decode cX12_laySpan 241 = .ok (.lload 8, 2) := by decide +kernel
theorem dX12_laySpan_243 : decode cX12_laySpan 243 = .ok (.ldiv, 1) := by decide +kernel
theorem dX12_laySpan_244 : decode cX12_laySpan 244 = .ok (.aload_n 0, 1) := by decide +kernel
theorem dX12_laySpan_245 : decode cX12_laySpan 245 = .ok (.getfield 171, 3) := by decide +kernel
theorem dX12_laySpan_248 : decode cX12_laySpan 248 = .ok (.lcmp, 1) := by decide +kernel
theorem dX12_laySpan_249 : decode cX12_laySpan 249 = .ok (.ifCond .ge 11, 3) := by decide +kernel
theorem dX12_laySpan_252 : decode cX12_laySpan 252 = .ok (.lload 14, 2) := by decide +kernel
theorem dX12_laySpan_254 : decode cX12_laySpan 254 = .ok (.lload 8, 2) := by decide +kernel
theorem dX12_laySpan_256 : decode cX12_laySpan 256 = .ok (.ldiv, 1) := by decide +kernel
theorem dX12_laySpan_257 : decode cX12_laySpan 257 = .ok (.goto 7, 3) := by decide +kernel
theorem dX12_laySpan_260 : decode cX12_laySpan 260 = .ok (.aload_n 0, 1) := by decide +kernel
theorem dX12_laySpan_261 : decode cX12_laySpan 261 = .ok (.getfield 171, 3) := by decide +kernel
theorem dX12_laySpan_264 : decode cX12_laySpan 264 = .ok (.putfield 171, 3) := by decide +kernel
theorem dX12_laySpan_267 : decode cX12_laySpan 267 = .ok (.iinc 5 5, 3) := by decide +kernel
theorem dX12_laySpan_270 : decode cX12_laySpan 270 = .ok (.goto (-255), 3) := by decide +kernel
theorem dX12_laySpan_273 : decode cX12_laySpan 273 = .ok (.return_, 1) := by decide +kernel
set_option maxRecDepth 20000 in
theorem ggX12_span_X12_isUnit : GoodIn wsX12_span wsX12_isUnit := goodIn_r _ [11, 12, 13, 14, 10, 15, 22, 23, 24, 25, 26, 27, 28, 29, 30, 31, 32, 33, 34, 35, 36, 37, 38, 39, 40, 41, 42, 43, 44, 45, 46, 47, 48, 49, 50, 51, 52, 53, 54, 55, 56, 57, 58, 59, 60, 61, 62, 63] (by decide +kernel) (by decide +kernel)
set_option maxRecDepth 20000 in
theorem gX12_span_X12_isUnit : GoodIn wsX12_span (wsV RX12 101 RX12 yX12_isUnit wsX12_isUnit) := goodIn_app (goodIn_of _ (by decide +kernel)) ggX12_span_X12_isUnit
set_option maxRecDepth 20000 in
theorem ggX12_span_X12_in : GoodIn wsX12_span wsX12_in := goodIn_r _ [15] (by decide +kernel) (by decide +kernel)
set_option maxRecDepth 20000 in
theorem gX12_span_X12_in : GoodIn wsX12_span (va_wsS RX12 93 yX12_in wsX12_in) := goodIn_app (goodIn_of _ (by decide +kernel)) ggX12_span_X12_in
set_option maxRecDepth 20000 in
theorem ggX12_span_X12_laySpan : GoodIn wsX12_span wsX12_laySpan := goodIn_r _ [19, 4, 1, 5, 20, 21, 22, 23, 24, 25, 26, 27, 28, 29, 30, 31, 32, 33, 34, 35, 36, 37, 38, 39, 40, 41, 42, 43, 44, 45, 46, 47, 48, 49, 50, 51, 52, 53, 54, 55, 56, 57, 58, 59, 60, 61, 62, 63] (by decide +kernel) (by decide +kernel)
set_option maxRecDepth 20000 in
theorem gX12_span_X12_laySpan : GoodIn wsX12_span (wsV RX12 174 RX12 yX12_laySpan wsX12_laySpan) := goodIn_app (goodIn_of _ (by decide +kernel)) ggX12_span_X12_laySpan
theorem dX12_span_0 : decode cX12_span 0 = .ok (.aload_n 0, 1) := by decide +kernel
theorem dX12_span_1 : decode cX12_span 1 = .ok (.iload_n 1, 1) := by decide +kernel
theorem dX12_span_2 : decode cX12_span 2 = .ok (.invokevirtual 101, 3) := by decide +kernel
theorem dX12_span_5 : decode cX12_span 5 = .ok (.ifCond .eq 36, 3) := by decide +kernel
theorem dX12_span_8 : decode cX12_span 8 = .ok (.aload_n 0, 1) := by decide +kernel
theorem dX12_span_9 : decode cX12_span 9 = .ok (.iload_n 2, 1) := by decide +kernel
theorem dX12_span_10 : decode cX12_span 10 = .ok (.invokevirtual 101, 3) := by decide +kernel
theorem dX12_span_13 : decode cX12_span 13 = .ok (.ifCond .eq 28, 3) := by decide +kernel
theorem dX12_span_16 : decode cX12_span 16 = .ok (.iload_n 3, 1) := by decide +kernel
theorem dX12_span_17 : decode cX12_span 17 = .ok (.i2l, 1) := by decide +kernel
theorem dX12_span_18 : decode cX12_span 18 = .ok (.lconst 1, 1) := by decide +kernel
theorem dX12_span_19 : decode cX12_span 19 = .ok (.ldc2_w 97, 3) := by decide +kernel
theorem dX12_span_22 : decode cX12_span 22 = .ok (.invokestatic 93, 3) := by decide +kernel
theorem dX12_span_25 : decode cX12_span 25 = .ok (.ifCond .eq 16, 3) := by decide +kernel
theorem dX12_span_28 : decode cX12_span 28 = .ok (.iload 4, 2) := by decide +kernel
theorem dX12_span_30 : decode cX12_span 30 = .ok (.i2l, 1) := by decide +kernel
theorem dX12_span_31 : decode cX12_span 31 = .ok (.lconst 0, 1) := by decide +kernel
theorem dX12_span_32 : decode cX12_span 32 = .ok (.ldc2_w 107, 3) := by decide +kernel
theorem dX12_span_35 : decode cX12_span 35 = .ok (.invokestatic 93, 3) := by decide +kernel
theorem dX12_span_38 : decode cX12_span 38 = .ok (.ifCond .ne 5, 3) := by decide +kernel
theorem dX12_span_41 : decode cX12_span 41 = .ok (.iconst (-1), 1) := by decide +kernel
theorem dX12_span_42 : decode cX12_span 42 = .ok (.ireturn, 1) := by decide +kernel
theorem dX12_span_43 : decode cX12_span 43 = .ok (.iload_n 1, 1) := by decide +kernel
theorem dX12_span_44 : decode cX12_span 44 = .ok (.iload_n 2, 1) := by decide +kernel
theorem dX12_span_45 : decode cX12_span 45 = .ok (.if_icmp .eq 18, 3) := by decide +kernel
theorem dX12_span_48 : decode cX12_span 48 = .ok (.aload_n 0, 1) := by decide +kernel
theorem dX12_span_49 : decode cX12_span 49 = .ok (.getfield 7, 3) := by decide +kernel
theorem dX12_span_52 : decode cX12_span 52 = .ok (.iload_n 1, 1) := by decide +kernel
theorem dX12_span_53 : decode cX12_span 53 = .ok (.iaload, 1) := by decide +kernel
theorem dX12_span_54 : decode cX12_span 54 = .ok (.aload_n 0, 1) := by decide +kernel
theorem dX12_span_55 : decode cX12_span 55 = .ok (.getfield 7, 3) := by decide +kernel
theorem dX12_span_58 : decode cX12_span 58 = .ok (.iload_n 2, 1) := by decide +kernel
theorem dX12_span_59 : decode cX12_span 59 = .ok (.iaload, 1) := by decide +kernel
theorem dX12_span_60 : decode cX12_span 60 = .ok (.if_icmp .eq 6, 3) := by decide +kernel
theorem dX12_span_63 : decode cX12_span 63 = .ok (.bipush (-2), 2) := by decide +kernel
theorem dX12_span_65 : decode cX12_span 65 = .ok (.ireturn, 1) := by decide +kernel
theorem dX12_span_66 : decode cX12_span 66 = .ok (.aload_n 0, 1) := by decide +kernel
theorem dX12_span_67 : decode cX12_span 67 = .ok (.iload_n 1, 1) := by decide +kernel
theorem dX12_span_68 : decode cX12_span 68 = .ok (.iload_n 2, 1) := by decide +kernel
theorem dX12_span_69 : decode cX12_span 69 = .ok (.iload_n 3, 1) := by decide +kernel
theorem dX12_span_70 : decode cX12_span 70 = .ok (.i2l, 1) := by decide +kernel
theorem dX12_span_71 : decode cX12_span 71 = .ok (.invokevirtual 174, 3) := by decide +kernel
theorem dX12_span_74 : decode cX12_span 74 = .ok (.aload_n 0, 1) := by decide +kernel
theorem dX12_span_75 : decode cX12_span 75 = .ok (.getfield 168, 3) := by decide +kernel
theorem dX12_span_78 : decode cX12_span 78 = .ok (.aload_n 0, 1) := by decide +kernel
theorem dX12_span_79 : decode cX12_span 79 = .ok (.getfield 171, 3) := by decide +kernel
theorem dX12_span_82 : decode cX12_span 82 = .ok (.lcmp, 1) := by decide +kernel
theorem dX12_span_83 : decode cX12_span 83 = .ok (.ifCond .le 6, 3) := by decide +kernel
theorem dX12_span_86 : decode cX12_span 86 = .ok (.bipush (-4), 2) := by decide +kernel
theorem dX12_span_88 : decode cX12_span 88 = .ok (.ireturn, 1) := by decide +kernel
theorem dX12_span_89 : decode cX12_span 89 = .ok (.iload 4, 2) := by decide +kernel
theorem dX12_span_91 : decode cX12_span 91 = .ok (.iconst 2, 1) := by decide +kernel
theorem dX12_span_92 : decode cX12_span 92 = .ok (.if_icmp .ge 21, 3) := by decide +kernel
theorem dX12_span_95 : decode cX12_span 95 = .ok (.iload 4, 2) := by decide +kernel
theorem dX12_span_97 : decode cX12_span 97 = .ok (.ifCond .ne 10, 3) := by decide +kernel
theorem dX12_span_100 : decode cX12_span 100 = .ok (.aload_n 0, 1) := by decide +kernel
theorem dX12_span_101 : decode cX12_span 101 = .ok (.getfield 168, 3) := by decide +kernel
theorem dX12_span_104 : decode cX12_span 104 = .ok (.goto 7, 3) := by decide +kernel
theorem dX12_span_107 : decode cX12_span 107 = .ok (.aload_n 0, 1) := by decide +kernel
theorem dX12_span_108 : decode cX12_span 108 = .ok (.getfield 171, 3) := by decide +kernel
theorem dX12_span_111 : decode cX12_span 111 = .ok (.l2i, 1) := by decide +kernel
theorem dX12_span_112 : decode cX12_span 112 = .ok (.ireturn, 1) := by decide +kernel
theorem dX12_span_113 : decode cX12_span 113 = .ok (.ldc2_w 178, 3) := by decide +kernel
theorem dX12_span_116 : decode cX12_span 116 = .ok (.lstore 5, 2) := by decide +kernel
theorem dX12_span_118 : decode cX12_span 118 = .ok (.iconst 0, 1) := by decide +kernel
theorem dX12_span_119 : decode cX12_span 119 = .ok (.istore 7, 2) := by decide +kernel
theorem dX12_span_121 : decode cX12_span 121 = .ok (.iconst 0, 1) := by decide +kernel
theorem dX12_span_122 : decode cX12_span 122 = .ok (.istore 8, 2) := by decide +kernel
theorem dX12_span_124 : decode cX12_span 124 = .ok (.iconst 1, 1) := by decide +kernel
theorem dX12_span_125 : decode cX12_span 125 = .ok (.istore 9, 2) := by decide +kernel
theorem dX12_span_127 : decode cX12_span 127 = .ok (.iload 9, 2) := by decide +kernel
theorem dX12_span_129 : decode cX12_span 129 = .ok (.bipush 10, 2) := by decide +kernel
theorem dX12_span_131 : decode cX12_span 131 = .ok (.if_icmp .gt 137, 3) := by decide +kernel
theorem dX12_span_134 : decode cX12_span 134 = .ok (.iconst 1, 1) := by decide +kernel
theorem dX12_span_135 : decode cX12_span 135 = .ok (.istore 10, 2) := by decide +kernel
theorem dX12_span_137 : decode cX12_span 137 = .ok (.iload 10, 2) := by decide +kernel
theorem dX12_span_139 : decode cX12_span 139 = .ok (.bipush 10, 2) := by decide +kernel
theorem dX12_span_141 : decode cX12_span 141 = .ok (.if_icmp .gt 121, 3) := by decide +kernel
theorem dX12_span_144 : decode cX12_span 144 = .ok (.iload 10, 2) := by decide +kernel
theorem dX12_span_146 : decode cX12_span 146 = .ok (.i2l, 1) := by decide +kernel
theorem dX12_span_147 : decode cX12_span 147 = .ok (.iload_n 3, 1) := by decide +kernel
theorem dX12_span_148 : decode cX12_span 148 = .ok (.i2l, 1) := by decide +kernel
theorem dX12_span_149 : decode cX12_span 149 = .ok (.lmul, 1) := by decide +kernel
theorem dX12_span_150 : decode cX12_span 150 = .ok (.iload 9, 2) := by decide +kernel
theorem dX12_span_152 : decode cX12_span 152 = .ok (.i2l, 1) := by decide +kernel
theorem dX12_span_153 : decode cX12_span 153 = .ok (.ldiv, 1) := by decide +kernel
theorem dX12_span_154 : decode cX12_span 154 = .ok (.lstore 11, 2) := by decide +kernel
theorem dX12_span_156 : decode cX12_span 156 = .ok (.lload 11, 2) := by decide +kernel
theorem dX12_span_158 : decode cX12_span 158 = .ok (.aload_n 0, 1) := by decide +kernel
theorem dX12_span_159 : decode cX12_span 159 = .ok (.getfield 171, 3) := by decide +kernel
theorem dX12_span_162 : decode cX12_span 162 = .ok (.lcmp, 1) := by decide +kernel
theorem dX12_span_163 : decode cX12_span 163 = .ok (.ifCond .lt 7, 3) := by decide +kernel
theorem dX12_span_166 : decode cX12_span 166 = .ok (.lconst 0, 1) := by decide +kernel
theorem dX12_span_167 : decode cX12_span 167 = .ok (.goto 34, 3) := by decide +kernel
theorem dX12_span_170 : decode cX12_span 170 = .ok (.lload 11, 2) := by decide +kernel
theorem dX12_span_172 : decode cX12_span 172 = .ok (.aload_n 0, 1) := by decide +kernel
theorem dX12_span_173 : decode cX12_span 173 = .ok (.getfield 168, 3) := by decide +kernel
theorem dX12_span_176 : decode cX12_span 176 = .ok (.lcmp, 1) := by decide +kernel
theorem dX12_span_177 : decode cX12_span 177 = .ok (.ifCond .ge 17, 3) := by decide +kernel
theorem dX12_span_180 : decode cX12_span 180 = .ok (.aload_n 0, 1) := by decide +kernel
theorem dX12_span_181 : decode cX12_span 181 = .ok (.getfield 171, 3) := by decide +kernel
theorem dX12_span_184 : decode cX12_span 184 = .ok (.aload_n 0, 1) := by decide +kernel
theorem dX12_span_185 : decode cX12_span 185 = .ok (.getfield 168, 3) := by decide +kernel
theorem dX12_span_188 : decode cX12_span 188 = .ok (.lsub, 1) := by decide +kernel
theorem dX12_span_189 : decode cX12_span 189 = .ok (.lconst 1, 1) := by decide +kernel
theorem dX12_span_190 : decode cX12_span 190 = .ok (.ladd, 1) := by decide +kernel
theorem dX12_span_191 : decode cX12_span 191 = .ok (.goto 10, 3) := by decide +kernel
theorem dX12_span_194 : decode cX12_span 194 = .ok (.aload_n 0, 1) := by decide +kernel
theorem dX12_span_195 : decode cX12_span 195 = .ok (.getfield 171, 3) := by decide +kernel
theorem dX12_span_198 : decode cX12_span 198 = .ok (.lload 11, 2) := by decide +kernel
theorem dX12_span_200 : decode cX12_span 200 = .ok (.lsub, 1) := by decide +kernel
theorem dX12_span_201 : decode cX12_span 201 = .ok (.lstore 13, 2) := by decide +kernel
theorem dX12_span_203 : decode cX12_span 203 = .ok (.aload_n 0, 1) := by decide +kernel
theorem dX12_span_204 : decode cX12_span 204 = .ok (.getfield 171, 3) := by decide +kernel
theorem dX12_span_207 : decode cX12_span 207 = .ok (.aload_n 0, 1) := by decide +kernel
theorem dX12_span_208 : decode cX12_span 208 = .ok (.getfield 168, 3) := by decide +kernel
theorem dX12_span_211 : decode cX12_span 211 = .ok (.lsub, 1) := by decide +kernel
theorem dX12_span_212 : decode cX12_span 212 = .ok (.lconst 1, 1) := by decide +kernel
theorem dX12_span_213 : decode cX12_span 213 = .ok (.ladd, 1) := by decide +kernel
theorem dX12_span_214 : decode cX12_span 214 = .ok (.lload 13, 2) := by decide +kernel
theorem dX12_span_216 : decode cX12_span 216 = .ok (.lsub, 1) := by decide +kernel
theorem dX12_span_217 : decode cX12_span 217 = .ok (.lstore 15, 2) := by decide +kernel
theorem dX12_span_219 : decode cX12_span 219 = .ok (.lload 13, 2) := by decide +kernel
theorem dX12_span_221 : decode cX12_span 221 = .ok (.lload 15, 2) := by decide +kernel
theorem dX12_span_223 : decode cX12_span 223 = .ok (.lcmp, 1) := by decide +kernel
theorem dX12_span_224 : decode cX12_span 224 = .ok (.ifCond .le 8, 3) := by decide +kernel
theorem dX12_span_227 : decode cX12_span 227 = .ok (.lload 13, 2) := by decide +kernel
theorem dX12_span_229 : decode cX12_span 229 = .ok (.goto 5, 3) := by decide +kernel
theorem dX12_span_232 : decode cX12_span 232 = .ok (.lload 15, 2) := by decide +kernel
theorem dX12_span_234 : decode cX12_span 234 = .ok (.lstore 17, 2) := by decide +kernel
theorem dX12_span_236 : decode cX12_span 236 = .ok (.lload 17, 2) := by decide +kernel
theorem dX12_span_238 : decode cX12_span 238 = .ok (.lload 5, 2) := by decide +kernel
theorem dX12_span_240 : decode cX12_span 240 = .ok (.lcmp, 1) := by decide +kernel
theorem dX12_span_241 : decode cX12_span 241 = .ok (.ifCond .ge 15, 3) := by decide +kernel
theorem dX12_span_244 : decode cX12_span 244 = .ok (.lload 17, 2) := by decide +kernel
theorem dX12_span_246 : decode cX12_span 246 = .ok (.lstore 5, 2) := by decide +kernel
theorem dX12_span_248 : decode cX12_span 248 = .ok (.iload 9, 2) := by decide +kernel
theorem dX12_span_250 : decode cX12_span 250 = .ok (.istore 7, 2) := by decide +kernel
theorem dX12_span_252 : decode cX12_span 252 = .ok (.iload 10, 2) := by decide +kernel
theorem dX12_span_254 : decode cX12_span 254 = .ok (.istore 8, 2) := by decide +kernel
theorem dX12_span_256 : decode cX12_span 256 = .ok (.iinc 10 1, 3) := by decide +kernel
theorem dX12_span_259 : decode cX12_span 259 = .ok (.goto (-122), 3) := by decide +kernel
theorem dX12_span_262 : decode cX12_span 262 = .ok (.iinc 9 1, 3) := by decide +kernel
theorem dX12_span_265 : decode cX12_span 265 = .ok (.goto (-138), 3) := by decide +kernel
theorem dX12_span_268 : decode cX12_span 268 = .ok (.iload 4, 2) := by decide +kernel
theorem dX12_span_270 : decode cX12_span 270 = .ok (.iconst 2, 1) := by decide +kernel
theorem dX12_span_271 : decode cX12_span 271 = .ok (.if_icmp .ne 8, 3) := by decide +kernel
theorem dX12_span_274 : decode cX12_span 274 = .ok (.iload 7, 2) := by decide +kernel
theorem dX12_span_276 : decode cX12_span 276 = .ok (.goto 5, 3) := by decide +kernel
theorem dX12_span_279 : decode cX12_span 279 = .ok (.iload 8, 2) := by decide +kernel
theorem dX12_span_281 : decode cX12_span 281 = .ok (.ireturn, 1) := by decide +kernel
set_option maxRecDepth 20000 in
theorem ggX12_write_X12_in : GoodIn wsX12_write wsX12_in := goodIn_r _ [8] (by decide +kernel) (by decide +kernel)
set_option maxRecDepth 20000 in
theorem gX12_write_X12_in : GoodIn wsX12_write (va_wsS RX12 93 yX12_in wsX12_in) := goodIn_app (goodIn_of _ (by decide +kernel)) ggX12_write_X12_in
theorem dX12_write_0 : decode cX12_write 0 = .ok (.iload_n 1, 1) := by decide +kernel
theorem dX12_write_1 : decode cX12_write 1 = .ok (.i2l, 1) := by decide +kernel
theorem dX12_write_2 : decode cX12_write 2 = .ok (.lconst 1, 1) := by decide +kernel
theorem dX12_write_3 : decode cX12_write 3 = .ok (.ldc2_w 180, 3) := by decide +kernel
theorem dX12_write_6 : decode cX12_write 6 = .ok (.invokestatic 93, 3) := by decide +kernel
theorem dX12_write_9 : decode cX12_write 9 = .ok (.ifCond .ne 5, 3) := by decide +kernel
theorem dX12_write_12 : decode cX12_write 12 = .ok (.iconst (-1), 1) := by decide +kernel
theorem dX12_write_13 : decode cX12_write 13 = .ok (.ireturn, 1) := by decide +kernel
theorem dX12_write_14 : decode cX12_write 14 = .ok (.aload_n 0, 1) := by decide +kernel
theorem dX12_write_15 : decode cX12_write 15 = .ok (.getfield 182, 3) := by decide +kernel
theorem dX12_write_18 : decode cX12_write 18 = .ok (.iload_n 1, 1) := by decide +kernel
theorem dX12_write_19 : decode cX12_write 19 = .ok (.iadd, 1) := by decide +kernel
theorem dX12_write_20 : decode cX12_write 20 = .ok (.sipush 300, 3) := by decide +kernel
theorem dX12_write_23 : decode cX12_write 23 = .ok (.if_icmp .le 6, 3) := by decide +kernel
theorem dX12_write_26 : decode cX12_write 26 = .ok (.bipush (-3), 2) := by decide +kernel
theorem dX12_write_28 : decode cX12_write 28 = .ok (.ireturn, 1) := by decide +kernel
theorem dX12_write_29 : decode cX12_write 29 = .ok (.iload_n 1, 1) := by decide +kernel
theorem dX12_write_30 : decode cX12_write 30 = .ok (.iconst 1, 1) := by decide +kernel
theorem dX12_write_31 : decode cX12_write 31 = .ok (.isub, 1) := by decide +kernel
theorem dX12_write_32 : decode cX12_write 32 = .ok (.istore 4, 2) := by decide +kernel
theorem dX12_write_34 : decode cX12_write 34 = .ok (.iload 4, 2) := by decide +kernel
theorem dX12_write_36 : decode cX12_write 36 = .ok (.ifCond .lt 40, 3) := by decide +kernel
theorem dX12_write_39 : decode cX12_write 39 = .ok (.aload_n 0, 1) := by decide +kernel
theorem dX12_write_40 : decode cX12_write 40 = .ok (.getfield 35, 3) := by decide +kernel
theorem dX12_write_43 : decode cX12_write 43 = .ok (.aload_n 0, 1) := by decide +kernel
theorem dX12_write_44 : decode cX12_write 44 = .ok (.getfield 182, 3) := by decide +kernel
theorem dX12_write_47 : decode cX12_write 47 = .ok (.lload_n 2, 1) := by decide +kernel
theorem dX12_write_48 : decode cX12_write 48 = .ok (.bipush 8, 2) := by decide +kernel
theorem dX12_write_50 : decode cX12_write 50 = .ok (.iload 4, 2) := by decide +kernel
theorem dX12_write_52 : decode cX12_write 52 = .ok (.imul, 1) := by decide +kernel
theorem dX12_write_53 : decode cX12_write 53 = .ok (.lshr, 1) := by decide +kernel
theorem dX12_write_54 : decode cX12_write 54 = .ok (.ldc2_w 185, 3) := by decide +kernel
theorem dX12_write_57 : decode cX12_write 57 = .ok (.land, 1) := by decide +kernel
theorem dX12_write_58 : decode cX12_write 58 = .ok (.l2i, 1) := by decide +kernel
theorem dX12_write_59 : decode cX12_write 59 = .ok (.iastore, 1) := by decide +kernel
theorem dX12_write_60 : decode cX12_write 60 = .ok (.aload_n 0, 1) := by decide +kernel
theorem dX12_write_61 : decode cX12_write 61 = .ok (.dup, 1) := by decide +kernel
theorem dX12_write_62 : decode cX12_write 62 = .ok (.getfield 182, 3) := by decide +kernel
theorem dX12_write_65 : decode cX12_write 65 = .ok (.iconst 1, 1) := by decide +kernel
theorem dX12_write_66 : decode cX12_write 66 = .ok (.iadd, 1) := by decide +kernel
theorem dX12_write_67 : decode cX12_write 67 = .ok (.putfield 182, 3) := by decide +kernel
theorem dX12_write_70 : decode cX12_write 70 = .ok (.iinc 4 (-1), 3) := by decide +kernel
theorem dX12_write_73 : decode cX12_write 73 = .ok (.goto (-39), 3) := by decide +kernel
theorem dX12_write_76 : decode cX12_write 76 = .ok (.aload_n 0, 1) := by decide +kernel
theorem dX12_write_77 : decode cX12_write 77 = .ok (.getfield 182, 3) := by decide +kernel
theorem dX12_write_80 : decode cX12_write 80 = .ok (.ireturn, 1) := by decide +kernel
theorem dX12_clear_0 : decode cX12_clear 0 = .ok (.aload_n 0, 1) := by decide +kernel
theorem dX12_clear_1 : decode cX12_clear 1 = .ok (.getfield 182, 3) := by decide +kernel
theorem dX12_clear_4 : decode cX12_clear 4 = .ok (.istore_n 1, 1) := by decide +kernel
theorem dX12_clear_5 : decode cX12_clear 5 = .ok (.aload_n 0, 1) := by decide +kernel
theorem dX12_clear_6 : decode cX12_clear 6 = .ok (.iconst 0, 1) := by decide +kernel
theorem dX12_clear_7 : decode cX12_clear 7 = .ok (.putfield 182, 3) := by decide +kernel
theorem dX12_clear_10 : decode cX12_clear 10 = .ok (.iload_n 1, 1) := by decide +kernel
theorem dX12_clear_11 : decode cX12_clear 11 = .ok (.ireturn, 1) := by decide +kernel
set_option maxRecDepth 20000 in
theorem ggX12_numbers_X12_in : GoodIn wsX12_numbers wsX12_in := goodIn_r _ [11] (by decide +kernel) (by decide +kernel)
set_option maxRecDepth 20000 in
theorem gX12_numbers_X12_in : GoodIn wsX12_numbers (va_wsS RX12 93 yX12_in wsX12_in) := goodIn_app (goodIn_of _ (by decide +kernel)) ggX12_numbers_X12_in
theorem dX12_numbers_0 : decode cX12_numbers 0 = .ok (.iconst 0, 1) := by decide +kernel
theorem dX12_numbers_1 : decode cX12_numbers 1 = .ok (.istore_n 1, 1) := by decide +kernel
theorem dX12_numbers_2 : decode cX12_numbers 2 = .ok (.iload_n 1, 1) := by decide +kernel
theorem dX12_numbers_3 : decode cX12_numbers 3 = .ok (.iconst 4, 1) := by decide +kernel
theorem dX12_numbers_4 : decode cX12_numbers 4 = .ok (.if_icmp .ge 151, 3) := by decide +kernel
theorem dX12_numbers_7 : decode cX12_numbers 7 = .ok (.iconst 0, 1) := by decide +kernel
theorem dX12_numbers_8 : decode cX12_numbers 8 = .ok (.istore_n 2, 1) := by decide +kernel
theorem dX12_numbers_9 : decode cX12_numbers 9 = .ok (.iconst 0, 1) := by decide +kernel
theorem dX12_numbers_10 : decode cX12_numbers 10 = .ok (.istore_n 3, 1) := by decide +kernel
theorem dX12_numbers_11 : decode cX12_numbers 11 = .ok (.aload_n 0, 1) := by decide +kernel
theorem dX12_numbers_12 : decode cX12_numbers 12 = .ok (.getfield 187, 3) := by decide +kernel
theorem dX12_numbers_15 : decode cX12_numbers 15 = .ok (.aload_n 0, 1) := by decide +kernel
theorem dX12_numbers_16 : decode cX12_numbers 16 = .ok (.getfield 182, 3) := by decide +kernel
theorem dX12_numbers_19 : decode cX12_numbers 19 = .ok (.if_icmp .ge 64, 3) := by decide +kernel
theorem dX12_numbers_22 : decode cX12_numbers 22 = .ok (.aload_n 0, 1) := by decide +kernel
theorem dX12_numbers_23 : decode cX12_numbers 23 = .ok (.getfield 35, 3) := by decide +kernel
theorem dX12_numbers_26 : decode cX12_numbers 26 = .ok (.aload_n 0, 1) := by decide +kernel
theorem dX12_numbers_27 : decode cX12_numbers 27 = .ok (.getfield 187, 3) := by decide +kernel
theorem dX12_numbers_30 : decode cX12_numbers 30 = .ok (.iaload, 1) := by decide +kernel
theorem dX12_numbers_31 : decode cX12_numbers 31 = .ok (.i2l, 1) := by decide +kernel
theorem dX12_numbers_32 : decode cX12_numbers 32 = .ok (.ldc2_w 190, 3) := by decide +kernel
theorem dX12_numbers_35 : decode cX12_numbers 35 = .ok (.ldc2_w 192, 3) := by decide +kernel
theorem dX12_numbers_38 : decode cX12_numbers 38 = .ok (.invokestatic 93, 3) := by decide +kernel
theorem dX12_numbers_41 : decode cX12_numbers 41 = .ok (.ifCond .eq 42, 3) := by decide +kernel
theorem dX12_numbers_44 : decode cX12_numbers 44 = .ok (.iload_n 2, 1) := by decide +kernel
theorem dX12_numbers_45 : decode cX12_numbers 45 = .ok (.iconst 5, 1) := by decide +kernel
theorem dX12_numbers_46 : decode cX12_numbers 46 = .ok (.if_icmp .ge 37, 3) := by decide +kernel
theorem dX12_numbers_49 : decode cX12_numbers 49 = .ok (.bipush 10, 2) := by decide +kernel
theorem dX12_numbers_51 : decode cX12_numbers 51 = .ok (.iload_n 3, 1) := by decide +kernel
theorem dX12_numbers_52 : decode cX12_numbers 52 = .ok (.imul, 1) := by decide +kernel
theorem dX12_numbers_53 : decode cX12_numbers 53 = .ok (.aload_n 0, 1) := by decide +kernel
theorem dX12_numbers_54 : decode cX12_numbers 54 = .ok (.getfield 35, 3) := by decide +kernel
theorem dX12_numbers_57 : decode cX12_numbers 57 = .ok (.aload_n 0, 1) := by decide +kernel
theorem dX12_numbers_58 : decode cX12_numbers 58 = .ok (.getfield 187, 3) := by decide +kernel
theorem dX12_numbers_61 : decode cX12_numbers 61 = .ok (.iaload, 1) := by decide +kernel
theorem dX12_numbers_62 : decode cX12_numbers 62 = .ok (.iadd, 1) := by decide +kernel
theorem dX12_numbers_63 : decode cX12_numbers 63 = .ok (.bipush 48, 2) := by decide +kernel
theorem dX12_numbers_65 : decode cX12_numbers 65 = .ok (.isub, 1) := by decide +kernel
theorem dX12_numbers_66 : decode cX12_numbers 66 = .ok (.istore_n 3, 1) := by decide +kernel
theorem dX12_numbers_67 : decode cX12_numbers 67 = .ok (.iinc 2 1, 3) := by decide +kernel
theorem dX12_numbers_70 : decode cX12_numbers 70 = .ok (.aload_n 0, 1) := by decide +kernel
theorem dX12_numbers_71 : decode cX12_numbers 71 = .ok (.dup, 1) := by decide +kernel
theorem dX12_numbers_72 : decode cX12_numbers 72 = .ok (.getfield 187, 3) := by decide +kernel
theorem dX12_numbers_75 : decode cX12_numbers 75 = .ok (.iconst 1, 1) := by decide +kernel
theorem dX12_numbers_76 : decode cX12_numbers 76 = .ok (.iadd, 1) := by decide +kernel
theorem dX12_numbers_77 : decode cX12_numbers 77 = .ok (.putfield 187, 3) := by decide +kernel
theorem dX12_numbers_80 : decode cX12_numbers 80 = .ok (.goto (-69), 3) := by decide +kernel
theorem dX12_numbers_83 : decode cX12_numbers 83 = .ok (.iload_n 2, 1) := by decide +kernel
theorem dX12_numbers_84 : decode cX12_numbers 84 = .ok (.i2l, 1) := by decide +kernel
theorem dX12_numbers_85 : decode cX12_numbers 85 = .ok (.lconst 1, 1) := by decide +kernel
theorem dX12_numbers_86 : decode cX12_numbers 86 = .ok (.ldc2_w 157, 3) := by decide +kernel
theorem dX12_numbers_89 : decode cX12_numbers 89 = .ok (.invokestatic 93, 3) := by decide +kernel
theorem dX12_numbers_92 : decode cX12_numbers 92 = .ok (.ifCond .eq 38, 3) := by decide +kernel
theorem dX12_numbers_95 : decode cX12_numbers 95 = .ok (.aload_n 0, 1) := by decide +kernel
theorem dX12_numbers_96 : decode cX12_numbers 96 = .ok (.getfield 187, 3) := by decide +kernel
theorem dX12_numbers_99 : decode cX12_numbers 99 = .ok (.aload_n 0, 1) := by decide +kernel
theorem dX12_numbers_100 : decode cX12_numbers 100 = .ok (.getfield 182, 3) := by decide +kernel
theorem dX12_numbers_103 : decode cX12_numbers 103 = .ok (.if_icmp .eq 27, 3) := by decide +kernel
theorem dX12_numbers_106 : decode cX12_numbers 106 = .ok (.aload_n 0, 1) := by decide +kernel
theorem dX12_numbers_107 : decode cX12_numbers 107 = .ok (.getfield 35, 3) := by decide +kernel
theorem dX12_numbers_110 : decode cX12_numbers 110 = .ok (.aload_n 0, 1) := by decide +kernel
theorem dX12_numbers_111 : decode cX12_numbers 111 = .ok (.getfield 187, 3) := by decide +kernel
theorem dX12_numbers_114 : decode cX12_numbers 114 = .ok (.iaload, 1) := by decide +kernel
theorem dX12_numbers_115 : decode cX12_numbers 115 = .ok (.iload_n 1, 1) := by decide +kernel
theorem dX12_numbers_116 : decode cX12_numbers 116 = .ok (.iconst 3, 1) := by decide +kernel
theorem dX12_numbers_117 : decode cX12_numbers 117 = .ok (.if_icmp .ge 8, 3) := by decide +kernel
theorem dX12_numbers_120 : decode cX12_numbers 120 = .ok (.bipush 44, 2) := by decide +kernel
theorem dX12_numbers_122 : decode cX12_numbers 122 = .ok (.goto 5, 3) := by decide +kernel
theorem dX12_numbers_125 : decode cX12_numbers 125 = .ok (.bipush 59, 2) := by decide +kernel
theorem dX12_numbers_127 : decode cX12_numbers 127 = .ok (.if_icmp .eq 5, 3) := by decide +kernel
theorem dX12_numbers_130 : decode cX12_numbers 130 = .ok (.iconst 0, 1) := by decide +kernel
theorem dX12_numbers_131 : decode cX12_numbers 131 = .ok (.ireturn, 1) := by decide +kernel
theorem dX12_numbers_132 : decode cX12_numbers 132 = .ok (.aload_n 0, 1) := by decide +kernel
theorem dX12_numbers_133 : decode cX12_numbers 133 = .ok (.getfield 78, 3) := by decide +kernel
theorem dX12_numbers_136 : decode cX12_numbers 136 = .ok (.iload_n 1, 1) := by decide +kernel
theorem dX12_numbers_137 : decode cX12_numbers 137 = .ok (.iload_n 3, 1) := by decide +kernel
theorem dX12_numbers_138 : decode cX12_numbers 138 = .ok (.iastore, 1) := by decide +kernel
theorem dX12_numbers_139 : decode cX12_numbers 139 = .ok (.aload_n 0, 1) := by decide +kernel
theorem dX12_numbers_140 : decode cX12_numbers 140 = .ok (.dup, 1) := by decide +kernel
theorem dX12_numbers_141 : decode cX12_numbers 141 = .ok (.getfield 187, 3) := by decide +kernel
theorem dX12_numbers_144 : decode cX12_numbers 144 = .ok (.iconst 1, 1) := by decide +kernel
theorem dX12_numbers_145 : decode cX12_numbers 145 = .ok (.iadd, 1) := by decide +kernel
theorem dX12_numbers_146 : decode cX12_numbers 146 = .ok (.putfield 187, 3) := by decide +kernel
theorem dX12_numbers_149 : decode cX12_numbers 149 = .ok (.iinc 1 1, 3) := by decide +kernel
theorem dX12_numbers_152 : decode cX12_numbers 152 = .ok (.goto (-150), 3) := by decide +kernel
theorem dX12_numbers_155 : decode cX12_numbers 155 = .ok (.iconst 1, 1) := by decide +kernel
theorem dX12_numbers_156 : decode cX12_numbers 156 = .ok (.ireturn, 1) := by decide +kernel
set_option maxRecDepth 20000 in
theorem ggX12_item_X12_numbers : GoodIn wsX12_item wsX12_numbers := goodIn_r _ [11, 2, 12, 1, 13, 14, 15, 3, 16, 17, 10, 18, 19, 20, 21, 22, 23, 24, 25, 26, 27, 28, 29, 30, 31, 32, 33, 34, 35, 36, 37, 38, 39, 40, 41, 42, 43, 44, 45, 46, 47, 48, 49, 50, 51, 52, 53, 54, 55, 56, 57, 58, 59, 60] (by decide +kernel) (by decide +kernel)
set_option maxRecDepth 20000 in
theorem gX12_item_X12_numbers : GoodIn wsX12_item (wsV RX12 194 RX12 yX12_numbers wsX12_numbers) := goodIn_app (goodIn_of _ (by decide +kernel)) ggX12_item_X12_numbers
set_option maxRecDepth 20000 in
theorem ggX12_item_X12_in : GoodIn wsX12_item wsX12_in := goodIn_r _ [18] (by decide +kernel) (by decide +kernel)
set_option maxRecDepth 20000 in
theorem gX12_item_X12_in : GoodIn wsX12_item (va_wsS RX12 93 yX12_in wsX12_in) := goodIn_app (goodIn_of _ (by decide +kernel)) ggX12_item_X12_in
theorem dX12_item_0 : decode cX12_item 0 = .ok (.aload_n 0, 1) := by decide +kernel
theorem dX12_item_1 : decode cX12_item 1 = .ok (.getfield 35, 3) := by decide +kernel
theorem dX12_item_4 : decode cX12_item 4 = .ok (.aload_n 0, 1) := by decide +kernel
theorem dX12_item_5 : decode cX12_item 5 = .ok (.getfield 187, 3) := by decide +kernel
theorem dX12_item_8 : decode cX12_item 8 = .ok (.iaload, 1) := by decide +kernel
theorem dX12_item_9 : decode cX12_item 9 = .ok (.istore_n 1, 1) := by decide +kernel
theorem dX12_item_10 : decode cX12_item 10 = .ok (.aload_n 0, 1) := by decide +kernel
theorem dX12_item_11 : decode cX12_item 11 = .ok (.dup, 1) := by decide +kernel
theorem dX12_item_12 : decode cX12_item 12 = .ok (.getfield 187, 3) := by decide +kernel
theorem dX12_item_15 : decode cX12_item 15 = .ok (.iconst 1, 1) := by decide +kernel
theorem dX12_item_16 : decode cX12_item 16 = .ok (.iadd, 1) := by decide +kernel
theorem dX12_item_17 : decode cX12_item 17 = .ok (.putfield 187, 3) := by decide +kernel
theorem dX12_item_20 : decode cX12_item 20 = .ok (.aload_n 0, 1) := by decide +kernel
theorem dX12_item_21 : decode cX12_item 21 = .ok (.invokevirtual 194, 3) := by decide +kernel
theorem dX12_item_24 : decode cX12_item 24 = .ok (.ifCond .ne 5, 3) := by decide +kernel
theorem dX12_item_27 : decode cX12_item 27 = .ok (.iconst 0, 1) := by decide +kernel
theorem dX12_item_28 : decode cX12_item 28 = .ok (.ireturn, 1) := by decide +kernel
theorem dX12_item_29 : decode cX12_item 29 = .ok (.iload_n 1, 1) := by decide +kernel
theorem dX12_item_30 : decode cX12_item 30 = .ok (.lookupswitch 207 #[(97, 42), (98, 42), (104, 154), (110, 97)], 42) := by decide +kernel
theorem dX12_item_72 : decode cX12_item 72 = .ok (.aload_n 0, 1) := by decide +kernel
theorem dX12_item_73 : decode cX12_item 73 = .ok (.getfield 78, 3) := by decide +kernel
theorem dX12_item_76 : decode cX12_item 76 = .ok (.iconst 0, 1) := by decide +kernel
theorem dX12_item_77 : decode cX12_item 77 = .ok (.iaload, 1) := by decide +kernel
theorem dX12_item_78 : decode cX12_item 78 = .ok (.i2l, 1) := by decide +kernel
theorem dX12_item_79 : decode cX12_item 79 = .ok (.lconst 0, 1) := by decide +kernel
theorem dX12_item_80 : decode cX12_item 80 = .ok (.ldc2_w 198, 3) := by decide +kernel
theorem dX12_item_83 : decode cX12_item 83 = .ok (.invokestatic 93, 3) := by decide +kernel
theorem dX12_item_86 : decode cX12_item 86 = .ok (.ifCond .eq 39, 3) := by decide +kernel
theorem dX12_item_89 : decode cX12_item 89 = .ok (.aload_n 0, 1) := by decide +kernel
theorem dX12_item_90 : decode cX12_item 90 = .ok (.getfield 78, 3) := by decide +kernel
theorem dX12_item_93 : decode cX12_item 93 = .ok (.iconst 1, 1) := by decide +kernel
theorem dX12_item_94 : decode cX12_item 94 = .ok (.iaload, 1) := by decide +kernel
theorem dX12_item_95 : decode cX12_item 95 = .ok (.i2l, 1) := by decide +kernel
theorem dX12_item_96 : decode cX12_item 96 = .ok (.lconst 0, 1) := by decide +kernel
theorem dX12_item_97 : decode cX12_item 97 = .ok (.ldc2_w 200, 3) := by decide +kernel
theorem dX12_item_100 : decode cX12_item 100 = .ok (.invokestatic 93, 3) := by decide +kernel
theorem dX12_item_103 : decode cX12_item 103 = .ok (.ifCond .eq 22, 3) := by decide +kernel
theorem dX12_item_106 : decode cX12_item 106 = .ok (.aload_n 0, 1) := by decide +kernel
theorem dX12_item_107 : decode cX12_item 107 = .ok (.getfield 78, 3) := by decide +kernel
theorem dX12_item_110 : decode cX12_item 110 = .ok (.iconst 2, 1) := by decide +kernel
theorem dX12_item_111 : decode cX12_item 111 = .ok (.iaload, 1) := by decide +kernel
theorem dX12_item_112 : decode cX12_item 112 = .ok (.aload_n 0, 1) := by decide +kernel
theorem dX12_item_113 : decode cX12_item 113 = .ok (.getfield 78, 3) := by decide +kernel
theorem dX12_item_116 : decode cX12_item 116 = .ok (.iconst 3, 1) := by decide +kernel
theorem dX12_item_117 : decode cX12_item 117 = .ok (.iaload, 1) := by decide +kernel
theorem dX12_item_118 : decode cX12_item 118 = .ok (.if_icmp .gt 7, 3) := by decide +kernel
theorem dX12_item_121 : decode cX12_item 121 = .ok (.iconst 1, 1) := by decide +kernel
theorem dX12_item_122 : decode cX12_item 122 = .ok (.goto 4, 3) := by decide +kernel
theorem dX12_item_125 : decode cX12_item 125 = .ok (.iconst 0, 1) := by decide +kernel
theorem dX12_item_126 : decode cX12_item 126 = .ok (.ireturn, 1) := by decide +kernel
theorem dX12_item_127 : decode cX12_item 127 = .ok (.aload_n 0, 1) := by decide +kernel
theorem dX12_item_128 : decode cX12_item 128 = .ok (.getfield 78, 3) := by decide +kernel
theorem dX12_item_131 : decode cX12_item 131 = .ok (.iconst 0, 1) := by decide +kernel
theorem dX12_item_132 : decode cX12_item 132 = .ok (.iaload, 1) := by decide +kernel
theorem dX12_item_133 : decode cX12_item 133 = .ok (.i2l, 1) := by decide +kernel
theorem dX12_item_134 : decode cX12_item 134 = .ok (.lconst 0, 1) := by decide +kernel
theorem dX12_item_135 : decode cX12_item 135 = .ok (.ldc2_w 202, 3) := by decide +kernel
theorem dX12_item_138 : decode cX12_item 138 = .ok (.invokestatic 93, 3) := by decide +kernel
theorem dX12_item_141 : decode cX12_item 141 = .ok (.ifCond .eq 41, 3) := by decide +kernel
theorem dX12_item_144 : decode cX12_item 144 = .ok (.aload_n 0, 1) := by decide +kernel
theorem dX12_item_145 : decode cX12_item 145 = .ok (.getfield 78, 3) := by decide +kernel
theorem dX12_item_148 : decode cX12_item 148 = .ok (.iconst 1, 1) := by decide +kernel
theorem dX12_item_149 : decode cX12_item 149 = .ok (.iaload, 1) := by decide +kernel
theorem dX12_item_150 : decode cX12_item 150 = .ok (.i2l, 1) := by decide +kernel
theorem dX12_item_151 : decode cX12_item 151 = .ok (.lconst 0, 1) := by decide +kernel
theorem dX12_item_152 : decode cX12_item 152 = .ok (.ldc2_w 198, 3) := by decide +kernel
theorem dX12_item_155 : decode cX12_item 155 = .ok (.invokestatic 93, 3) := by decide +kernel
theorem dX12_item_158 : decode cX12_item 158 = .ok (.ifCond .eq 24, 3) := by decide +kernel
theorem dX12_item_161 : decode cX12_item 161 = .ok (.aload_n 0, 1) := by decide +kernel
theorem dX12_item_162 : decode cX12_item 162 = .ok (.getfield 78, 3) := by decide +kernel
theorem dX12_item_165 : decode cX12_item 165 = .ok (.iconst 2, 1) := by decide +kernel
theorem dX12_item_166 : decode cX12_item 166 = .ok (.iaload, 1) := by decide +kernel
theorem dX12_item_167 : decode cX12_item 167 = .ok (.i2l, 1) := by decide +kernel
theorem dX12_item_168 : decode cX12_item 168 = .ok (.lconst 0, 1) := by decide +kernel
theorem dX12_item_169 : decode cX12_item 169 = .ok (.ldc2_w 200, 3) := by decide +kernel
theorem dX12_item_172 : decode cX12_item 172 = .ok (.invokestatic 93, 3) := by decide +kernel
theorem dX12_item_175 : decode cX12_item 175 = .ok (.ifCond .eq 7, 3) := by decide +kernel
theorem dX12_item_178 : decode cX12_item 178 = .ok (.iconst 1, 1) := by decide +kernel
theorem dX12_item_179 : decode cX12_item 179 = .ok (.goto 4, 3) := by decide +kernel
theorem dX12_item_182 : decode cX12_item 182 = .ok (.iconst 0, 1) := by decide +kernel
theorem dX12_item_183 : decode cX12_item 183 = .ok (.ireturn, 1) := by decide +kernel
theorem dX12_item_184 : decode cX12_item 184 = .ok (.aload_n 0, 1) := by decide +kernel
theorem dX12_item_185 : decode cX12_item 185 = .ok (.getfield 78, 3) := by decide +kernel
theorem dX12_item_188 : decode cX12_item 188 = .ok (.iconst 0, 1) := by decide +kernel
theorem dX12_item_189 : decode cX12_item 189 = .ok (.iaload, 1) := by decide +kernel
theorem dX12_item_190 : decode cX12_item 190 = .ok (.i2l, 1) := by decide +kernel
theorem dX12_item_191 : decode cX12_item 191 = .ok (.lconst 0, 1) := by decide +kernel
theorem dX12_item_192 : decode cX12_item 192 = .ok (.ldc2_w 200, 3) := by decide +kernel
theorem dX12_item_195 : decode cX12_item 195 = .ok (.invokestatic 93, 3) := by decide +kernel
theorem dX12_item_198 : decode cX12_item 198 = .ok (.ifCond .eq 37, 3) := by decide +kernel
theorem dX12_item_201 : decode cX12_item 201 = .ok (.aload_n 0, 1) := by decide +kernel
theorem dX12_item_202 : decode cX12_item 202 = .ok (.getfield 78, 3) := by decide +kernel
theorem dX12_item_205 : decode cX12_item 205 = .ok (.iconst 1, 1) := by decide +kernel
theorem dX12_item_206 : decode cX12_item 206 = .ok (.iaload, 1) := by decide +kernel
theorem dX12_item_207 : decode cX12_item 207 = .ok (.i2l, 1) := by decide +kernel
theorem dX12_item_208 : decode cX12_item 208 = .ok (.lconst 0, 1) := by decide +kernel
theorem dX12_item_209 : decode cX12_item 209 = .ok (.lconst 1, 1) := by decide +kernel
theorem dX12_item_210 : decode cX12_item 210 = .ok (.invokestatic 93, 3) := by decide +kernel
theorem dX12_item_213 : decode cX12_item 213 = .ok (.ifCond .eq 22, 3) := by decide +kernel
theorem dX12_item_216 : decode cX12_item 216 = .ok (.aload_n 0, 1) := by decide +kernel
theorem dX12_item_217 : decode cX12_item 217 = .ok (.getfield 78, 3) := by decide +kernel
theorem dX12_item_220 : decode cX12_item 220 = .ok (.iconst 2, 1) := by decide +kernel
theorem dX12_item_221 : decode cX12_item 221 = .ok (.iaload, 1) := by decide +kernel
theorem dX12_item_222 : decode cX12_item 222 = .ok (.aload_n 0, 1) := by decide +kernel
theorem dX12_item_223 : decode cX12_item 223 = .ok (.getfield 78, 3) := by decide +kernel
theorem dX12_item_226 : decode cX12_item 226 = .ok (.iconst 3, 1) := by decide +kernel
theorem dX12_item_227 : decode cX12_item 227 = .ok (.iaload, 1) := by decide +kernel
theorem dX12_item_228 : decode cX12_item 228 = .ok (.if_icmp .gt 7, 3) := by decide +kernel
theorem dX12_item_231 : decode cX12_item 231 = .ok (.iconst 1, 1) := by decide +kernel
theorem dX12_item_232 : decode cX12_item 232 = .ok (.goto 4, 3) := by decide +kernel
theorem dX12_item_235 : decode cX12_item 235 = .ok (.iconst 0, 1) := by decide +kernel
theorem dX12_item_236 : decode cX12_item 236 = .ok (.ireturn, 1) := by decide +kernel
theorem dX12_item_237 : decode cX12_item 237 = .ok (.iconst 0, 1) := by decide +kernel
theorem dX12_item_238 : decode cX12_item 238 = .ok (.ireturn, 1) := by decide +kernel
set_option maxRecDepth 20000 in
theorem ggX12_readAll_X12_item : GoodIn wsX12_readAll wsX12_item := goodIn_r _ [11, 5, 2, 6, 12, 13, 14, 15, 16, 17, 10, 18, 3, 19, 20, 21, 22, 23, 24, 25, 26, 27, 28, 29, 30, 31, 32, 33, 34, 35, 36, 37, 38, 39, 40, 41, 42, 43, 44, 45, 46, 47, 48, 49, 50, 51, 52, 53, 54, 55, 56, 57, 58, 59, 60, 61, 62, 63, 64, 65, 66] (by decide +kernel) (by decide +kernel)
set_option maxRecDepth 20000 in
theorem gX12_readAll_X12_item : GoodIn wsX12_readAll (wsV RX12 204 RX12 yX12_item wsX12_item) := goodIn_app (goodIn_of _ (by decide +kernel)) ggX12_readAll_X12_item
theorem dX12_readAll_0 : decode cX12_readAll 0 = .ok (.aload_n 0, 1) := by decide +kernel
theorem dX12_readAll_1 : decode cX12_readAll 1 = .ok (.getfield 38, 3) := by decide +kernel
theorem dX12_readAll_4 : decode cX12_readAll 4 = .ok (.iconst 0, 1) := by decide +kernel
theorem dX12_readAll_5 : decode cX12_readAll 5 = .ok (.iconst 0, 1) := by decide +kernel
theorem dX12_readAll_6 : decode cX12_readAll 6 = .ok (.iastore, 1) := by decide +kernel
theorem dX12_readAll_7 : decode cX12_readAll 7 = .ok (.aload_n 0, 1) := by decide +kernel
theorem dX12_readAll_8 : decode cX12_readAll 8 = .ok (.iconst 0, 1) := by decide +kernel
theorem dX12_readAll_9 : decode cX12_readAll 9 = .ok (.putfield 187, 3) := by decide +kernel
theorem dX12_readAll_12 : decode cX12_readAll 12 = .ok (.aload_n 0, 1) := by decide +kernel
theorem dX12_readAll_13 : decode cX12_readAll 13 = .ok (.getfield 187, 3) := by decide +kernel
theorem dX12_readAll_16 : decode cX12_readAll 16 = .ok (.aload_n 0, 1) := by decide +kernel
theorem dX12_readAll_17 : decode cX12_readAll 17 = .ok (.getfield 182, 3) := by decide +kernel
theorem dX12_readAll_20 : decode cX12_readAll 20 = .ok (.if_icmp .ge 80, 3) := by decide +kernel
theorem dX12_readAll_23 : decode cX12_readAll 23 = .ok (.aload_n 0, 1) := by decide +kernel
theorem dX12_readAll_24 : decode cX12_readAll 24 = .ok (.getfield 187, 3) := by decide +kernel
theorem dX12_readAll_27 : decode cX12_readAll 27 = .ok (.istore_n 1, 1) := by decide +kernel
theorem dX12_readAll_28 : decode cX12_readAll 28 = .ok (.aload_n 0, 1) := by decide +kernel
theorem dX12_readAll_29 : decode cX12_readAll 29 = .ok (.invokevirtual 204, 3) := by decide +kernel
theorem dX12_readAll_32 : decode cX12_readAll 32 = .ok (.ifCond .ne 5, 3) := by decide +kernel
theorem dX12_readAll_35 : decode cX12_readAll 35 = .ok (.iload_n 1, 1) := by decide +kernel
theorem dX12_readAll_36 : decode cX12_readAll 36 = .ok (.ireturn, 1) := by decide +kernel
theorem dX12_readAll_37 : decode cX12_readAll 37 = .ok (.iconst 5, 1) := by decide +kernel
theorem dX12_readAll_38 : decode cX12_readAll 38 = .ok (.aload_n 0, 1) := by decide +kernel
theorem dX12_readAll_39 : decode cX12_readAll 39 = .ok (.getfield 38, 3) := by decide +kernel
theorem dX12_readAll_42 : decode cX12_readAll 42 = .ok (.iconst 0, 1) := by decide +kernel
theorem dX12_readAll_43 : decode cX12_readAll 43 = .ok (.iaload, 1) := by decide +kernel
theorem dX12_readAll_44 : decode cX12_readAll 44 = .ok (.imul, 1) := by decide +kernel
theorem dX12_readAll_45 : decode cX12_readAll 45 = .ok (.istore_n 2, 1) := by decide +kernel
theorem dX12_readAll_46 : decode cX12_readAll 46 = .ok (.aload_n 0, 1) := by decide +kernel
theorem dX12_readAll_47 : decode cX12_readAll 47 = .ok (.getfield 41, 3) := by decide +kernel
theorem dX12_readAll_50 : decode cX12_readAll 50 = .ok (.iload_n 2, 1) := by decide +kernel
theorem dX12_readAll_51 : decode cX12_readAll 51 = .ok (.aload_n 0, 1) := by decide +kernel
theorem dX12_readAll_52 : decode cX12_readAll 52 = .ok (.getfield 35, 3) := by decide +kernel
theorem dX12_readAll_55 : decode cX12_readAll 55 = .ok (.iload_n 1, 1) := by decide +kernel
theorem dX12_readAll_56 : decode cX12_readAll 56 = .ok (.iaload, 1) := by decide +kernel
theorem dX12_readAll_57 : decode cX12_readAll 57 = .ok (.iastore, 1) := by decide +kernel
theorem dX12_readAll_58 : decode cX12_readAll 58 = .ok (.iconst 0, 1) := by decide +kernel
theorem dX12_readAll_59 : decode cX12_readAll 59 = .ok (.istore_n 3, 1) := by decide +kernel
theorem dX12_readAll_60 : decode cX12_readAll 60 = .ok (.iload_n 3, 1) := by decide +kernel
theorem dX12_readAll_61 : decode cX12_readAll 61 = .ok (.iconst 4, 1) := by decide +kernel
theorem dX12_readAll_62 : decode cX12_readAll 62 = .ok (.if_icmp .ge 25, 3) := by decide +kernel
theorem dX12_readAll_65 : decode cX12_readAll 65 = .ok (.aload_n 0, 1) := by decide +kernel
theorem dX12_readAll_66 : decode cX12_readAll 66 = .ok (.getfield 41, 3) := by decide +kernel
theorem dX12_readAll_69 : decode cX12_readAll 69 = .ok (.iload_n 2, 1) := by decide +kernel
theorem dX12_readAll_70 : decode cX12_readAll 70 = .ok (.iconst 1, 1) := by decide +kernel
theorem dX12_readAll_71 : decode cX12_readAll 71 = .ok (.iadd, 1) := by decide +kernel
theorem dX12_readAll_72 : decode cX12_readAll 72 = .ok (.iload_n 3, 1) := by decide +kernel
theorem dX12_readAll_73 : decode cX12_readAll 73 = .ok (.iadd, 1) := by decide +kernel
theorem dX12_readAll_74 : decode cX12_readAll 74 = .ok (.aload_n 0, 1) := by decide +kernel
theorem dX12_readAll_75 : decode cX12_readAll 75 = .ok (.getfield 78, 3) := by decide +kernel
theorem dX12_readAll_78 : decode cX12_readAll 78 = .ok (.iload_n 3, 1) := by decide +kernel
theorem dX12_readAll_79 : decode cX12_readAll 79 = .ok (.iaload, 1) := by decide +kernel
theorem dX12_readAll_80 : decode cX12_readAll 80 = .ok (.iastore, 1) := by decide +kernel
theorem dX12_readAll_81 : decode cX12_readAll 81 = .ok (.iinc 3 1, 3) := by decide +kernel
theorem dX12_readAll_84 : decode cX12_readAll 84 = .ok (.goto (-24), 3) := by decide +kernel
theorem dX12_readAll_87 : decode cX12_readAll 87 = .ok (.aload_n 0, 1) := by decide +kernel
theorem dX12_readAll_88 : decode cX12_readAll 88 = .ok (.getfield 38, 3) := by decide +kernel
theorem dX12_readAll_91 : decode cX12_readAll 91 = .ok (.iconst 0, 1) := by decide +kernel
theorem dX12_readAll_92 : decode cX12_readAll 92 = .ok (.dup2, 1) := by decide +kernel
theorem dX12_readAll_93 : decode cX12_readAll 93 = .ok (.iaload, 1) := by decide +kernel
theorem dX12_readAll_94 : decode cX12_readAll 94 = .ok (.iconst 1, 1) := by decide +kernel
theorem dX12_readAll_95 : decode cX12_readAll 95 = .ok (.iadd, 1) := by decide +kernel
theorem dX12_readAll_96 : decode cX12_readAll 96 = .ok (.iastore, 1) := by decide +kernel
theorem dX12_readAll_97 : decode cX12_readAll 97 = .ok (.goto (-85), 3) := by decide +kernel
theorem dX12_readAll_100 : decode cX12_readAll 100 = .ok (.bipush (-4), 2) := by decide +kernel
theorem dX12_readAll_102 : decode cX12_readAll 102 = .ok (.ireturn, 1) := by decide +kernel
set_option maxRecDepth 20000 in
theorem ggX12_fault_X12_readAll : GoodIn wsX12_fault wsX12_readAll := goodIn_r _ [5, 6, 7, 8, 9, 10, 11, 12, 13, 14, 4, 15, 16, 17, 18, 19, 20, 21, 22, 23, 24, 25, 26, 27, 28, 29, 30, 31, 32, 33, 34, 35, 36, 37, 38, 39, 40, 41, 42, 43, 44, 45, 46, 47, 48, 49, 50, 51, 52, 53, 54, 55, 56, 57, 58, 59, 60, 61, 62, 63, 64, 65, 66, 67, 68, 69, 70] (by decide +kernel) (by decide +kernel)
set_option maxRecDepth 20000 in
theorem gX12_fault_X12_readAll : GoodIn wsX12_fault (wsV RX12 207 RX12 yX12_readAll wsX12_readAll) := goodIn_app (goodIn_of _ (by decide +kernel)) ggX12_fault_X12_readAll
theorem dX12_fault_0 : decode cX12_fault 0 = .ok (.aload_n 0, 1) := by decide +kernel
theorem dX12_fault_1 : decode cX12_fault 1 = .ok (.invokevirtual 207, 3) := by decide +kernel
theorem dX12_fault_4 : decode cX12_fault 4 = .ok (.ireturn, 1) := by decide +kernel
set_option maxRecDepth 20000 in
theorem ggX12_force_X12_readAll : GoodIn wsX12_force wsX12_readAll := goodIn_r _ [7, 1, 8, 9, 2, 10, 11, 12, 13, 14, 6, 15, 16, 17, 18, 19, 20, 21, 22, 23, 24, 25, 26, 27, 28, 29, 30, 31, 32, 33, 34, 35, 36, 37, 38, 39, 40, 41, 42, 43, 44, 45, 46, 47, 48, 49, 50, 51, 52, 53, 54, 55, 56, 57, 58, 59, 60, 61, 62, 63, 64, 65, 66, 67, 68, 69, 70] (by decide +kernel) (by decide +kernel)
set_option maxRecDepth 20000 in
theorem gX12_force_X12_readAll : GoodIn wsX12_force (wsV RX12 207 RX12 yX12_readAll wsX12_readAll) := goodIn_app (goodIn_of _ (by decide +kernel)) ggX12_force_X12_readAll
theorem dX12_force_0 : decode cX12_force 0 = .ok (.aload_n 0, 1) := by decide +kernel
theorem dX12_force_1 : decode cX12_force 1 = .ok (.invokevirtual 207, 3) := by decide +kernel
theorem dX12_force_4 : decode cX12_force 4 = .ok (.bipush (-4), 2) := by decide +kernel
theorem dX12_force_6 : decode cX12_force 6 = .ok (.if_icmp .eq 6, 3) := by decide +kernel
theorem dX12_force_9 : decode cX12_force 9 = .ok (.bipush (-2), 2) := by decide +kernel
theorem dX12_force_11 : decode cX12_force 11 = .ok (.ireturn, 1) := by decide +kernel
theorem dX12_force_12 : decode cX12_force 12 = .ok (.aload_n 0, 1) := by decide +kernel
theorem dX12_force_13 : decode cX12_force 13 = .ok (.getfield 38, 3) := by decide +kernel
theorem dX12_force_16 : decode cX12_force 16 = .ok (.iconst 1, 1) := by decide +kernel
theorem dX12_force_17 : decode cX12_force 17 = .ok (.aload_n 0, 1) := by decide +kernel
theorem dX12_force_18 : decode cX12_force 18 = .ok (.getfield 38, 3) := by decide +kernel
theorem dX12_force_21 : decode cX12_force 21 = .ok (.iconst 0, 1) := by decide +kernel
theorem dX12_force_22 : decode cX12_force 22 = .ok (.iaload, 1) := by decide +kernel
theorem dX12_force_23 : decode cX12_force 23 = .ok (.iastore, 1) := by decide +kernel
theorem dX12_force_24 : decode cX12_force 24 = .ok (.iconst 0, 1) := by decide +kernel
theorem dX12_force_25 : decode cX12_force 25 = .ok (.istore_n 1, 1) := by decide +kernel
theorem dX12_force_26 : decode cX12_force 26 = .ok (.iload_n 1, 1) := by decide +kernel
theorem dX12_force_27 : decode cX12_force 27 = .ok (.sipush 300, 3) := by decide +kernel
theorem dX12_force_30 : decode cX12_force 30 = .ok (.if_icmp .ge 25, 3) := by decide +kernel
theorem dX12_force_33 : decode cX12_force 33 = .ok (.aload_n 0, 1) := by decide +kernel
theorem dX12_force_34 : decode cX12_force 34 = .ok (.getfield 41, 3) := by decide +kernel
theorem dX12_force_37 : decode cX12_force 37 = .ok (.sipush 300, 3) := by decide +kernel
theorem dX12_force_40 : decode cX12_force 40 = .ok (.iload_n 1, 1) := by decide +kernel
theorem dX12_force_41 : decode cX12_force 41 = .ok (.iadd, 1) := by decide +kernel
theorem dX12_force_42 : decode cX12_force 42 = .ok (.aload_n 0, 1) := by decide +kernel
theorem dX12_force_43 : decode cX12_force 43 = .ok (.getfield 41, 3) := by decide +kernel
theorem dX12_force_46 : decode cX12_force 46 = .ok (.iload_n 1, 1) := by decide +kernel
theorem dX12_force_47 : decode cX12_force 47 = .ok (.iaload, 1) := by decide +kernel
theorem dX12_force_48 : decode cX12_force 48 = .ok (.iastore, 1) := by decide +kernel
theorem dX12_force_49 : decode cX12_force 49 = .ok (.iinc 1 1, 3) := by decide +kernel
theorem dX12_force_52 : decode cX12_force 52 = .ok (.goto (-26), 3) := by decide +kernel
theorem dX12_force_55 : decode cX12_force 55 = .ok (.aload_n 0, 1) := by decide +kernel
theorem dX12_force_56 : decode cX12_force 56 = .ok (.getfield 38, 3) := by decide +kernel
theorem dX12_force_59 : decode cX12_force 59 = .ok (.iconst 1, 1) := by decide +kernel
theorem dX12_force_60 : decode cX12_force 60 = .ok (.iaload, 1) := by decide +kernel
theorem dX12_force_61 : decode cX12_force 61 = .ok (.ireturn, 1) := by decide +kernel
set_option maxRecDepth 20000 in
theorem ggX12_isAsked_X12_in : GoodIn wsX12_isAsked wsX12_in := goodIn_r _ [7] (by decide +kernel) (by decide +kernel)
set_option maxRecDepth 20000 in
theorem gX12_isAsked_X12_in : GoodIn wsX12_isAsked (va_wsS RX12 93 yX12_in wsX12_in) := goodIn_app (goodIn_of _ (by decide +kernel)) ggX12_isAsked_X12_in
theorem dX12_isAsked_0 : decode cX12_isAsked 0 = .ok (.iload_n 0, 1) := by decide +kernel
theorem dX12_isAsked_1 : decode cX12_isAsked 1 = .ok (.i2l, 1) := by decide +kernel
theorem dX12_isAsked_2 : decode cX12_isAsked 2 = .ok (.lconst 0, 1) := by decide +kernel
theorem dX12_isAsked_3 : decode cX12_isAsked 3 = .ok (.ldc2_w 198, 3) := by decide +kernel
theorem dX12_isAsked_6 : decode cX12_isAsked 6 = .ok (.invokestatic 93, 3) := by decide +kernel
theorem dX12_isAsked_9 : decode cX12_isAsked 9 = .ok (.ifCond .eq 31, 3) := by decide +kernel
theorem dX12_isAsked_12 : decode cX12_isAsked 12 = .ok (.iload_n 1, 1) := by decide +kernel
theorem dX12_isAsked_13 : decode cX12_isAsked 13 = .ok (.i2l, 1) := by decide +kernel
theorem dX12_isAsked_14 : decode cX12_isAsked 14 = .ok (.lconst 0, 1) := by decide +kernel
theorem dX12_isAsked_15 : decode cX12_isAsked 15 = .ok (.ldc2_w 200, 3) := by decide +kernel
theorem dX12_isAsked_18 : decode cX12_isAsked 18 = .ok (.invokestatic 93, 3) := by decide +kernel
theorem dX12_isAsked_21 : decode cX12_isAsked 21 = .ok (.ifCond .eq 19, 3) := by decide +kernel
theorem dX12_isAsked_24 : decode cX12_isAsked 24 = .ok (.iload_n 2, 1) := by decide +kernel
theorem dX12_isAsked_25 : decode cX12_isAsked 25 = .ok (.i2l, 1) := by decide +kernel
theorem dX12_isAsked_26 : decode cX12_isAsked 26 = .ok (.lconst 0, 1) := by decide +kernel
theorem dX12_isAsked_27 : decode cX12_isAsked 27 = .ok (.ldc2_w 211, 3) := by decide +kernel
theorem dX12_isAsked_30 : decode cX12_isAsked 30 = .ok (.invokestatic 93, 3) := by decide +kernel
theorem dX12_isAsked_33 : decode cX12_isAsked 33 = .ok (.ifCond .eq 7, 3) := by decide +kernel
theorem dX12_isAsked_36 : decode cX12_isAsked 36 = .ok (.iconst 1, 1) := by decide +kernel
theorem dX12_isAsked_37 : decode cX12_isAsked 37 = .ok (.goto 4, 3) := by decide +kernel
theorem dX12_isAsked_40 : decode cX12_isAsked 40 = .ok (.iconst 0, 1) := by decide +kernel
theorem dX12_isAsked_41 : decode cX12_isAsked 41 = .ok (.ireturn, 1) := by decide +kernel
set_option maxRecDepth 20000 in
theorem ggX12_whyOf_X12_in : GoodIn wsX12_whyOf wsX12_in := goodIn_r _ [6] (by decide +kernel) (by decide +kernel)
set_option maxRecDepth 20000 in
theorem gX12_whyOf_X12_in : GoodIn wsX12_whyOf (va_wsS RX12 93 yX12_in wsX12_in) := goodIn_app (goodIn_of _ (by decide +kernel)) ggX12_whyOf_X12_in
theorem dX12_whyOf_0 : decode cX12_whyOf 0 = .ok (.bipush (-4), 2) := by decide +kernel
theorem dX12_whyOf_2 : decode cX12_whyOf 2 = .ok (.istore 4, 2) := by decide +kernel
theorem dX12_whyOf_4 : decode cX12_whyOf 4 = .ok (.iconst 0, 1) := by decide +kernel
theorem dX12_whyOf_5 : decode cX12_whyOf 5 = .ok (.istore 5, 2) := by decide +kernel
theorem dX12_whyOf_7 : decode cX12_whyOf 7 = .ok (.iload 5, 2) := by decide +kernel
theorem dX12_whyOf_9 : decode cX12_whyOf 9 = .ok (.aload_n 0, 1) := by decide +kernel
theorem dX12_whyOf_10 : decode cX12_whyOf 10 = .ok (.getfield 38, 3) := by decide +kernel
theorem dX12_whyOf_13 : decode cX12_whyOf 13 = .ok (.iconst 1, 1) := by decide +kernel
theorem dX12_whyOf_14 : decode cX12_whyOf 14 = .ok (.iaload, 1) := by decide +kernel
theorem dX12_whyOf_15 : decode cX12_whyOf 15 = .ok (.if_icmp .ge 118, 3) := by decide +kernel
theorem dX12_whyOf_18 : decode cX12_whyOf 18 = .ok (.sipush 300, 3) := by decide +kernel
theorem dX12_whyOf_21 : decode cX12_whyOf 21 = .ok (.iconst 5, 1) := by decide +kernel
theorem dX12_whyOf_22 : decode cX12_whyOf 22 = .ok (.iload 5, 2) := by decide +kernel
theorem dX12_whyOf_24 : decode cX12_whyOf 24 = .ok (.imul, 1) := by decide +kernel
theorem dX12_whyOf_25 : decode cX12_whyOf 25 = .ok (.iadd, 1) := by decide +kernel
theorem dX12_whyOf_26 : decode cX12_whyOf 26 = .ok (.istore 6, 2) := by decide +kernel
theorem dX12_whyOf_28 : decode cX12_whyOf 28 = .ok (.aload_n 0, 1) := by decide +kernel
theorem dX12_whyOf_29 : decode cX12_whyOf 29 = .ok (.getfield 41, 3) := by decide +kernel
theorem dX12_whyOf_32 : decode cX12_whyOf 32 = .ok (.iload 6, 2) := by decide +kernel
theorem dX12_whyOf_34 : decode cX12_whyOf 34 = .ok (.iaload, 1) := by decide +kernel
