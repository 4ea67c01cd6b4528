theorem dX5_readItem_72 : decode cX5_readItem 72 = .ok (.aload_n 0, 1) := by decide +kernel
theorem dX5_readItem_73 : decode cX5_readItem 73 = .ok (.invokevirtual 38, 3) := by decide +kernel
theorem dX5_readItem_76 : decode cX5_readItem 76 = .ok (.ifCond .eq 7, 3) := by decide +kernel
theorem dX5_readItem_79 : decode cX5_readItem 79 = .ok (.iload_n 2, 1) := by decide +kernel
theorem dX5_readItem_80 : decode cX5_readItem 80 = .ok (.goto 4, 3) := by decide +kernel
theorem dX5_readItem_83 : decode cX5_readItem 83 = .ok (.iconst (-1), 1) := by decide +kernel
theorem dX5_readItem_84 : decode cX5_readItem 84 = .ok (.ireturn, 1) := by decide +kernel
set_option maxRecDepth 20000 in
theorem ggX5_readNumber_X5_byteAt : GoodIn wsX5_readNumber wsX5_byteAt := goodIn_r _ [6, 7, 8, 9, 10, 11, 12] (by decide +kernel) (by decide +kernel)
set_option maxRecDepth 20000 in
theorem gX5_readNumber_X5_byteAt : GoodIn wsX5_readNumber (wsV RX5 31 RX5 yX5_byteAt wsX5_byteAt) := goodIn_app (goodIn_of _ (by decide +kernel)) ggX5_readNumber_X5_byteAt
theorem dX5_readNumber_0 : decode cX5_readNumber 0 = .ok (.iconst 0, 1) := by decide +kernel
theorem dX5_readNumber_1 : decode cX5_readNumber 1 = .ok (.istore_n 3, 1) := by decide +kernel
theorem dX5_readNumber_2 : decode cX5_readNumber 2 = .ok (.iconst 0, 1) := by decide +kernel
theorem dX5_readNumber_3 : decode cX5_readNumber 3 = .ok (.istore 4, 2) := by decide +kernel
theorem dX5_readNumber_5 : decode cX5_readNumber 5 = .ok (.iconst 0, 1) := by decide +kernel
theorem dX5_readNumber_6 : decode cX5_readNumber 6 = .ok (.istore 5, 2) := by decide +kernel
theorem dX5_readNumber_8 : decode cX5_readNumber 8 = .ok (.iload 5, 2) := by decide +kernel
theorem dX5_readNumber_10 : decode cX5_readNumber 10 = .ok (.iconst 4, 1) := by decide +kernel
theorem dX5_readNumber_11 : decode cX5_readNumber 11 = .ok (.if_icmp .ge 50, 3) := by decide +kernel
theorem dX5_readNumber_14 : decode cX5_readNumber 14 = .ok (.aload_n 0, 1) := by decide +kernel
theorem dX5_readNumber_15 : decode cX5_readNumber 15 = .ok (.iload_n 1, 1) := by decide +kernel
theorem dX5_readNumber_16 : decode cX5_readNumber 16 = .ok (.iload 5, 2) := by decide +kernel
theorem dX5_readNumber_18 : decode cX5_readNumber 18 = .ok (.iadd, 1) := by decide +kernel
theorem dX5_readNumber_19 : decode cX5_readNumber 19 = .ok (.invokevirtual 31, 3) := by decide +kernel
theorem dX5_readNumber_22 : decode cX5_readNumber 22 = .ok (.istore 6, 2) := by decide +kernel
theorem dX5_readNumber_24 : decode cX5_readNumber 24 = .ok (.iload 6, 2) := by decide +kernel
theorem dX5_readNumber_26 : decode cX5_readNumber 26 = .ok (.bipush 48, 2) := by decide +kernel
theorem dX5_readNumber_28 : decode cX5_readNumber 28 = .ok (.if_icmp .lt 33, 3) := by decide +kernel
theorem dX5_readNumber_31 : decode cX5_readNumber 31 = .ok (.iload 6, 2) := by decide +kernel
theorem dX5_readNumber_33 : decode cX5_readNumber 33 = .ok (.bipush 57, 2) := by decide +kernel
theorem dX5_readNumber_35 : decode cX5_readNumber 35 = .ok (.if_icmp .le 6, 3) := by decide +kernel
theorem dX5_readNumber_38 : decode cX5_readNumber 38 = .ok (.goto 23, 3) := by decide +kernel
theorem dX5_readNumber_41 : decode cX5_readNumber 41 = .ok (.iload_n 3, 1) := by decide +kernel
theorem dX5_readNumber_42 : decode cX5_readNumber 42 = .ok (.bipush 10, 2) := by decide +kernel
theorem dX5_readNumber_44 : decode cX5_readNumber 44 = .ok (.imul, 1) := by decide +kernel
theorem dX5_readNumber_45 : decode cX5_readNumber 45 = .ok (.iload 6, 2) := by decide +kernel
theorem dX5_readNumber_47 : decode cX5_readNumber 47 = .ok (.iadd, 1) := by decide +kernel
theorem dX5_readNumber_48 : decode cX5_readNumber 48 = .ok (.bipush 48, 2) := by decide +kernel
theorem dX5_readNumber_50 : decode cX5_readNumber 50 = .ok (.isub, 1) := by decide +kernel
theorem dX5_readNumber_51 : decode cX5_readNumber 51 = .ok (.istore_n 3, 1) := by decide +kernel
theorem dX5_readNumber_52 : decode cX5_readNumber 52 = .ok (.iinc 4 1, 3) := by decide +kernel
theorem dX5_readNumber_55 : decode cX5_readNumber 55 = .ok (.iinc 5 1, 3) := by decide +kernel
theorem dX5_readNumber_58 : decode cX5_readNumber 58 = .ok (.goto (-50), 3) := by decide +kernel
theorem dX5_readNumber_61 : decode cX5_readNumber 61 = .ok (.aload_n 0, 1) := by decide +kernel
theorem dX5_readNumber_62 : decode cX5_readNumber 62 = .ok (.getfield 15, 3) := by decide +kernel
theorem dX5_readNumber_65 : decode cX5_readNumber 65 = .ok (.iload_n 2, 1) := by decide +kernel
theorem dX5_readNumber_66 : decode cX5_readNumber 66 = .ok (.iload_n 3, 1) := by decide +kernel
theorem dX5_readNumber_67 : decode cX5_readNumber 67 = .ok (.iastore, 1) := by decide +kernel
theorem dX5_readNumber_68 : decode cX5_readNumber 68 = .ok (.iload 4, 2) := by decide +kernel
theorem dX5_readNumber_70 : decode cX5_readNumber 70 = .ok (.ifCond .ne 7, 3) := by decide +kernel
theorem dX5_readNumber_73 : decode cX5_readNumber 73 = .ok (.iconst (-1), 1) := by decide +kernel
theorem dX5_readNumber_74 : decode cX5_readNumber 74 = .ok (.goto 7, 3) := by decide +kernel
theorem dX5_readNumber_77 : decode cX5_readNumber 77 = .ok (.iload_n 1, 1) := by decide +kernel
theorem dX5_readNumber_78 : decode cX5_readNumber 78 = .ok (.iload 4, 2) := by decide +kernel
theorem dX5_readNumber_80 : decode cX5_readNumber 80 = .ok (.iadd, 1) := by decide +kernel
theorem dX5_readNumber_81 : decode cX5_readNumber 81 = .ok (.ireturn, 1) := by decide +kernel
theorem dX5_byteAt_0 : decode cX5_byteAt 0 = .ok (.iload_n 1, 1) := by decide +kernel
theorem dX5_byteAt_1 : decode cX5_byteAt 1 = .ok (.ifCond .lt 20, 3) := by decide +kernel
theorem dX5_byteAt_4 : decode cX5_byteAt 4 = .ok (.iload_n 1, 1) := by decide +kernel
theorem dX5_byteAt_5 : decode cX5_byteAt 5 = .ok (.aload_n 0, 1) := by decide +kernel
theorem dX5_byteAt_6 : decode cX5_byteAt 6 = .ok (.getfield 22, 3) := by decide +kernel
theorem dX5_byteAt_9 : decode cX5_byteAt 9 = .ok (.if_icmp .ge 12, 3) := by decide +kernel
theorem dX5_byteAt_12 : decode cX5_byteAt 12 = .ok (.aload_n 0, 1) := by decide +kernel
theorem dX5_byteAt_13 : decode cX5_byteAt 13 = .ok (.getfield 11, 3) := by decide +kernel
theorem dX5_byteAt_16 : decode cX5_byteAt 16 = .ok (.iload_n 1, 1) := by decide +kernel
theorem dX5_byteAt_17 : decode cX5_byteAt 17 = .ok (.iaload, 1) := by decide +kernel
theorem dX5_byteAt_18 : decode cX5_byteAt 18 = .ok (.goto 4, 3) := by decide +kernel
theorem dX5_byteAt_21 : decode cX5_byteAt 21 = .ok (.iconst (-1), 1) := by decide +kernel
theorem dX5_byteAt_22 : decode cX5_byteAt 22 = .ok (.ireturn, 1) := by decide +kernel
set_option maxRecDepth 20000 in
theorem ggX5_isSound_X11_isUnitNumber : GoodIn wsX5_isSound wsX11_isUnitNumber := goodIn_r _ [5, 6, 7, 4, 8] (by decide +kernel) (by decide +kernel)
set_option maxRecDepth 20000 in
theorem gX5_isSound_X11_isUnitNumber_n42 : GoodIn wsX5_isSound (wsX11_isUnitNumber) := ggX5_isSound_X11_isUnitNumber
set_option maxRecDepth 20000 in
theorem ggX5_isSound_X11_isDistrict : GoodIn wsX5_isSound wsX11_isDistrict := goodIn_r _ [10, 6, 7, 4, 8] (by decide +kernel) (by decide +kernel)
set_option maxRecDepth 20000 in
theorem gX5_isSound_X11_isDistrict_n46 : GoodIn wsX5_isSound (wsX11_isDistrict) := ggX5_isSound_X11_isDistrict
theorem dX5_isSound_0 : decode cX5_isSound 0 = .ok (.aload_n 0, 1) := by decide +kernel
theorem dX5_isSound_1 : decode cX5_isSound 1 = .ok (.getfield 18, 3) := by decide +kernel
theorem dX5_isSound_4 : decode cX5_isSound 4 = .ok (.lookupswitch 173 #[(97, 44), (98, 44), (104, 130), (110, 89)], 44) := by decide +kernel
theorem dX5_isSound_48 : decode cX5_isSound 48 = .ok (.aload_n 0, 1) := by decide +kernel
theorem dX5_isSound_49 : decode cX5_isSound 49 = .ok (.getfield 15, 3) := by decide +kernel
theorem dX5_isSound_52 : decode cX5_isSound 52 = .ok (.iconst 0, 1) := by decide +kernel
theorem dX5_isSound_53 : decode cX5_isSound 53 = .ok (.iaload, 1) := by decide +kernel
theorem dX5_isSound_54 : decode cX5_isSound 54 = .ok (.invokestatic 42, 3) := by decide +kernel
theorem dX5_isSound_57 : decode cX5_isSound 57 = .ok (.ifCond .eq 34, 3) := by decide +kernel
theorem dX5_isSound_60 : decode cX5_isSound 60 = .ok (.aload_n 0, 1) := by decide +kernel
theorem dX5_isSound_61 : decode cX5_isSound 61 = .ok (.getfield 15, 3) := by decide +kernel
theorem dX5_isSound_64 : decode cX5_isSound 64 = .ok (.iconst 1, 1) := by decide +kernel
theorem dX5_isSound_65 : decode cX5_isSound 65 = .ok (.iaload, 1) := by decide +kernel
theorem dX5_isSound_66 : decode cX5_isSound 66 = .ok (.invokestatic 46, 3) := by decide +kernel
theorem dX5_isSound_69 : decode cX5_isSound 69 = .ok (.ifCond .eq 22, 3) := by decide +kernel
theorem dX5_isSound_72 : decode cX5_isSound 72 = .ok (.aload_n 0, 1) := by decide +kernel
theorem dX5_isSound_73 : decode cX5_isSound 73 = .ok (.getfield 15, 3) := by decide +kernel
theorem dX5_isSound_76 : decode cX5_isSound 76 = .ok (.iconst 2, 1) := by decide +kernel
theorem dX5_isSound_77 : decode cX5_isSound 77 = .ok (.iaload, 1) := by decide +kernel
theorem dX5_isSound_78 : decode cX5_isSound 78 = .ok (.aload_n 0, 1) := by decide +kernel
theorem dX5_isSound_79 : decode cX5_isSound 79 = .ok (.getfield 15, 3) := by decide +kernel
theorem dX5_isSound_82 : decode cX5_isSound 82 = .ok (.iconst 3, 1) := by decide +kernel
theorem dX5_isSound_83 : decode cX5_isSound 83 = .ok (.iaload, 1) := by decide +kernel
theorem dX5_isSound_84 : decode cX5_isSound 84 = .ok (.if_icmp .gt 7, 3) := by decide +kernel
theorem dX5_isSound_87 : decode cX5_isSound 87 = .ok (.iconst 1, 1) := by decide +kernel
theorem dX5_isSound_88 : decode cX5_isSound 88 = .ok (.goto 4, 3) := by decide +kernel
theorem dX5_isSound_91 : decode cX5_isSound 91 = .ok (.iconst 0, 1) := by decide +kernel
theorem dX5_isSound_92 : decode cX5_isSound 92 = .ok (.ireturn, 1) := by decide +kernel
theorem dX5_isSound_93 : decode cX5_isSound 93 = .ok (.aload_n 0, 1) := by decide +kernel
theorem dX5_isSound_94 : decode cX5_isSound 94 = .ok (.getfield 15, 3) := by decide +kernel
theorem dX5_isSound_97 : decode cX5_isSound 97 = .ok (.iconst 0, 1) := by decide +kernel
theorem dX5_isSound_98 : decode cX5_isSound 98 = .ok (.iaload, 1) := by decide +kernel
theorem dX5_isSound_99 : decode cX5_isSound 99 = .ok (.bipush 10, 2) := by decide +kernel
theorem dX5_isSound_101 : decode cX5_isSound 101 = .ok (.if_icmp .ge 31, 3) := by decide +kernel
theorem dX5_isSound_104 : decode cX5_isSound 104 = .ok (.aload_n 0, 1) := by decide +kernel
theorem dX5_isSound_105 : decode cX5_isSound 105 = .ok (.getfield 15, 3) := by decide +kernel
theorem dX5_isSound_108 : decode cX5_isSound 108 = .ok (.iconst 1, 1) := by decide +kernel
theorem dX5_isSound_109 : decode cX5_isSound 109 = .ok (.iaload, 1) := by decide +kernel
theorem dX5_isSound_110 : decode cX5_isSound 110 = .ok (.invokestatic 42, 3) := by decide +kernel
theorem dX5_isSound_113 : decode cX5_isSound 113 = .ok (.ifCond .eq 19, 3) := by decide +kernel
theorem dX5_isSound_116 : decode cX5_isSound 116 = .ok (.aload_n 0, 1) := by decide +kernel
theorem dX5_isSound_117 : decode cX5_isSound 117 = .ok (.getfield 15, 3) := by decide +kernel
theorem dX5_isSound_120 : decode cX5_isSound 120 = .ok (.iconst 2, 1) := by decide +kernel
theorem dX5_isSound_121 : decode cX5_isSound 121 = .ok (.iaload, 1) := by decide +kernel
theorem dX5_isSound_122 : decode cX5_isSound 122 = .ok (.invokestatic 46, 3) := by decide +kernel
theorem dX5_isSound_125 : decode cX5_isSound 125 = .ok (.ifCond .eq 7, 3) := by decide +kernel
theorem dX5_isSound_128 : decode cX5_isSound 128 = .ok (.iconst 1, 1) := by decide +kernel
theorem dX5_isSound_129 : decode cX5_isSound 129 = .ok (.goto 4, 3) := by decide +kernel
theorem dX5_isSound_132 : decode cX5_isSound 132 = .ok (.iconst 0, 1) := by decide +kernel
theorem dX5_isSound_133 : decode cX5_isSound 133 = .ok (.ireturn, 1) := by decide +kernel
theorem dX5_isSound_134 : decode cX5_isSound 134 = .ok (.aload_n 0, 1) := by decide +kernel
theorem dX5_isSound_135 : decode cX5_isSound 135 = .ok (.getfield 15, 3) := by decide +kernel
theorem dX5_isSound_138 : decode cX5_isSound 138 = .ok (.iconst 0, 1) := by decide +kernel
theorem dX5_isSound_139 : decode cX5_isSound 139 = .ok (.iaload, 1) := by decide +kernel
theorem dX5_isSound_140 : decode cX5_isSound 140 = .ok (.invokestatic 46, 3) := by decide +kernel
theorem dX5_isSound_143 : decode cX5_isSound 143 = .ok (.ifCond .eq 32, 3) := by decide +kernel
theorem dX5_isSound_146 : decode cX5_isSound 146 = .ok (.aload_n 0, 1) := by decide +kernel
theorem dX5_isSound_147 : decode cX5_isSound 147 = .ok (.getfield 15, 3) := by decide +kernel
theorem dX5_isSound_150 : decode cX5_isSound 150 = .ok (.iconst 1, 1) := by decide +kernel
theorem dX5_isSound_151 : decode cX5_isSound 151 = .ok (.iaload, 1) := by decide +kernel
theorem dX5_isSound_152 : decode cX5_isSound 152 = .ok (.iconst 1, 1) := by decide +kernel
theorem dX5_isSound_153 : decode cX5_isSound 153 = .ok (.if_icmp .gt 22, 3) := by decide +kernel
theorem dX5_isSound_156 : decode cX5_isSound 156 = .ok (.aload_n 0, 1) := by decide +kernel
theorem dX5_isSound_157 : decode cX5_isSound 157 = .ok (.getfield 15, 3) := by decide +kernel
theorem dX5_isSound_160 : decode cX5_isSound 160 = .ok (.iconst 2, 1) := by decide +kernel
theorem dX5_isSound_161 : decode cX5_isSound 161 = .ok (.iaload, 1) := by decide +kernel
theorem dX5_isSound_162 : decode cX5_isSound 162 = .ok (.aload_n 0, 1) := by decide +kernel
theorem dX5_isSound_163 : decode cX5_isSound 163 = .ok (.getfield 15, 3) := by decide +kernel
theorem dX5_isSound_166 : decode cX5_isSound 166 = .ok (.iconst 3, 1) := by decide +kernel
theorem dX5_isSound_167 : decode cX5_isSound 167 = .ok (.iaload, 1) := by decide +kernel
theorem dX5_isSound_168 : decode cX5_isSound 168 = .ok (.if_icmp .gt 7, 3) := by decide +kernel
theorem dX5_isSound_171 : decode cX5_isSound 171 = .ok (.iconst 1, 1) := by decide +kernel
theorem dX5_isSound_172 : decode cX5_isSound 172 = .ok (.goto 4, 3) := by decide +kernel
theorem dX5_isSound_175 : decode cX5_isSound 175 = .ok (.iconst 0, 1) := by decide +kernel
theorem dX5_isSound_176 : decode cX5_isSound 176 = .ok (.ireturn, 1) := by decide +kernel
theorem dX5_isSound_177 : decode cX5_isSound 177 = .ok (.iconst 0, 1) := by decide +kernel
theorem dX5_isSound_178 : decode cX5_isSound 178 = .ok (.ireturn, 1) := by decide +kernel
theorem dX6_init_0 : decode cX6_init 0 = .ok (.aload_n 0, 1) := by decide +kernel
theorem dX6_init_1 : decode cX6_init 1 = .ok (.invokespecial 3, 3) := by decide +kernel
theorem dX6_init_4 : decode cX6_init 4 = .ok (.aload_n 0, 1) := by decide +kernel
theorem dX6_init_5 : decode cX6_init 5 = .ok (.sipush 256, 3) := by decide +kernel
theorem dX6_init_8 : decode cX6_init 8 = .ok (.newarray .int, 2) := by decide +kernel
theorem dX6_init_10 : decode cX6_init 10 = .ok (.putfield 9, 3) := by decide +kernel
theorem dX6_init_13 : decode cX6_init 13 = .ok (.aload_n 0, 1) := by decide +kernel
theorem dX6_init_14 : decode cX6_init 14 = .ok (.sipush 256, 3) := by decide +kernel
theorem dX6_init_17 : decode cX6_init 17 = .ok (.newarray .int, 2) := by decide +kernel
theorem dX6_init_19 : decode cX6_init 19 = .ok (.putfield 15, 3) := by decide +kernel
theorem dX6_init_22 : decode cX6_init 22 = .ok (.aload_n 0, 1) := by decide +kernel
theorem dX6_init_23 : decode cX6_init 23 = .ok (.sipush 256, 3) := by decide +kernel
theorem dX6_init_26 : decode cX6_init 26 = .ok (.newarray .int, 2) := by decide +kernel
theorem dX6_init_28 : decode cX6_init 28 = .ok (.putfield 18, 3) := by decide +kernel
theorem dX6_init_31 : decode cX6_init 31 = .ok (.aload_n 0, 1) := by decide +kernel
theorem dX6_init_32 : decode cX6_init 32 = .ok (.iconst 0, 1) := by decide +kernel
theorem dX6_init_33 : decode cX6_init 33 = .ok (.putfield 21, 3) := by decide +kernel
theorem dX6_init_36 : decode cX6_init 36 = .ok (.return_, 1) := by decide +kernel
set_option maxRecDepth 20000 in
theorem ggX6_put_X6_grainOf : GoodIn wsX6_put wsX6_grainOf := goodIn_r _ [8] (by decide +kernel) (by decide +kernel)
set_option maxRecDepth 20000 in
theorem gX6_put_X6_grainOf : GoodIn wsX6_put (va_wsS RX6 25 yX6_grainOf wsX6_grainOf) := goodIn_app (goodIn_of _ (by decide +kernel)) ggX6_put_X6_grainOf
theorem dX6_put_0 : decode cX6_put 0 = .ok (.iload_n 1, 1) := by decide +kernel
theorem dX6_put_1 : decode cX6_put 1 = .ok (.bipush 16, 2) := by decide +kernel
theorem dX6_put_3 : decode cX6_put 3 = .ok (.imul, 1) := by decide +kernel
theorem dX6_put_4 : decode cX6_put 4 = .ok (.iload_n 2, 1) := by decide +kernel
theorem dX6_put_5 : decode cX6_put 5 = .ok (.iadd, 1) := by decide +kernel
theorem dX6_put_6 : decode cX6_put 6 = .ok (.istore 6, 2) := by decide +kernel
theorem dX6_put_8 : decode cX6_put 8 = .ok (.aload_n 0, 1) := by decide +kernel
theorem dX6_put_9 : decode cX6_put 9 = .ok (.getfield 15, 3) := by decide +kernel
theorem dX6_put_12 : decode cX6_put 12 = .ok (.iload 6, 2) := by decide +kernel
theorem dX6_put_14 : decode cX6_put 14 = .ok (.iaload, 1) := by decide +kernel
theorem dX6_put_15 : decode cX6_put 15 = .ok (.ifCond .ne 13, 3) := by decide +kernel
theorem dX6_put_18 : decode cX6_put 18 = .ok (.aload_n 0, 1) := by decide +kernel
theorem dX6_put_19 : decode cX6_put 19 = .ok (.dup, 1) := by decide +kernel
theorem dX6_put_20 : decode cX6_put 20 = .ok (.getfield 21, 3) := by decide +kernel
theorem dX6_put_23 : decode cX6_put 23 = .ok (.iconst 1, 1) := by decide +kernel
theorem dX6_put_24 : decode cX6_put 24 = .ok (.iadd, 1) := by decide +kernel
theorem dX6_put_25 : decode cX6_put 25 = .ok (.putfield 21, 3) := by decide +kernel
theorem dX6_put_28 : decode cX6_put 28 = .ok (.aload_n 0, 1) := by decide +kernel
theorem dX6_put_29 : decode cX6_put 29 = .ok (.getfield 9, 3) := by decide +kernel
theorem dX6_put_32 : decode cX6_put 32 = .ok (.iload 6, 2) := by decide +kernel
theorem dX6_put_34 : decode cX6_put 34 = .ok (.iload_n 3, 1) := by decide +kernel
theorem dX6_put_35 : decode cX6_put 35 = .ok (.iastore, 1) := by decide +kernel
theorem dX6_put_36 : decode cX6_put 36 = .ok (.aload_n 0, 1) := by decide +kernel
theorem dX6_put_37 : decode cX6_put 37 = .ok (.getfield 15, 3) := by decide +kernel
theorem dX6_put_40 : decode cX6_put 40 = .ok (.iload 6, 2) := by decide +kernel
theorem dX6_put_42 : decode cX6_put 42 = .ok (.iload 4, 2) := by decide +kernel
theorem dX6_put_44 : decode cX6_put 44 = .ok (.iastore, 1) := by decide +kernel
theorem dX6_put_45 : decode cX6_put 45 = .ok (.aload_n 0, 1) := by decide +kernel
theorem dX6_put_46 : decode cX6_put 46 = .ok (.getfield 18, 3) := by decide +kernel
theorem dX6_put_49 : decode cX6_put 49 = .ok (.iload 6, 2) := by decide +kernel
theorem dX6_put_51 : decode cX6_put 51 = .ok (.iload 5, 2) := by decide +kernel
theorem dX6_put_53 : decode cX6_put 53 = .ok (.invokestatic 25, 3) := by decide +kernel
theorem dX6_put_56 : decode cX6_put 56 = .ok (.iastore, 1) := by decide +kernel
theorem dX6_put_57 : decode cX6_put 57 = .ok (.return_, 1) := by decide +kernel
theorem dX6_grainOf_0 : decode cX6_grainOf 0 = .ok (.iload_n 0, 1) := by decide +kernel
theorem dX6_grainOf_1 : decode cX6_grainOf 1 = .ok (.tableswitch 37 0 2 #[27, 31, 34], 27) := by decide +kernel
theorem dX6_grainOf_28 : decode cX6_grainOf 28 = .ok (.sipush 1000, 3) := by decide +kernel
theorem dX6_grainOf_31 : decode cX6_grainOf 31 = .ok (.ireturn, 1) := by decide +kernel
theorem dX6_grainOf_32 : decode cX6_grainOf 32 = .ok (.bipush 100, 2) := by decide +kernel
theorem dX6_grainOf_34 : decode cX6_grainOf 34 = .ok (.ireturn, 1) := by decide +kernel
theorem dX6_grainOf_35 : decode cX6_grainOf 35 = .ok (.bipush 10, 2) := by decide +kernel
theorem dX6_grainOf_37 : decode cX6_grainOf 37 = .ok (.ireturn, 1) := by decide +kernel
theorem dX6_grainOf_38 : decode cX6_grainOf 38 = .ok (.iconst 1, 1) := by decide +kernel
theorem dX6_grainOf_39 : decode cX6_grainOf 39 = .ok (.ireturn, 1) := by decide +kernel
theorem dX6_has_0 : decode cX6_has 0 = .ok (.aload_n 0, 1) := by decide +kernel
theorem dX6_has_1 : decode cX6_has 1 = .ok (.getfield 15, 3) := by decide +kernel
theorem dX6_has_4 : decode cX6_has 4 = .ok (.iload_n 1, 1) := by decide +kernel
theorem dX6_has_5 : decode cX6_has 5 = .ok (.bipush 16, 2) := by decide +kernel
theorem dX6_has_7 : decode cX6_has 7 = .ok (.imul, 1) := by decide +kernel
theorem dX6_has_8 : decode cX6_has 8 = .ok (.iload_n 2, 1) := by decide +kernel
theorem dX6_has_9 : decode cX6_has 9 = .ok (.iadd, 1) := by decide +kernel
theorem dX6_has_10 : decode cX6_has 10 = .ok (.iaload, 1) := by decide +kernel
theorem dX6_has_11 : decode cX6_has 11 = .ok (.ifCond .le 7, 3) := by decide +kernel
theorem dX6_has_14 : decode cX6_has 14 = .ok (.iconst 1, 1) := by decide +kernel
theorem dX6_has_15 : decode cX6_has 15 = .ok (.goto 4, 3) := by decide +kernel
theorem dX6_has_18 : decode cX6_has 18 = .ok (.iconst 0, 1) := by decide +kernel
theorem dX6_has_19 : decode cX6_has 19 = .ok (.ireturn, 1) := by decide +kernel
theorem dX6_turned_0 : decode cX6_turned 0 = .ok (.iload_n 1, 1) := by decide +kernel
theorem dX6_turned_1 : decode cX6_turned 1 = .ok (.bipush 16, 2) := by decide +kernel
theorem dX6_turned_3 : decode cX6_turned 3 = .ok (.imul, 1) := by decide +kernel
theorem dX6_turned_4 : decode cX6_turned 4 = .ok (.iload_n 2, 1) := by decide +kernel
theorem dX6_turned_5 : decode cX6_turned 5 = .ok (.iadd, 1) := by decide +kernel
theorem dX6_turned_6 : decode cX6_turned 6 = .ok (.istore 5, 2) := by decide +kernel
theorem dX6_turned_8 : decode cX6_turned 8 = .ok (.aload_n 0, 1) := by decide +kernel
theorem dX6_turned_9 : decode cX6_turned 9 = .ok (.getfield 15, 3) := by decide +kernel
theorem dX6_turned_12 : decode cX6_turned 12 = .ok (.iload 5, 2) := by decide +kernel
theorem dX6_turned_14 : decode cX6_turned 14 = .ok (.iaload, 1) := by decide +kernel
theorem dX6_turned_15 : decode cX6_turned 15 = .ok (.iconst 1, 1) := by decide +kernel
theorem dX6_turned_16 : decode cX6_turned 16 = .ok (.if_icmp .lt 14, 3) := by decide +kernel
theorem dX6_turned_19 : decode cX6_turned 19 = .ok (.aload_n 0, 1) := by decide +kernel
theorem dX6_turned_20 : decode cX6_turned 20 = .ok (.getfield 18, 3) := by decide +kernel
theorem dX6_turned_23 : decode cX6_turned 23 = .ok (.iload 5, 2) := by decide +kernel
theorem dX6_turned_25 : decode cX6_turned 25 = .ok (.iaload, 1) := by decide +kernel
theorem dX6_turned_26 : decode cX6_turned 26 = .ok (.iconst 1, 1) := by decide +kernel
theorem dX6_turned_27 : decode cX6_turned 27 = .ok (.if_icmp .ge 5, 3) := by decide +kernel
theorem dX6_turned_30 : decode cX6_turned 30 = .ok (.lconst 0, 1) := by decide +kernel
theorem dX6_turned_31 : decode cX6_turned 31 = .ok (.lreturn, 1) := by decide +kernel
theorem dX6_turned_32 : decode cX6_turned 32 = .ok (.lload_n 3, 1) := by decide +kernel
theorem dX6_turned_33 : decode cX6_turned 33 = .ok (.aload_n 0, 1) := by decide +kernel
theorem dX6_turned_34 : decode cX6_turned 34 = .ok (.getfield 9, 3) := by decide +kernel
theorem dX6_turned_37 : decode cX6_turned 37 = .ok (.iload 5, 2) := by decide +kernel
theorem dX6_turned_39 : decode cX6_turned 39 = .ok (.iaload, 1) := by decide +kernel
theorem dX6_turned_40 : decode cX6_turned 40 = .ok (.i2l, 1) := by decide +kernel
theorem dX6_turned_41 : decode cX6_turned 41 = .ok (.lmul, 1) := by decide +kernel
theorem dX6_turned_42 : decode cX6_turned 42 = .ok (.aload_n 0, 1) := by decide +kernel
theorem dX6_turned_43 : decode cX6_turned 43 = .ok (.getfield 15, 3) := by decide +kernel
theorem dX6_turned_46 : decode cX6_turned 46 = .ok (.iload 5, 2) := by decide +kernel
theorem dX6_turned_48 : decode cX6_turned 48 = .ok (.iaload, 1) := by decide +kernel
theorem dX6_turned_49 : decode cX6_turned 49 = .ok (.i2l, 1) := by decide +kernel
theorem dX6_turned_50 : decode cX6_turned 50 = .ok (.ldiv, 1) := by decide +kernel
theorem dX6_turned_51 : decode cX6_turned 51 = .ok (.lstore 6, 2) := by decide +kernel
theorem dX6_turned_53 : decode cX6_turned 53 = .ok (.lload 6, 2) := by decide +kernel
theorem dX6_turned_55 : decode cX6_turned 55 = .ok (.lload 6, 2) := by decide +kernel
theorem dX6_turned_57 : decode cX6_turned 57 = .ok (.aload_n 0, 1) := by decide +kernel
theorem dX6_turned_58 : decode cX6_turned 58 = .ok (.getfield 18, 3) := by decide +kernel
theorem dX6_turned_61 : decode cX6_turned 61 = .ok (.iload 5, 2) := by decide +kernel
theorem dX6_turned_63 : decode cX6_turned 63 = .ok (.iaload, 1) := by decide +kernel
theorem dX6_turned_64 : decode cX6_turned 64 = .ok (.i2l, 1) := by decide +kernel
theorem dX6_turned_65 : decode cX6_turned 65 = .ok (.lrem, 1) := by decide +kernel
theorem dX6_turned_66 : decode cX6_turned 66 = .ok (.lsub, 1) := by decide +kernel
theorem dX6_turned_67 : decode cX6_turned 67 = .ok (.lreturn, 1) := by decide +kernel
theorem dX7_init_0 : decode cX7_init 0 = .ok (.aload_n 0, 1) := by decide +kernel
theorem dX7_init_1 : decode cX7_init 1 = .ok (.invokespecial 5, 3) := by decide +kernel
theorem dX7_init_4 : decode cX7_init 4 = .ok (.aload_n 0, 1) := by decide +kernel
theorem dX7_init_5 : decode cX7_init 5 = .ok (.iconst 4, 1) := by decide +kernel
theorem dX7_init_6 : decode cX7_init 6 = .ok (.newarray .int, 2) := by decide +kernel
theorem dX7_init_8 : decode cX7_init 8 = .ok (.putfield 11, 3) := by decide +kernel
theorem dX7_init_11 : decode cX7_init 11 = .ok (.aload_n 0, 1) := by decide +kernel
theorem dX7_init_12 : decode cX7_init 12 = .ok (.lconst 0, 1) := by decide +kernel
theorem dX7_init_13 : decode cX7_init 13 = .ok (.putfield 15, 3) := by decide +kernel
theorem dX7_init_16 : decode cX7_init 16 = .ok (.aload_n 0, 1) := by decide +kernel
theorem dX7_init_17 : decode cX7_init 17 = .ok (.bipush 48, 2) := by decide +kernel
theorem dX7_init_19 : decode cX7_init 19 = .ok (.newarray .long, 2) := by decide +kernel
theorem dX7_init_21 : decode cX7_init 21 = .ok (.putfield 19, 3) := by decide +kernel
theorem dX7_init_24 : decode cX7_init 24 = .ok (.aload_n 0, 1) := by decide +kernel
theorem dX7_init_25 : decode cX7_init 25 = .ok (.iconst 4, 1) := by decide +kernel
theorem dX7_init_26 : decode cX7_init 26 = .ok (.newarray .int, 2) := by decide +kernel
theorem dX7_init_28 : decode cX7_init 28 = .ok (.putfield 23, 3) := by decide +kernel
theorem dX7_init_31 : decode cX7_init 31 = .ok (.return_, 1) := by decide +kernel
set_option maxRecDepth 20000 in
theorem ggX7_price_J7_fill_d0a16 : GoodIn wsX7_price wsJ7_fill_d0a16 := goodIn_r _ [8] (by decide +kernel) (by decide +kernel)
set_option maxRecDepth 20000 in
theorem gX7_price_J7_fill_d0a16 : GoodIn wsX7_price (va_wsS RX7 26 yJ7_fill_d0a16 wsJ7_fill_d0a16) := goodIn_app (goodIn_of _ (by decide +kernel)) ggX7_price_J7_fill_d0a16
set_option maxRecDepth 20000 in
theorem ggX7_price_X7_forfeitWeeks : GoodIn wsX7_price wsX7_forfeitWeeks := goodIn_r _ [12, 13, 14, 15, 16, 17, 18, 19, 20, 21, 22, 23, 24, 25, 26, 27, 28, 29, 30, 31, 32, 33, 34, 35, 36, 37, 38, 39, 40, 41, 42, 43, 44, 45, 46, 47, 48, 49, 50, 51, 52, 53, 54, 55, 56, 57, 75, 76, 77, 78, 79, 80, 81, 82, 83, 84, 85, 86, 87, 88, 89, 90, 91, 92, 93, 94, 95] (by decide +kernel) (by decide +kernel)
set_option maxRecDepth 20000 in
theorem gX7_price_X7_forfeitWeeks : GoodIn wsX7_price (va_wsS RX7 41 yX7_forfeitWeeks wsX7_forfeitWeeks) := goodIn_app (goodIn_of _ (by decide +kernel)) ggX7_price_X7_forfeitWeeks
set_option maxRecDepth 20000 in
theorem ggX7_price_X7_lossOf : GoodIn wsX7_price wsX7_lossOf := goodIn_r _ [60, 13, 61, 62, 22, 63, 64, 65, 66, 18, 67, 68, 69, 24, 70, 26, 27, 28, 29, 30, 31, 32, 33, 34, 75, 76, 77, 78, 79, 80, 81, 82, 83, 84, 85, 86, 87, 96, 97, 98, 99] (by decide +kernel) (by decide +kernel)
set_option maxRecDepth 20000 in
theorem gX7_price_X7_lossOf : GoodIn wsX7_price (va_wsS RX7 48 yX7_lossOf wsX7_lossOf) := goodIn_app (goodIn_of _ (by decide +kernel)) ggX7_price_X7_lossOf
theorem dX7_price_0 : decode cX7_price 0 = .ok (.aload_n 0, 1) := by decide +kernel
theorem dX7_price_1 : decode cX7_price 1 = .ok (.getfield 19, 3) := by decide +kernel
theorem dX7_price_4 : decode cX7_price 4 = .ok (.lconst 0, 1) := by decide +kernel
theorem dX7_price_5 : decode cX7_price 5 = .ok (.invokestatic 26, 3) := by decide +kernel
theorem dX7_price_8 : decode cX7_price 8 = .ok (.iconst 0, 1) := by decide +kernel
theorem dX7_price_9 : decode cX7_price 9 = .ok (.istore 6, 2) := by decide +kernel
theorem dX7_price_11 : decode cX7_price 11 = .ok (.iload 6, 2) := by decide +kernel
theorem dX7_price_13 : decode cX7_price 13 = .ok (.aload_n 1, 1) := by decide +kernel
theorem dX7_price_14 : decode cX7_price 14 = .ok (.getfield 32, 3) := by decide +kernel
theorem dX7_price_17 : decode cX7_price 17 = .ok (.if_icmp .ge 90, 3) := by decide +kernel
theorem dX7_price_20 : decode cX7_price 20 = .ok (.aload_n 1, 1) := by decide +kernel
theorem dX7_price_21 : decode cX7_price 21 = .ok (.getfield 38, 3) := by decide +kernel
theorem dX7_price_24 : decode cX7_price 24 = .ok (.iload 6, 2) := by decide +kernel
theorem dX7_price_26 : decode cX7_price 26 = .ok (.iaload, 1) := by decide +kernel
theorem dX7_price_27 : decode cX7_price 27 = .ok (.ifCond .eq 6, 3) := by decide +kernel
theorem dX7_price_30 : decode cX7_price 30 = .ok (.goto 71, 3) := by decide +kernel
theorem dX7_price_33 : decode cX7_price 33 = .ok (.iload 6, 2) := by decide +kernel
theorem dX7_price_35 : decode cX7_price 35 = .ok (.aload_n 1, 1) := by decide +kernel
theorem dX7_price_36 : decode cX7_price 36 = .ok (.aload_n 3, 1) := by decide +kernel
theorem dX7_price_37 : decode cX7_price 37 = .ok (.iload 4, 2) := by decide +kernel
theorem dX7_price_39 : decode cX7_price 39 = .ok (.iload 5, 2) := by decide +kernel
theorem dX7_price_41 : decode cX7_price 41 = .ok (.invokestatic 41, 3) := by decide +kernel
theorem dX7_price_44 : decode cX7_price 44 = .ok (.istore 7, 2) := by decide +kernel
theorem dX7_price_46 : decode cX7_price 46 = .ok (.iconst 0, 1) := by decide +kernel
theorem dX7_price_47 : decode cX7_price 47 = .ok (.istore 8, 2) := by decide +kernel
theorem dX7_price_49 : decode cX7_price 49 = .ok (.iload 8, 2) := by decide +kernel
theorem dX7_price_51 : decode cX7_price 51 = .ok (.bipush 8, 2) := by decide +kernel
theorem dX7_price_53 : decode cX7_price 53 = .ok (.if_icmp .ge 48, 3) := by decide +kernel
theorem dX7_price_56 : decode cX7_price 56 = .ok (.aload_n 1, 1) := by decide +kernel
theorem dX7_price_57 : decode cX7_price 57 = .ok (.getfield 45, 3) := by decide +kernel
theorem dX7_price_60 : decode cX7_price 60 = .ok (.iload 6, 2) := by decide +kernel
theorem dX7_price_62 : decode cX7_price 62 = .ok (.iaload, 1) := by decide +kernel
theorem dX7_price_63 : decode cX7_price 63 = .ok (.bipush 8, 2) := by decide +kernel
theorem dX7_price_65 : decode cX7_price 65 = .ok (.imul, 1) := by decide +kernel
theorem dX7_price_66 : decode cX7_price 66 = .ok (.iload 8, 2) := by decide +kernel
theorem dX7_price_68 : decode cX7_price 68 = .ok (.iadd, 1) := by decide +kernel
theorem dX7_price_69 : decode cX7_price 69 = .ok (.istore 9, 2) := by decide +kernel
theorem dX7_price_71 : decode cX7_price 71 = .ok (.aload_n 0, 1) := by decide +kernel
theorem dX7_price_72 : decode cX7_price 72 = .ok (.getfield 19, 3) := by decide +kernel
theorem dX7_price_75 : decode cX7_price 75 = .ok (.iload 9, 2) := by decide +kernel
theorem dX7_price_77 : decode cX7_price 77 = .ok (.dup2, 1) := by decide +kernel
theorem dX7_price_78 : decode cX7_price 78 = .ok (.laload, 1) := by decide +kernel
theorem dX7_price_79 : decode cX7_price 79 = .ok (.iload 6, 2) := by decide +kernel
theorem dX7_price_81 : decode cX7_price 81 = .ok (.aload_n 1, 1) := by decide +kernel
theorem dX7_price_82 : decode cX7_price 82 = .ok (.aload_n 2, 1) := by decide +kernel
theorem dX7_price_83 : decode cX7_price 83 = .ok (.iload 8, 2) := by decide +kernel
theorem dX7_price_85 : decode cX7_price 85 = .ok (.iload 7, 2) := by decide +kernel
theorem dX7_price_87 : decode cX7_price 87 = .ok (.iand, 1) := by decide +kernel
theorem dX7_price_88 : decode cX7_price 88 = .ok (.iload 5, 2) := by decide +kernel
theorem dX7_price_90 : decode cX7_price 90 = .ok (.invokestatic 48, 3) := by decide +kernel
theorem dX7_price_93 : decode cX7_price 93 = .ok (.ladd, 1) := by decide +kernel
theorem dX7_price_94 : decode cX7_price 94 = .ok (.lastore, 1) := by decide +kernel
theorem dX7_price_95 : decode cX7_price 95 = .ok (.iinc 8 1, 3) := by decide +kernel
theorem dX7_price_98 : decode cX7_price 98 = .ok (.goto (-49), 3) := by decide +kernel
theorem dX7_price_101 : decode cX7_price 101 = .ok (.iinc 6 1, 3) := by decide +kernel
theorem dX7_price_104 : decode cX7_price 104 = .ok (.goto (-93), 3) := by decide +kernel
theorem dX7_price_107 : decode cX7_price 107 = .ok (.return_, 1) := by decide +kernel
set_option maxRecDepth 20000 in
theorem ggX7_forfeitWeeks_X4_isForfeit : GoodIn wsX7_forfeitWeeks wsX4_isForfeit := goodIn_r _ [7, 8, 9, 10, 11, 12, 13, 14, 15, 16, 6, 17, 18, 19, 20, 21, 22, 23, 24, 25, 26, 27, 28, 29, 30, 31, 32, 33, 34, 35, 36, 37, 38, 39, 40, 41, 42, 43, 44, 45, 46, 47, 48, 49, 50, 51, 52, 53, 54, 55, 56, 57, 58, 59, 60, 61, 62, 63, 64, 65, 66] (by decide +kernel) (by decide +kernel)
set_option maxRecDepth 20000 in
theorem gX7_forfeitWeeks_X4_isForfeit : GoodIn wsX7_forfeitWeeks (wsV RX7 58 RX4 yX4_isForfeit wsX4_isForfeit) := goodIn_app (goodIn_of _ (by decide +kernel)) ggX7_forfeitWeeks_X4_isForfeit
theorem dX7_forfeitWeeks_0 : decode cX7_forfeitWeeks 0 = .ok (.iconst 0, 1) := by decide +kernel
theorem dX7_forfeitWeeks_1 : decode cX7_forfeitWeeks 1 = .ok (.istore 5, 2) := by decide +kernel
theorem dX7_forfeitWeeks_3 : decode cX7_forfeitWeeks 3 = .ok (.iconst 0, 1) := by decide +kernel
theorem dX7_forfeitWeeks_4 : decode cX7_forfeitWeeks 4 = .ok (.istore 6, 2) := by decide +kernel
theorem dX7_forfeitWeeks_6 : decode cX7_forfeitWeeks 6 = .ok (.iload 6, 2) := by decide +kernel
theorem dX7_forfeitWeeks_8 : decode cX7_forfeitWeeks 8 = .ok (.iload 4, 2) := by decide +kernel
theorem dX7_forfeitWeeks_10 : decode cX7_forfeitWeeks 10 = .ok (.if_icmp .ge 46, 3) := by decide +kernel
theorem dX7_forfeitWeeks_13 : decode cX7_forfeitWeeks 13 = .ok (.aload_n 1, 1) := by decide +kernel
theorem dX7_forfeitWeeks_14 : decode cX7_forfeitWeeks 14 = .ok (.iload_n 0, 1) := by decide +kernel
theorem dX7_forfeitWeeks_15 : decode cX7_forfeitWeeks 15 = .ok (.aload_n 1, 1) := by decide +kernel
theorem dX7_forfeitWeeks_16 : decode cX7_forfeitWeeks 16 = .ok (.getfield 52, 3) := by decide +kernel
theorem dX7_forfeitWeeks_19 : decode cX7_forfeitWeeks 19 = .ok (.iload_n 0, 1) := by decide +kernel
theorem dX7_forfeitWeeks_20 : decode cX7_forfeitWeeks 20 = .ok (.iaload, 1) := by decide +kernel
theorem dX7_forfeitWeeks_21 : decode cX7_forfeitWeeks 21 = .ok (.iload 6, 2) := by decide +kernel
theorem dX7_forfeitWeeks_23 : decode cX7_forfeitWeeks 23 = .ok (.iadd, 1) := by decide +kernel
theorem dX7_forfeitWeeks_24 : decode cX7_forfeitWeeks 24 = .ok (.iconst 1, 1) := by decide +kernel
theorem dX7_forfeitWeeks_25 : decode cX7_forfeitWeeks 25 = .ok (.iadd, 1) := by decide +kernel
theorem dX7_forfeitWeeks_26 : decode cX7_forfeitWeeks 26 = .ok (.aload_n 1, 1) := by decide +kernel
theorem dX7_forfeitWeeks_27 : decode cX7_forfeitWeeks 27 = .ok (.getfield 55, 3) := by decide +kernel
theorem dX7_forfeitWeeks_30 : decode cX7_forfeitWeeks 30 = .ok (.iload 6, 2) := by decide +kernel
theorem dX7_forfeitWeeks_32 : decode cX7_forfeitWeeks 32 = .ok (.iadd, 1) := by decide +kernel
theorem dX7_forfeitWeeks_33 : decode cX7_forfeitWeeks 33 = .ok (.aload_n 2, 1) := by decide +kernel
theorem dX7_forfeitWeeks_34 : decode cX7_forfeitWeeks 34 = .ok (.iload_n 3, 1) := by decide +kernel
theorem dX7_forfeitWeeks_35 : decode cX7_forfeitWeeks 35 = .ok (.invokevirtual 58, 3) := by decide +kernel
theorem dX7_forfeitWeeks_38 : decode cX7_forfeitWeeks 38 = .ok (.ifCond .eq 12, 3) := by decide +kernel
theorem dX7_forfeitWeeks_41 : decode cX7_forfeitWeeks 41 = .ok (.iload 5, 2) := by decide +kernel
theorem dX7_forfeitWeeks_43 : decode cX7_forfeitWeeks 43 = .ok (.iconst 1, 1) := by decide +kernel
theorem dX7_forfeitWeeks_44 : decode cX7_forfeitWeeks 44 = .ok (.iload 6, 2) := by decide +kernel
theorem dX7_forfeitWeeks_46 : decode cX7_forfeitWeeks 46 = .ok (.ishl, 1) := by decide +kernel
theorem dX7_forfeitWeeks_47 : decode cX7_forfeitWeeks 47 = .ok (.ior, 1) := by decide +kernel
theorem dX7_forfeitWeeks_48 : decode cX7_forfeitWeeks 48 = .ok (.istore 5, 2) := by decide +kernel
theorem dX7_forfeitWeeks_50 : decode cX7_forfeitWeeks 50 = .ok (.iinc 6 1, 3) := by decide +kernel
theorem dX7_forfeitWeeks_53 : decode cX7_forfeitWeeks 53 = .ok (.goto (-47), 3) := by decide +kernel
theorem dX7_forfeitWeeks_56 : decode cX7_forfeitWeeks 56 = .ok (.iload 5, 2) := by decide +kernel
theorem dX7_forfeitWeeks_58 : decode cX7_forfeitWeeks 58 = .ok (.ireturn, 1) := by decide +kernel
set_option maxRecDepth 20000 in
theorem ggX7_lossOf_X4_shortIn : GoodIn wsX7_lossOf wsX4_shortIn := goodIn_r _ [10, 11, 12, 13, 14, 15, 16, 17, 9, 18, 19, 20, 21, 22, 4, 23, 24, 25, 26, 27, 28, 29, 30, 31, 32, 33, 34, 35, 36, 37, 38, 39, 40] (by decide +kernel) (by decide +kernel)
set_option maxRecDepth 20000 in
theorem gX7_lossOf_X4_shortIn : GoodIn wsX7_lossOf (wsV RX7 62 RX4 yX4_shortIn wsX4_shortIn) := goodIn_app (goodIn_of _ (by decide +kernel)) ggX7_lossOf_X4_shortIn
theorem dX7_lossOf_0 : decode cX7_lossOf 0 = .ok (.lconst 0, 1) := by decide +kernel
theorem dX7_lossOf_1 : decode cX7_lossOf 1 = .ok (.lstore 5, 2) := by decide +kernel
theorem dX7_lossOf_3 : decode cX7_lossOf 3 = .ok (.iconst 0, 1) := by decide +kernel
theorem dX7_lossOf_4 : decode cX7_lossOf 4 = .ok (.istore 7, 2) := by decide +kernel
theorem dX7_lossOf_6 : decode cX7_lossOf 6 = .ok (.iload 7, 2) := by decide +kernel
theorem dX7_lossOf_8 : decode cX7_lossOf 8 = .ok (.iload 4, 2) := by decide +kernel
theorem dX7_lossOf_10 : decode cX7_lossOf 10 = .ok (.if_icmp .ge 45, 3) := by decide +kernel
theorem dX7_lossOf_13 : decode cX7_lossOf 13 = .ok (.lload 5, 2) := by decide +kernel
theorem dX7_lossOf_15 : decode cX7_lossOf 15 = .ok (.lconst 0, 1) := by decide +kernel
theorem dX7_lossOf_16 : decode cX7_lossOf 16 = .ok (.aload_n 1, 1) := by decide +kernel
theorem dX7_lossOf_17 : decode cX7_lossOf 17 = .ok (.iload_n 0, 1) := by decide +kernel
theorem dX7_lossOf_18 : decode cX7_lossOf 18 = .ok (.aload_n 1, 1) := by decide +kernel
theorem dX7_lossOf_19 : decode cX7_lossOf 19 = .ok (.getfield 52, 3) := by decide +kernel
theorem dX7_lossOf_22 : decode cX7_lossOf 22 = .ok (.iload_n 0, 1) := by decide +kernel
theorem dX7_lossOf_23 : decode cX7_lossOf 23 = .ok (.iaload, 1) := by decide +kernel
theorem dX7_lossOf_24 : decode cX7_lossOf 24 = .ok (.iload 7, 2) := by decide +kernel
theorem dX7_lossOf_26 : decode cX7_lossOf 26 = .ok (.iadd, 1) := by decide +kernel
theorem dX7_lossOf_27 : decode cX7_lossOf 27 = .ok (.aload_n 2, 1) := by decide +kernel
theorem dX7_lossOf_28 : decode cX7_lossOf 28 = .ok (.invokevirtual 62, 3) := by decide +kernel
theorem dX7_lossOf_31 : decode cX7_lossOf 31 = .ok (.invokestatic 66, 3) := by decide +kernel
theorem dX7_lossOf_34 : decode cX7_lossOf 34 = .ok (.ladd, 1) := by decide +kernel
theorem dX7_lossOf_35 : decode cX7_lossOf 35 = .ok (.lstore 5, 2) := by decide +kernel
theorem dX7_lossOf_37 : decode cX7_lossOf 37 = .ok (.iload_n 3, 1) := by decide +kernel
theorem dX7_lossOf_38 : decode cX7_lossOf 38 = .ok (.iload 7, 2) := by decide +kernel
theorem dX7_lossOf_40 : decode cX7_lossOf 40 = .ok (.ishr, 1) := by decide +kernel
theorem dX7_lossOf_41 : decode cX7_lossOf 41 = .ok (.iconst 1, 1) := by decide +kernel
theorem dX7_lossOf_42 : decode cX7_lossOf 42 = .ok (.iand, 1) := by decide +kernel
theorem dX7_lossOf_43 : decode cX7_lossOf 43 = .ok (.ifCond .eq 6, 3) := by decide +kernel
theorem dX7_lossOf_46 : decode cX7_lossOf 46 = .ok (.goto 9, 3) := by decide +kernel
theorem dX7_lossOf_49 : decode cX7_lossOf 49 = .ok (.iinc 7 1, 3) := by decide +kernel
theorem dX7_lossOf_52 : decode cX7_lossOf 52 = .ok (.goto (-46), 3) := by decide +kernel
theorem dX7_lossOf_55 : decode cX7_lossOf 55 = .ok (.lload 5, 2) := by decide +kernel
theorem dX7_lossOf_57 : decode cX7_lossOf 57 = .ok (.lreturn, 1) := by decide +kernel
set_option maxRecDepth 20000 in
theorem ggX7_seek_J7_fill_53178 : GoodIn wsX7_seek wsJ7_fill_53178 := goodIn_r _ [7] (by decide +kernel) (by decide +kernel)
set_option maxRecDepth 20000 in
theorem gX7_seek_J7_fill_53178 : GoodIn wsX7_seek (va_wsS RX7 76 yJ7_fill_53178 wsJ7_fill_53178) := goodIn_app (goodIn_of _ (by decide +kernel)) ggX7_seek_J7_fill_53178
set_option maxRecDepth 20000 in
theorem ggX7_seek_X7_choose : GoodIn wsX7_seek wsX7_choose := goodIn_r _ [11, 3, 12, 13, 14, 10, 15, 16, 2, 17, 18, 19, 20, 21, 22, 23, 24, 25, 26, 27, 28, 29, 30, 31, 32, 8, 9, 33, 34, 35, 36] (by decide +kernel) (by decide +kernel)
set_option maxRecDepth 20000 in
theorem gX7_seek_X7_choose : GoodIn wsX7_seek (va_wsS RX7 79 yX7_choose wsX7_choose) := goodIn_app (goodIn_of _ (by decide +kernel)) ggX7_seek_X7_choose
theorem dX7_seek_0 : decode cX7_seek 0 = .ok (.aload_n 0, 1) := by decide +kernel
theorem dX7_seek_1 : decode cX7_seek 1 = .ok (.ldc2_w 74, 3) := by decide +kernel
theorem dX7_seek_4 : decode cX7_seek 4 = .ok (.putfield 15, 3) := by decide +kernel
theorem dX7_seek_7 : decode cX7_seek 7 = .ok (.aload_n 0, 1) := by decide +kernel
theorem dX7_seek_8 : decode cX7_seek 8 = .ok (.getfield 23, 3) := by decide +kernel
theorem dX7_seek_11 : decode cX7_seek 11 = .ok (.iconst 0, 1) := by decide +kernel
theorem dX7_seek_12 : decode cX7_seek 12 = .ok (.invokestatic 76, 3) := by decide +kernel
theorem dX7_seek_15 : decode cX7_seek 15 = .ok (.aload_n 0, 1) := by decide +kernel
theorem dX7_seek_16 : decode cX7_seek 16 = .ok (.iconst 0, 1) := by decide +kernel
theorem dX7_seek_17 : decode cX7_seek 17 = .ok (.iload_n 1, 1) := by decide +kernel
theorem dX7_seek_18 : decode cX7_seek 18 = .ok (.iconst 1, 1) := by decide +kernel
theorem dX7_seek_19 : decode cX7_seek 19 = .ok (.isub, 1) := by decide +kernel
theorem dX7_seek_20 : decode cX7_seek 20 = .ok (.iload_n 2, 1) := by decide +kernel
theorem dX7_seek_21 : decode cX7_seek 21 = .ok (.invokestatic 79, 3) := by decide +kernel
theorem dX7_seek_24 : decode cX7_seek 24 = .ok (.return_, 1) := by decide +kernel
set_option maxRecDepth 20000 in
theorem ggX7_choose_X7_weigh : GoodIn wsX7_choose wsX7_weigh := goodIn_r _ [6, 7, 8, 9, 1, 10, 11, 12, 5, 13, 27, 28, 29, 30] (by decide +kernel) (by decide +kernel)
set_option maxRecDepth 20000 in
theorem gX7_choose_X7_weigh : GoodIn wsX7_choose (wsV RX7 83 RX7 yX7_weigh wsX7_weigh) := goodIn_app (goodIn_of _ (by decide +kernel)) ggX7_choose_X7_weigh
set_option maxRecDepth 20000 in
theorem ggX7_choose_X7_worthwhileIn : GoodIn wsX7_choose wsX7_worthwhileIn := goodIn_r _ [17, 7, 10, 11, 12, 5, 13, 1, 27, 28, 29, 30] (by decide +kernel) (by decide +kernel)
set_option maxRecDepth 20000 in
theorem gX7_choose_X7_worthwhileIn : GoodIn wsX7_choose (wsV RX7 86 RX7 yX7_worthwhileIn wsX7_worthwhileIn) := goodIn_app (goodIn_of _ (by decide +kernel)) ggX7_choose_X7_worthwhileIn
set_option maxRecDepth 20000 in
theorem ggX7_choose_J6_bitCount_0f7a4 : GoodIn wsX7_choose wsJ6_bitCount_0f7a4 := goodIn_r _ [21, 22, 23, 24] (by decide +kernel) (by decide +kernel)
set_option maxRecDepth 20000 in
theorem gX7_choose_J6_bitCount_0f7a4 : GoodIn wsX7_choose (va_wsS RX7 90 yJ6_bitCount_0f7a4 wsJ6_bitCount_0f7a4) := goodIn_app (goodIn_of _ (by decide +kernel)) ggX7_choose_J6_bitCount_0f7a4
set_option maxRecDepth 20000 in
theorem ggX7_choose_X7_choose : GoodIn wsX7_choose wsX7_choose := goodIn_r _ [0, 1, 2, 3, 4, 5, 6, 7, 8, 9, 10, 11, 12, 13, 14, 15, 16, 17, 18, 19, 20, 21, 22, 23, 24, 25, 26, 27, 28, 29, 30] (by decide +kernel) (by decide +kernel)
set_option maxRecDepth 20000 in
theorem gX7_choose_X7_choose : GoodIn wsX7_choose (va_wsS RX7 79 yX7_choose wsX7_choose) := goodIn_app (goodIn_of _ (by decide +kernel)) ggX7_choose_X7_choose
theorem dX7_choose_0 : decode cX7_choose 0 = .ok (.iload_n 1, 1) := by decide +kernel
theorem dX7_choose_1 : decode cX7_choose 1 = .ok (.iload_n 2, 1) := by decide +kernel
theorem dX7_choose_2 : decode cX7_choose 2 = .ok (.if_icmp .ge 8, 3) := by decide +kernel
theorem dX7_choose_5 : decode cX7_choose 5 = .ok (.iload_n 1, 1) := by decide +kernel
theorem dX7_choose_6 : decode cX7_choose 6 = .ok (.iconst 3, 1) := by decide +kernel
theorem dX7_choose_7 : decode cX7_choose 7 = .ok (.if_icmp .lt 8, 3) := by decide +kernel
theorem dX7_choose_10 : decode cX7_choose 10 = .ok (.aload_n 0, 1) := by decide +kernel
theorem dX7_choose_11 : decode cX7_choose 11 = .ok (.invokevirtual 83, 3) := by decide +kernel
theorem dX7_choose_14 : decode cX7_choose 14 = .ok (.return_, 1) := by decide +kernel
theorem dX7_choose_15 : decode cX7_choose 15 = .ok (.aload_n 0, 1) := by decide +kernel
theorem dX7_choose_16 : decode cX7_choose 16 = .ok (.iload_n 1, 1) := by decide +kernel
theorem dX7_choose_17 : decode cX7_choose 17 = .ok (.invokevirtual 86, 3) := by decide +kernel
theorem dX7_choose_20 : decode cX7_choose 20 = .ok (.istore 4, 2) := by decide +kernel
theorem dX7_choose_22 : decode cX7_choose 22 = .ok (.iconst 0, 1) := by decide +kernel
theorem dX7_choose_23 : decode cX7_choose 23 = .ok (.istore 5, 2) := by decide +kernel
theorem dX7_choose_25 : decode cX7_choose 25 = .ok (.iload 5, 2) := by decide +kernel
theorem dX7_choose_27 : decode cX7_choose 27 = .ok (.iload 4, 2) := by decide +kernel
theorem dX7_choose_29 : decode cX7_choose 29 = .ok (.if_icmp .gt 48, 3) := by decide +kernel
theorem dX7_choose_32 : decode cX7_choose 32 = .ok (.iload 5, 2) := by decide +kernel
theorem dX7_choose_34 : decode cX7_choose 34 = .ok (.iload 4, 2) := by decide +kernel
theorem dX7_choose_36 : decode cX7_choose 36 = .ok (.iconst (-1), 1) := by decide +kernel
theorem dX7_choose_37 : decode cX7_choose 37 = .ok (.ixor, 1) := by decide +kernel
theorem dX7_choose_38 : decode cX7_choose 38 = .ok (.iand, 1) := by decide +kernel
theorem dX7_choose_39 : decode cX7_choose 39 = .ok (.ifCond .ne 32, 3) := by decide +kernel
theorem dX7_choose_42 : decode cX7_choose 42 = .ok (.iload 5, 2) := by decide +kernel
theorem dX7_choose_44 : decode cX7_choose 44 = .ok (.invokestatic 90, 3) := by decide +kernel
theorem dX7_choose_47 : decode cX7_choose 47 = .ok (.iload_n 3, 1) := by decide +kernel
theorem dX7_choose_48 : decode cX7_choose 48 = .ok (.if_icmp .le 6, 3) := by decide +kernel
theorem dX7_choose_51 : decode cX7_choose 51 = .ok (.goto 20, 3) := by decide +kernel
theorem dX7_choose_54 : decode cX7_choose 54 = .ok (.aload_n 0, 1) := by decide +kernel
theorem dX7_choose_55 : decode cX7_choose 55 = .ok (.getfield 23, 3) := by decide +kernel
theorem dX7_choose_58 : decode cX7_choose 58 = .ok (.iload_n 1, 1) := by decide +kernel
theorem dX7_choose_59 : decode cX7_choose 59 = .ok (.iload 5, 2) := by decide +kernel
theorem dX7_choose_61 : decode cX7_choose 61 = .ok (.iastore, 1) := by decide +kernel
theorem dX7_choose_62 : decode cX7_choose 62 = .ok (.aload_n 0, 1) := by decide +kernel
theorem dX7_choose_63 : decode cX7_choose 63 = .ok (.iload_n 1, 1) := by decide +kernel
theorem dX7_choose_64 : decode cX7_choose 64 = .ok (.iconst 1, 1) := by decide +kernel
theorem dX7_choose_65 : decode cX7_choose 65 = .ok (.iadd, 1) := by decide +kernel
theorem dX7_choose_66 : decode cX7_choose 66 = .ok (.iload_n 2, 1) := by decide +kernel
theorem dX7_choose_67 : decode cX7_choose 67 = .ok (.iload_n 3, 1) := by decide +kernel
theorem dX7_choose_68 : decode cX7_choose 68 = .ok (.invokestatic 79, 3) := by decide +kernel
theorem dX7_choose_71 : decode cX7_choose 71 = .ok (.iinc 5 1, 3) := by decide +kernel
theorem dX7_choose_74 : decode cX7_choose 74 = .ok (.goto (-49), 3) := by decide +kernel
theorem dX7_choose_77 : decode cX7_choose 77 = .ok (.aload_n 0, 1) := by decide +kernel
theorem dX7_choose_78 : decode cX7_choose 78 = .ok (.getfield 23, 3) := by decide +kernel
theorem dX7_choose_81 : decode cX7_choose 81 = .ok (.iload_n 1, 1) := by decide +kernel
theorem dX7_choose_82 : decode cX7_choose 82 = .ok (.iconst 0, 1) := by decide +kernel
theorem dX7_choose_83 : decode cX7_choose 83 = .ok (.iastore, 1) := by decide +kernel
theorem dX7_choose_84 : decode cX7_choose 84 = .ok (.return_, 1) := by decide +kernel
set_option maxRecDepth 20000 in
theorem ggX7_worthwhileIn_X7_patternOf : GoodIn wsX7_worthwhileIn wsX7_patternOf := goodIn_r _ [6, 7, 8, 9, 10, 11] (by decide +kernel) (by decide +kernel)
set_option maxRecDepth 20000 in
theorem gX7_worthwhileIn_X7_patternOf : GoodIn wsX7_worthwhileIn (wsV RX7 95 RX7 yX7_patternOf wsX7_patternOf) := goodIn_app (goodIn_of _ (by decide +kernel)) ggX7_worthwhileIn_X7_patternOf
theorem dX7_worthwhileIn_0 : decode cX7_worthwhileIn 0 = .ok (.iconst 0, 1) := by decide +kernel
theorem dX7_worthwhileIn_1 : decode cX7_worthwhileIn 1 = .ok (.istore_n 2, 1) := by decide +kernel
theorem dX7_worthwhileIn_2 : decode cX7_worthwhileIn 2 = .ok (.iconst 0, 1) := by decide +kernel
theorem dX7_worthwhileIn_3 : decode cX7_worthwhileIn 3 = .ok (.istore_n 3, 1) := by decide +kernel
theorem dX7_worthwhileIn_4 : decode cX7_worthwhileIn 4 = .ok (.iload_n 3, 1) := by decide +kernel
theorem dX7_worthwhileIn_5 : decode cX7_worthwhileIn 5 = .ok (.bipush 6, 2) := by decide +kernel
theorem dX7_worthwhileIn_7 : decode cX7_worthwhileIn 7 = .ok (.if_icmp .ge 54, 3) := by decide +kernel
theorem dX7_worthwhileIn_10 : decode cX7_worthwhileIn 10 = .ok (.aload_n 0, 1) := by decide +kernel
theorem dX7_worthwhileIn_11 : decode cX7_worthwhileIn 11 = .ok (.iload_n 3, 1) := by decide +kernel
theorem dX7_worthwhileIn_12 : decode cX7_worthwhileIn 12 = .ok (.invokevirtual 95, 3) := by decide +kernel
theorem dX7_worthwhileIn_15 : decode cX7_worthwhileIn 15 = .ok (.istore 4, 2) := by decide +kernel
theorem dX7_worthwhileIn_17 : decode cX7_worthwhileIn 17 = .ok (.aload_n 0, 1) := by decide +kernel
theorem dX7_worthwhileIn_18 : decode cX7_worthwhileIn 18 = .ok (.getfield 19, 3) := by decide +kernel
theorem dX7_worthwhileIn_21 : decode cX7_worthwhileIn 21 = .ok (.iload_n 3, 1) := by decide +kernel
theorem dX7_worthwhileIn_22 : decode cX7_worthwhileIn 22 = .ok (.bipush 8, 2) := by decide +kernel
theorem dX7_worthwhileIn_24 : decode cX7_worthwhileIn 24 = .ok (.imul, 1) := by decide +kernel
theorem dX7_worthwhileIn_25 : decode cX7_worthwhileIn 25 = .ok (.iload 4, 2) := by decide +kernel
theorem dX7_worthwhileIn_27 : decode cX7_worthwhileIn 27 = .ok (.iconst 1, 1) := by decide +kernel
theorem dX7_worthwhileIn_28 : decode cX7_worthwhileIn 28 = .ok (.iload_n 1, 1) := by decide +kernel
theorem dX7_worthwhileIn_29 : decode cX7_worthwhileIn 29 = .ok (.ishl, 1) := by decide +kernel
theorem dX7_worthwhileIn_30 : decode cX7_worthwhileIn 30 = .ok (.ior, 1) := by decide +kernel
theorem dX7_worthwhileIn_31 : decode cX7_worthwhileIn 31 = .ok (.iadd, 1) := by decide +kernel
theorem dX7_worthwhileIn_32 : decode cX7_worthwhileIn 32 = .ok (.laload, 1) := by decide +kernel
theorem dX7_worthwhileIn_33 : decode cX7_worthwhileIn 33 = .ok (.aload_n 0, 1) := by decide +kernel
theorem dX7_worthwhileIn_34 : decode cX7_worthwhileIn 34 = .ok (.getfield 19, 3) := by decide +kernel
theorem dX7_worthwhileIn_37 : decode cX7_worthwhileIn 37 = .ok (.iload_n 3, 1) := by decide +kernel
theorem dX7_worthwhileIn_38 : decode cX7_worthwhileIn 38 = .ok (.bipush 8, 2) := by decide +kernel
theorem dX7_worthwhileIn_40 : decode cX7_worthwhileIn 40 = .ok (.imul, 1) := by decide +kernel
theorem dX7_worthwhileIn_41 : decode cX7_worthwhileIn 41 = .ok (.iload 4, 2) := by decide +kernel
theorem dX7_worthwhileIn_43 : decode cX7_worthwhileIn 43 = .ok (.iadd, 1) := by decide +kernel
theorem dX7_worthwhileIn_44 : decode cX7_worthwhileIn 44 = .ok (.laload, 1) := by decide +kernel
theorem dX7_worthwhileIn_45 : decode cX7_worthwhileIn 45 = .ok (.lcmp, 1) := by decide +kernel
theorem dX7_worthwhileIn_46 : decode cX7_worthwhileIn 46 = .ok (.ifCond .ge 9, 3) := by decide +kernel
theorem dX7_worthwhileIn_49 : decode cX7_worthwhileIn 49 = .ok (.iload_n 2, 1) := by decide +kernel
theorem dX7_worthwhileIn_50 : decode cX7_worthwhileIn 50 = .ok (.iconst 1, 1) := by decide +kernel
theorem dX7_worthwhileIn_51 : decode cX7_worthwhileIn 51 = .ok (.iload_n 3, 1) := by decide +kernel
theorem dX7_worthwhileIn_52 : decode cX7_worthwhileIn 52 = .ok (.ishl, 1) := by decide +kernel
theorem dX7_worthwhileIn_53 : decode cX7_worthwhileIn 53 = .ok (.ior, 1) := by decide +kernel
theorem dX7_worthwhileIn_54 : decode cX7_worthwhileIn 54 = .ok (.istore_n 2, 1) := by decide +kernel
theorem dX7_worthwhileIn_55 : decode cX7_worthwhileIn 55 = .ok (.iinc 3 1, 3) := by decide +kernel
theorem dX7_worthwhileIn_58 : decode cX7_worthwhileIn 58 = .ok (.goto (-54), 3) := by decide +kernel
theorem dX7_worthwhileIn_61 : decode cX7_worthwhileIn 61 = .ok (.iload_n 2, 1) := by decide +kernel
theorem dX7_worthwhileIn_62 : decode cX7_worthwhileIn 62 = .ok (.ireturn, 1) := by decide +kernel
theorem dX7_patternOf_0 : decode cX7_patternOf 0 = .ok (.iconst 0, 1) := by decide +kernel
theorem dX7_patternOf_1 : decode cX7_patternOf 1 = .ok (.istore_n 2, 1) := by decide +kernel
theorem dX7_patternOf_2 : decode cX7_patternOf 2 = .ok (.iconst 0, 1) := by decide +kernel
theorem dX7_patternOf_3 : decode cX7_patternOf 3 = .ok (.istore_n 3, 1) := by decide +kernel
theorem dX7_patternOf_4 : decode cX7_patternOf 4 = .ok (.iload_n 3, 1) := by decide +kernel
theorem dX7_patternOf_5 : decode cX7_patternOf 5 = .ok (.iconst 3, 1) := by decide +kernel
theorem dX7_patternOf_6 : decode cX7_patternOf 6 = .ok (.if_icmp .ge 24, 3) := by decide +kernel
theorem dX7_patternOf_9 : decode cX7_patternOf 9 = .ok (.iload_n 2, 1) := by decide +kernel
theorem dX7_patternOf_10 : decode cX7_patternOf 10 = .ok (.aload_n 0, 1) := by decide +kernel
theorem dX7_patternOf_11 : decode cX7_patternOf 11 = .ok (.getfield 23, 3) := by decide +kernel
theorem dX7_patternOf_14 : decode cX7_patternOf 14 = .ok (.iload_n 3, 1) := by decide +kernel
theorem dX7_patternOf_15 : decode cX7_patternOf 15 = .ok (.iaload, 1) := by decide +kernel
theorem dX7_patternOf_16 : decode cX7_patternOf 16 = .ok (.iload_n 1, 1) := by decide +kernel
theorem dX7_patternOf_17 : decode cX7_patternOf 17 = .ok (.ishr, 1) := by decide +kernel
theorem dX7_patternOf_18 : decode cX7_patternOf 18 = .ok (.iconst 1, 1) := by decide +kernel
theorem dX7_patternOf_19 : decode cX7_patternOf 19 = .ok (.iand, 1) := by decide +kernel
theorem dX7_patternOf_20 : decode cX7_patternOf 20 = .ok (.iload_n 3, 1) := by decide +kernel
theorem dX7_patternOf_21 : decode cX7_patternOf 21 = .ok (.ishl, 1) := by decide +kernel
theorem dX7_patternOf_22 : decode cX7_patternOf 22 = .ok (.ior, 1) := by decide +kernel
theorem dX7_patternOf_23 : decode cX7_patternOf 23 = .ok (.istore_n 2, 1) := by decide +kernel
theorem dX7_patternOf_24 : decode cX7_patternOf 24 = .ok (.iinc 3 1, 3) := by decide +kernel
theorem dX7_patternOf_27 : decode cX7_patternOf 27 = .ok (.goto (-23), 3) := by decide +kernel
theorem dX7_patternOf_30 : decode cX7_patternOf 30 = .ok (.iload_n 2, 1) := by decide +kernel
theorem dX7_patternOf_31 : decode cX7_patternOf 31 = .ok (.ireturn, 1) := by decide +kernel
set_option maxRecDepth 20000 in
theorem ggX7_weigh_X7_patternOf : GoodIn wsX7_weigh wsX7_patternOf := goodIn_r _ [9, 4, 10, 11, 12, 13] (by decide +kernel) (by decide +kernel)
set_option maxRecDepth 20000 in
theorem gX7_weigh_X7_patternOf : GoodIn wsX7_weigh (wsV RX7 95 RX7 yX7_patternOf wsX7_patternOf) := goodIn_app (goodIn_of _ (by decide +kernel)) ggX7_weigh_X7_patternOf
theorem dX7_weigh_0 : decode cX7_weigh 0 = .ok (.lconst 0, 1) := by decide +kernel
theorem dX7_weigh_1 : decode cX7_weigh 1 = .ok (.lstore_n 1, 1) := by decide +kernel
theorem dX7_weigh_2 : decode cX7_weigh 2 = .ok (.iconst 0, 1) := by decide +kernel
theorem dX7_weigh_3 : decode cX7_weigh 3 = .ok (.istore_n 3, 1) := by decide +kernel
theorem dX7_weigh_4 : decode cX7_weigh 4 = .ok (.iload_n 3, 1) := by decide +kernel
theorem dX7_weigh_5 : decode cX7_weigh 5 = .ok (.bipush 6, 2) := by decide +kernel
theorem dX7_weigh_7 : decode cX7_weigh 7 = .ok (.if_icmp .ge 27, 3) := by decide +kernel
theorem dX7_weigh_10 : decode cX7_weigh 10 = .ok (.lload_n 1, 1) := by decide +kernel
theorem dX7_weigh_11 : decode cX7_weigh 11 = .ok (.aload_n 0, 1) := by decide +kernel
theorem dX7_weigh_12 : decode cX7_weigh 12 = .ok (.getfield 19, 3) := by decide +kernel
theorem dX7_weigh_15 : decode cX7_weigh 15 = .ok (.iload_n 3, 1) := by decide +kernel
theorem dX7_weigh_16 : decode cX7_weigh 16 = .ok (.bipush 8, 2) := by decide +kernel
theorem dX7_weigh_18 : decode cX7_weigh 18 = .ok (.imul, 1) := by decide +kernel
theorem dX7_weigh_19 : decode cX7_weigh 19 = .ok (.aload_n 0, 1) := by decide +kernel
theorem dX7_weigh_20 : decode cX7_weigh 20 = .ok (.iload_n 3, 1) := by decide +kernel
theorem dX7_weigh_21 : decode cX7_weigh 21 = .ok (.invokevirtual 95, 3) := by decide +kernel
theorem dX7_weigh_24 : decode cX7_weigh 24 = .ok (.iadd, 1) := by decide +kernel
theorem dX7_weigh_25 : decode cX7_weigh 25 = .ok (.laload, 1) := by decide +kernel
theorem dX7_weigh_26 : decode cX7_weigh 26 = .ok (.ladd, 1) := by decide +kernel
theorem dX7_weigh_27 : decode cX7_weigh 27 = .ok (.lstore_n 1, 1) := by decide +kernel
theorem dX7_weigh_28 : decode cX7_weigh 28 = .ok (.iinc 3 1, 3) := by decide +kernel
theorem dX7_weigh_31 : decode cX7_weigh 31 = .ok (.goto (-27), 3) := by decide +kernel
theorem dX7_weigh_34 : decode cX7_weigh 34 = .ok (.lload_n 1, 1) := by decide +kernel
theorem dX7_weigh_35 : decode cX7_weigh 35 = .ok (.aload_n 0, 1) := by decide +kernel
theorem dX7_weigh_36 : decode cX7_weigh 36 = .ok (.getfield 15, 3) := by decide +kernel
theorem dX7_weigh_39 : decode cX7_weigh 39 = .ok (.lcmp, 1) := by decide +kernel
theorem dX7_weigh_40 : decode cX7_weigh 40 = .ok (.ifCond .lt 4, 3) := by decide +kernel
theorem dX7_weigh_43 : decode cX7_weigh 43 = .ok (.return_, 1) := by decide +kernel
theorem dX7_weigh_44 : decode cX7_weigh 44 = .ok (.aload_n 0, 1) := by decide +kernel
theorem dX7_weigh_45 : decode cX7_weigh 45 = .ok (.lload_n 1, 1) := by decide +kernel
theorem dX7_weigh_46 : decode cX7_weigh 46 = .ok (.putfield 15, 3) := by decide +kernel
theorem dX7_weigh_49 : decode cX7_weigh 49 = .ok (.iconst 0, 1) := by decide +kernel
theorem dX7_weigh_50 : decode cX7_weigh 50 = .ok (.istore_n 3, 1) := by decide +kernel
theorem dX7_weigh_51 : decode cX7_weigh 51 = .ok (.iload_n 3, 1) := by decide +kernel
theorem dX7_weigh_52 : decode cX7_weigh 52 = .ok (.iconst 4, 1) := by decide +kernel
theorem dX7_weigh_53 : decode cX7_weigh 53 = .ok (.if_icmp .ge 21, 3) := by decide +kernel
theorem dX7_weigh_56 : decode cX7_weigh 56 = .ok (.aload_n 0, 1) := by decide +kernel
theorem dX7_weigh_57 : decode cX7_weigh 57 = .ok (.getfield 11, 3) := by decide +kernel
theorem dX7_weigh_60 : decode cX7_weigh 60 = .ok (.iload_n 3, 1) := by decide +kernel
theorem dX7_weigh_61 : decode cX7_weigh 61 = .ok (.aload_n 0, 1) := by decide +kernel
theorem dX7_weigh_62 : decode cX7_weigh 62 = .ok (.getfield 23, 3) := by decide +kernel
theorem dX7_weigh_65 : decode cX7_weigh 65 = .ok (.iload_n 3, 1) := by decide +kernel
theorem dX7_weigh_66 : decode cX7_weigh 66 = .ok (.iaload, 1) := by decide +kernel
theorem dX7_weigh_67 : decode cX7_weigh 67 = .ok (.iastore, 1) := by decide +kernel
theorem dX7_weigh_68 : decode cX7_weigh 68 = .ok (.iinc 3 1, 3) := by decide +kernel
theorem dX7_weigh_71 : decode cX7_weigh 71 = .ok (.goto (-20), 3) := by decide +kernel
theorem dX7_weigh_74 : decode cX7_weigh 74 = .ok (.return_, 1) := by decide +kernel
theorem dX8_init_0 : decode cX8_init 0 = .ok (.aload_n 0, 1) := by decide +kernel
theorem dX8_init_1 : decode cX8_init 1 = .ok (.invokespecial 3, 3) := by decide +kernel
theorem dX8_init_4 : decode cX8_init 4 = .ok (.aload_n 0, 1) := by decide +kernel
theorem dX8_init_5 : decode cX8_init 5 = .ok (.bipush 30, 2) := by decide +kernel
theorem dX8_init_7 : decode cX8_init 7 = .ok (.newarray .int, 2) := by decide +kernel
theorem dX8_init_9 : decode cX8_init 9 = .ok (.putfield 11, 3) := by decide +kernel
theorem dX8_init_12 : decode cX8_init 12 = .ok (.aload_n 0, 1) := by decide +kernel
theorem dX8_init_13 : decode cX8_init 13 = .ok (.bipush 30, 2) := by decide +kernel
theorem dX8_init_15 : decode cX8_init 15 = .ok (.newarray .int, 2) := by decide +kernel
theorem dX8_init_17 : decode cX8_init 17 = .ok (.putfield 15, 3) := by decide +kernel
theorem dX8_init_20 : decode cX8_init 20 = .ok (.aload_n 0, 1) := by decide +kernel
theorem dX8_init_21 : decode cX8_init 21 = .ok (.bipush 30, 2) := by decide +kernel
theorem dX8_init_23 : decode cX8_init 23 = .ok (.newarray .int, 2) := by decide +kernel
theorem dX8_init_25 : decode cX8_init 25 = .ok (.putfield 18, 3) := by decide +kernel
theorem dX8_init_28 : decode cX8_init 28 = .ok (.aload_n 0, 1) := by decide +kernel
theorem dX8_init_29 : decode cX8_init 29 = .ok (.bipush 30, 2) := by decide +kernel
theorem dX8_init_31 : decode cX8_init 31 = .ok (.newarray .int, 2) := by decide +kernel
theorem dX8_init_33 : decode cX8_init 33 = .ok (.putfield 21, 3) := by decide +kernel
theorem dX8_init_36 : decode cX8_init 36 = .ok (.aload_n 0, 1) := by decide +kernel
theorem dX8_init_37 : decode cX8_init 37 = .ok (.bipush 30, 2) := by decide +kernel
theorem dX8_init_39 : decode cX8_init 39 = .ok (.newarray .int, 2) := by decide +kernel
theorem dX8_init_41 : decode cX8_init 41 = .ok (.putfield 24, 3) := by decide +kernel
theorem dX8_init_44 : decode cX8_init 44 = .ok (.aload_n 0, 1) := by decide +kernel
theorem dX8_init_45 : decode cX8_init 45 = .ok (.iconst 0, 1) := by decide +kernel
theorem dX8_init_46 : decode cX8_init 46 = .ok (.putfield 27, 3) := by decide +kernel
theorem dX8_init_49 : decode cX8_init 49 = .ok (.aload_n 0, 1) := by decide +kernel
theorem dX8_init_50 : decode cX8_init 50 = .ok (.lconst 1, 1) := by decide +kernel
theorem dX8_init_51 : decode cX8_init 51 = .ok (.putfield 31, 3) := by decide +kernel
theorem dX8_init_54 : decode cX8_init 54 = .ok (.aload_n 0, 1) := by decide +kernel
theorem dX8_init_55 : decode cX8_init 55 = .ok (.ldc2_w 35, 3) := by decide +kernel
theorem dX8_init_58 : decode cX8_init 58 = .ok (.putfield 37, 3) := by decide +kernel
theorem dX8_init_61 : decode cX8_init 61 = .ok (.aload_n 0, 1) := by decide +kernel
theorem dX8_init_62 : decode cX8_init 62 = .ok (.iconst 1, 1) := by decide +kernel
theorem dX8_init_63 : decode cX8_init 63 = .ok (.putfield 40, 3) := by decide +kernel
theorem dX8_init_66 : decode cX8_init 66 = .ok (.aload_n 0, 1) := by decide +kernel
theorem dX8_init_67 : decode cX8_init 67 = .ok (.iconst 1, 1) := by decide +kernel
theorem dX8_init_68 : decode cX8_init 68 = .ok (.putfield 43, 3) := by decide +kernel
theorem dX8_init_71 : decode cX8_init 71 = .ok (.return_, 1) := by decide +kernel
theorem dX8_add_0 : decode cX8_add 0 = .ok (.aload_n 0, 1) := by decide +kernel
theorem dX8_add_1 : decode cX8_add 1 = .ok (.getfield 11, 3) := by decide +kernel
theorem dX8_add_4 : decode cX8_add 4 = .ok (.aload_n 0, 1) := by decide +kernel
theorem dX8_add_5 : decode cX8_add 5 = .ok (.getfield 27, 3) := by decide +kernel
theorem dX8_add_8 : decode cX8_add 8 = .ok (.iload_n 1, 1) := by decide +kernel
theorem dX8_add_9 : decode cX8_add 9 = .ok (.iastore, 1) := by decide +kernel
theorem dX8_add_10 : decode cX8_add 10 = .ok (.aload_n 0, 1) := by decide +kernel
theorem dX8_add_11 : decode cX8_add 11 = .ok (.getfield 15, 3) := by decide +kernel
theorem dX8_add_14 : decode cX8_add 14 = .ok (.aload_n 0, 1) := by decide +kernel
theorem dX8_add_15 : decode cX8_add 15 = .ok (.getfield 27, 3) := by decide +kernel
theorem dX8_add_18 : decode cX8_add 18 = .ok (.iload_n 2, 1) := by decide +kernel
theorem dX8_add_19 : decode cX8_add 19 = .ok (.iastore, 1) := by decide +kernel
theorem dX8_add_20 : decode cX8_add 20 = .ok (.aload_n 0, 1) := by decide +kernel
theorem dX8_add_21 : decode cX8_add 21 = .ok (.getfield 18, 3) := by decide +kernel
theorem dX8_add_24 : decode cX8_add 24 = .ok (.aload_n 0, 1) := by decide +kernel
theorem dX8_add_25 : decode cX8_add 25 = .ok (.getfield 27, 3) := by decide +kernel
theorem dX8_add_28 : decode cX8_add 28 = .ok (.iload_n 3, 1) := by decide +kernel
theorem dX8_add_29 : decode cX8_add 29 = .ok (.iastore, 1) := by decide +kernel
theorem dX8_add_30 : decode cX8_add 30 = .ok (.aload_n 0, 1) := by decide +kernel
theorem dX8_add_31 : decode cX8_add 31 = .ok (.getfield 21, 3) := by decide +kernel
theorem dX8_add_34 : decode cX8_add 34 = .ok (.aload_n 0, 1) := by decide +kernel
theorem dX8_add_35 : decode cX8_add 35 = .ok (.getfield 27, 3) := by decide +kernel
theorem dX8_add_38 : decode cX8_add 38 = .ok (.iload 4, 2) := by decide +kernel
theorem dX8_add_40 : decode cX8_add 40 = .ok (.iastore, 1) := by decide +kernel
theorem dX8_add_41 : decode cX8_add 41 = .ok (.aload_n 0, 1) := by decide +kernel
theorem dX8_add_42 : decode cX8_add 42 = .ok (.getfield 24, 3) := by decide +kernel
theorem dX8_add_45 : decode cX8_add 45 = .ok (.aload_n 0, 1) := by decide +kernel
theorem dX8_add_46 : decode cX8_add 46 = .ok (.getfield 27, 3) := by decide +kernel
theorem dX8_add_49 : decode cX8_add 49 = .ok (.iload 5, 2) := by decide +kernel
theorem dX8_add_51 : decode cX8_add 51 = .ok (.iastore, 1) := by decide +kernel
theorem dX8_add_52 : decode cX8_add 52 = .ok (.aload_n 0, 1) := by decide +kernel
theorem dX8_add_53 : decode cX8_add 53 = .ok (.dup, 1) := by decide +kernel
theorem dX8_add_54 : decode cX8_add 54 = .ok (.getfield 27, 3) := by decide +kernel
theorem dX8_add_57 : decode cX8_add 57 = .ok (.iconst 1, 1) := by decide +kernel
theorem dX8_add_58 : decode cX8_add 58 = .ok (.iadd, 1) := by decide +kernel
theorem dX8_add_59 : decode cX8_add 59 = .ok (.putfield 27, 3) := by decide +kernel
theorem dX8_add_62 : decode cX8_add 62 = .ok (.aload_n 0, 1) := by decide +kernel
theorem dX8_add_63 : decode cX8_add 63 = .ok (.getfield 27, 3) := by decide +kernel
theorem dX8_add_66 : decode cX8_add 66 = .ok (.ireturn, 1) := by decide +kernel
set_option maxRecDepth 20000 in
theorem ggX8_narrow_X8_clip : GoodIn wsX8_narrow wsX8_clip := goodIn_r _ [14, 1, 15, 16, 17, 18, 3, 19, 20, 21, 22, 23, 24, 25, 26, 27, 28, 29, 30, 31] (by decide +kernel) (by decide +kernel)
set_option maxRecDepth 20000 in
theorem gX8_narrow_X8_clip : GoodIn wsX8_narrow (wsV RX8 46 RX8 yX8_clip wsX8_clip) := goodIn_app (goodIn_of _ (by decide +kernel)) ggX8_narrow_X8_clip
theorem dX8_narrow_0 : decode cX8_narrow 0 = .ok (.aload_n 0, 1) := by decide +kernel
theorem dX8_narrow_1 : decode cX8_narrow 1 = .ok (.lconst 1, 1) := by decide +kernel
theorem dX8_narrow_2 : decode cX8_narrow 2 = .ok (.putfield 31, 3) := by decide +kernel
theorem dX8_narrow_5 : decode cX8_narrow 5 = .ok (.aload_n 0, 1) := by decide +kernel
theorem dX8_narrow_6 : decode cX8_narrow 6 = .ok (.ldc2_w 35, 3) := by decide +kernel
theorem dX8_narrow_9 : decode cX8_narrow 9 = .ok (.putfield 37, 3) := by decide +kernel
theorem dX8_narrow_12 : decode cX8_narrow 12 = .ok (.iconst 0, 1) := by decide +kernel
theorem dX8_narrow_13 : decode cX8_narrow 13 = .ok (.istore 5, 2) := by decide +kernel
theorem dX8_narrow_15 : decode cX8_narrow 15 = .ok (.iload 5, 2) := by decide +kernel
theorem dX8_narrow_17 : decode cX8_narrow 17 = .ok (.aload_n 0, 1) := by decide +kernel
theorem dX8_narrow_18 : decode cX8_narrow 18 = .ok (.getfield 27, 3) := by decide +kernel
theorem dX8_narrow_21 : decode cX8_narrow 21 = .ok (.if_icmp .ge 109, 3) := by decide +kernel
theorem dX8_narrow_24 : decode cX8_narrow 24 = .ok (.aload_n 0, 1) := by decide +kernel
theorem dX8_narrow_25 : decode cX8_narrow 25 = .ok (.getfield 11, 3) := by decide +kernel
theorem dX8_narrow_28 : decode cX8_narrow 28 = .ok (.iload 5, 2) := by decide +kernel
theorem dX8_narrow_30 : decode cX8_narrow 30 = .ok (.iaload, 1) := by decide +kernel
theorem dX8_narrow_31 : decode cX8_narrow 31 = .ok (.iload_n 1, 1) := by decide +kernel
theorem dX8_narrow_32 : decode cX8_narrow 32 = .ok (.if_icmp .ne 42, 3) := by decide +kernel
theorem dX8_narrow_35 : decode cX8_narrow 35 = .ok (.aload_n 0, 1) := by decide +kernel
theorem dX8_narrow_36 : decode cX8_narrow 36 = .ok (.getfield 15, 3) := by decide +kernel
theorem dX8_narrow_39 : decode cX8_narrow 39 = .ok (.iload 5, 2) := by decide +kernel
theorem dX8_narrow_41 : decode cX8_narrow 41 = .ok (.iaload, 1) := by decide +kernel
theorem dX8_narrow_42 : decode cX8_narrow 42 = .ok (.iload_n 2, 1) := by decide +kernel
theorem dX8_narrow_43 : decode cX8_narrow 43 = .ok (.if_icmp .ne 31, 3) := by decide +kernel
theorem dX8_narrow_46 : decode cX8_narrow 46 = .ok (.aload_n 0, 1) := by decide +kernel
theorem dX8_narrow_47 : decode cX8_narrow 47 = .ok (.aload_n 0, 1) := by decide +kernel
theorem dX8_narrow_48 : decode cX8_narrow 48 = .ok (.getfield 18, 3) := by decide +kernel
theorem dX8_narrow_51 : decode cX8_narrow 51 = .ok (.iload 5, 2) := by decide +kernel
theorem dX8_narrow_53 : decode cX8_narrow 53 = .ok (.iaload, 1) := by decide +kernel
theorem dX8_narrow_54 : decode cX8_narrow 54 = .ok (.lload_n 3, 1) := by decide +kernel
theorem dX8_narrow_55 : decode cX8_narrow 55 = .ok (.aload_n 0, 1) := by decide +kernel
theorem dX8_narrow_56 : decode cX8_narrow 56 = .ok (.getfield 21, 3) := by decide +kernel
theorem dX8_narrow_59 : decode cX8_narrow 59 = .ok (.iload 5, 2) := by decide +kernel
theorem dX8_narrow_61 : decode cX8_narrow 61 = .ok (.iaload, 1) := by decide +kernel
theorem dX8_narrow_62 : decode cX8_narrow 62 = .ok (.i2l, 1) := by decide +kernel
theorem dX8_narrow_63 : decode cX8_narrow 63 = .ok (.lmul, 1) := by decide +kernel
theorem dX8_narrow_64 : decode cX8_narrow 64 = .ok (.aload_n 0, 1) := by decide +kernel
theorem dX8_narrow_65 : decode cX8_narrow 65 = .ok (.getfield 24, 3) := by decide +kernel
theorem dX8_narrow_68 : decode cX8_narrow 68 = .ok (.iload 5, 2) := by decide +kernel
theorem dX8_narrow_70 : decode cX8_narrow 70 = .ok (.iaload, 1) := by decide +kernel
theorem dX8_narrow_71 : decode cX8_narrow 71 = .ok (.invokevirtual 46, 3) := by decide +kernel
theorem dX8_narrow_74 : decode cX8_narrow 74 = .ok (.aload_n 0, 1) := by decide +kernel
theorem dX8_narrow_75 : decode cX8_narrow 75 = .ok (.getfield 11, 3) := by decide +kernel
theorem dX8_narrow_78 : decode cX8_narrow 78 = .ok (.iload 5, 2) := by decide +kernel
theorem dX8_narrow_80 : decode cX8_narrow 80 = .ok (.iaload, 1) := by decide +kernel
theorem dX8_narrow_81 : decode cX8_narrow 81 = .ok (.iload_n 2, 1) := by decide +kernel
theorem dX8_narrow_82 : decode cX8_narrow 82 = .ok (.if_icmp .ne 42, 3) := by decide +kernel
theorem dX8_narrow_85 : decode cX8_narrow 85 = .ok (.aload_n 0, 1) := by decide +kernel
theorem dX8_narrow_86 : decode cX8_narrow 86 = .ok (.getfield 15, 3) := by decide +kernel
theorem dX8_narrow_89 : decode cX8_narrow 89 = .ok (.iload 5, 2) := by decide +kernel
theorem dX8_narrow_91 : decode cX8_narrow 91 = .ok (.iaload, 1) := by decide +kernel
theorem dX8_narrow_92 : decode cX8_narrow 92 = .ok (.iload_n 1, 1) := by decide +kernel
theorem dX8_narrow_93 : decode cX8_narrow 93 = .ok (.if_icmp .ne 31, 3) := by decide +kernel
theorem dX8_narrow_96 : decode cX8_narrow 96 = .ok (.aload_n 0, 1) := by decide +kernel
theorem dX8_narrow_97 : decode cX8_narrow 97 = .ok (.aload_n 0, 1) := by decide +kernel
theorem dX8_narrow_98 : decode cX8_narrow 98 = .ok (.getfield 21, 3) := by decide +kernel
theorem dX8_narrow_101 : decode cX8_narrow 101 = .ok (.iload 5, 2) := by decide +kernel
theorem dX8_narrow_103 : decode cX8_narrow 103 = .ok (.iaload, 1) := by decide +kernel
theorem dX8_narrow_104 : decode cX8_narrow 104 = .ok (.lload_n 3, 1) := by decide +kernel
theorem dX8_narrow_105 : decode cX8_narrow 105 = .ok (.aload_n 0, 1) := by decide +kernel
theorem dX8_narrow_106 : decode cX8_narrow 106 = .ok (.getfield 18, 3) := by decide +kernel
theorem dX8_narrow_109 : decode cX8_narrow 109 = .ok (.iload 5, 2) := by decide +kernel
theorem dX8_narrow_111 : decode cX8_narrow 111 = .ok (.iaload, 1) := by decide +kernel
theorem dX8_narrow_112 : decode cX8_narrow 112 = .ok (.i2l, 1) := by decide +kernel
theorem dX8_narrow_113 : decode cX8_narrow 113 = .ok (.lmul, 1) := by decide +kernel
theorem dX8_narrow_114 : decode cX8_narrow 114 = .ok (.aload_n 0, 1) := by decide +kernel
theorem dX8_narrow_115 : decode cX8_narrow 115 = .ok (.getfield 24, 3) := by decide +kernel
theorem dX8_narrow_118 : decode cX8_narrow 118 = .ok (.iload 5, 2) := by decide +kernel
theorem dX8_narrow_120 : decode cX8_narrow 120 = .ok (.iaload, 1) := by decide +kernel
theorem dX8_narrow_121 : decode cX8_narrow 121 = .ok (.invokevirtual 46, 3) := by decide +kernel
theorem dX8_narrow_124 : decode cX8_narrow 124 = .ok (.iinc 5 1, 3) := by decide +kernel
theorem dX8_narrow_127 : decode cX8_narrow 127 = .ok (.goto (-112), 3) := by decide +kernel
theorem dX8_narrow_130 : decode cX8_narrow 130 = .ok (.return_, 1) := by decide +kernel
theorem dX8_clip_0 : decode cX8_clip 0 = .ok (.iload_n 1, 1) := by decide +kernel
theorem dX8_clip_1 : decode cX8_clip 1 = .ok (.iconst 1, 1) := by decide +kernel
theorem dX8_clip_2 : decode cX8_clip 2 = .ok (.if_icmp .ge 4, 3) := by decide +kernel
theorem dX8_clip_5 : decode cX8_clip 5 = .ok (.return_, 1) := by decide +kernel
theorem dX8_clip_6 : decode cX8_clip 6 = .ok (.lload_n 2, 1) := by decide +kernel
theorem dX8_clip_7 : decode cX8_clip 7 = .ok (.iload 4, 2) := by decide +kernel
theorem dX8_clip_9 : decode cX8_clip 9 = .ok (.i2l, 1) := by decide +kernel
theorem dX8_clip_10 : decode cX8_clip 10 = .ok (.lcmp, 1) := by decide +kernel
theorem dX8_clip_11 : decode cX8_clip 11 = .ok (.ifCond .le 27, 3) := by decide +kernel
theorem dX8_clip_14 : decode cX8_clip 14 = .ok (.aload_n 0, 1) := by decide +kernel
theorem dX8_clip_15 : decode cX8_clip 15 = .ok (.aload_n 0, 1) := by decide +kernel
theorem dX8_clip_16 : decode cX8_clip 16 = .ok (.getfield 31, 3) := by decide +kernel
theorem dX8_clip_19 : decode cX8_clip 19 = .ok (.lload_n 2, 1) := by decide +kernel
theorem dX8_clip_20 : decode cX8_clip 20 = .ok (.iload 4, 2) := by decide +kernel
theorem dX8_clip_22 : decode cX8_clip 22 = .ok (.i2l, 1) := by decide +kernel
theorem dX8_clip_23 : decode cX8_clip 23 = .ok (.lsub, 1) := by decide +kernel
theorem dX8_clip_24 : decode cX8_clip 24 = .ok (.iload_n 1, 1) := by decide +kernel
theorem dX8_clip_25 : decode cX8_clip 25 = .ok (.i2l, 1) := by decide +kernel
theorem dX8_clip_26 : decode cX8_clip 26 = .ok (.ladd, 1) := by decide +kernel
theorem dX8_clip_27 : decode cX8_clip 27 = .ok (.lconst 1, 1) := by decide +kernel
theorem dX8_clip_28 : decode cX8_clip 28 = .ok (.lsub, 1) := by decide +kernel
theorem dX8_clip_29 : decode cX8_clip 29 = .ok (.iload_n 1, 1) := by decide +kernel
theorem dX8_clip_30 : decode cX8_clip 30 = .ok (.i2l, 1) := by decide +kernel
theorem dX8_clip_31 : decode cX8_clip 31 = .ok (.ldiv, 1) := by decide +kernel
theorem dX8_clip_32 : decode cX8_clip 32 = .ok (.invokestatic 50, 3) := by decide +kernel
theorem dX8_clip_35 : decode cX8_clip 35 = .ok (.putfield 31, 3) := by decide +kernel
theorem dX8_clip_38 : decode cX8_clip 38 = .ok (.aload_n 0, 1) := by decide +kernel
theorem dX8_clip_39 : decode cX8_clip 39 = .ok (.aload_n 0, 1) := by decide +kernel
theorem dX8_clip_40 : decode cX8_clip 40 = .ok (.getfield 37, 3) := by decide +kernel
theorem dX8_clip_43 : decode cX8_clip 43 = .ok (.lload_n 2, 1) := by decide +kernel
theorem dX8_clip_44 : decode cX8_clip 44 = .ok (.iload 4, 2) := by decide +kernel
theorem dX8_clip_46 : decode cX8_clip 46 = .ok (.i2l, 1) := by decide +kernel
theorem dX8_clip_47 : decode cX8_clip 47 = .ok (.ladd, 1) := by decide +kernel
theorem dX8_clip_48 : decode cX8_clip 48 = .ok (.iload_n 1, 1) := by decide +kernel
theorem dX8_clip_49 : decode cX8_clip 49 = .ok (.i2l, 1) := by decide +kernel
theorem dX8_clip_50 : decode cX8_clip 50 = .ok (.ldiv, 1) := by decide +kernel
theorem dX8_clip_51 : decode cX8_clip 51 = .ok (.invokestatic 56, 3) := by decide +kernel
theorem dX8_clip_54 : decode cX8_clip 54 = .ok (.putfield 37, 3) := by decide +kernel
theorem dX8_clip_57 : decode cX8_clip 57 = .ok (.return_, 1) := by decide +kernel
set_option maxRecDepth 20000 in
theorem ggX8_divide_X8_leftAtMost : GoodIn wsX8_divide wsX8_leftAtMost := goodIn_r _ [8, 9, 10, 11, 12, 13, 14, 15, 16, 17, 18, 19, 20, 21, 22, 23, 24, 25, 26, 27] (by decide +kernel) (by decide +kernel)
set_option maxRecDepth 20000 in
theorem gX8_divide_X8_leftAtMost : GoodIn wsX8_divide (wsV RX8 63 RX8 yX8_leftAtMost wsX8_leftAtMost) := goodIn_app (goodIn_of _ (by decide +kernel)) ggX8_divide_X8_leftAtMost
theorem dX8_divide_0 : decode cX8_divide 0 = .ok (.ldc2_w 61, 3) := by decide +kernel
theorem dX8_divide_3 : decode cX8_divide 3 = .ok (.lstore_n 3, 1) := by decide +kernel
theorem dX8_divide_4 : decode cX8_divide 4 = .ok (.iconst 1, 1) := by decide +kernel
theorem dX8_divide_5 : decode cX8_divide 5 = .ok (.istore 5, 2) := by decide +kernel
theorem dX8_divide_7 : decode cX8_divide 7 = .ok (.iload 5, 2) := by decide +kernel
theorem dX8_divide_9 : decode cX8_divide 9 = .ok (.bipush 10, 2) := by decide +kernel
theorem dX8_divide_11 : decode cX8_divide 11 = .ok (.if_icmp .gt 65, 3) := by decide +kernel
theorem dX8_divide_14 : decode cX8_divide 14 = .ok (.iconst 1, 1) := by decide +kernel
theorem dX8_divide_15 : decode cX8_divide 15 = .ok (.istore 6, 2) := by decide +kernel
theorem dX8_divide_17 : decode cX8_divide 17 = .ok (.iload 6, 2) := by decide +kernel
theorem dX8_divide_19 : decode cX8_divide 19 = .ok (.bipush 10, 2) := by decide +kernel
theorem dX8_divide_21 : decode cX8_divide 21 = .ok (.if_icmp .gt 49, 3) := by decide +kernel
theorem dX8_divide_24 : decode cX8_divide 24 = .ok (.aload_n 0, 1) := by decide +kernel
theorem dX8_divide_25 : decode cX8_divide 25 = .ok (.iload 6, 2) := by decide +kernel
theorem dX8_divide_27 : decode cX8_divide 27 = .ok (.i2l, 1) := by decide +kernel
theorem dX8_divide_28 : decode cX8_divide 28 = .ok (.lload_n 1, 1) := by decide +kernel
theorem dX8_divide_29 : decode cX8_divide 29 = .ok (.lmul, 1) := by decide +kernel
theorem dX8_divide_30 : decode cX8_divide 30 = .ok (.iload 5, 2) := by decide +kernel
theorem dX8_divide_32 : decode cX8_divide 32 = .ok (.i2l, 1) := by decide +kernel
theorem dX8_divide_33 : decode cX8_divide 33 = .ok (.ldiv, 1) := by decide +kernel
theorem dX8_divide_34 : decode cX8_divide 34 = .ok (.invokevirtual 63, 3) := by decide +kernel
theorem dX8_divide_37 : decode cX8_divide 37 = .ok (.lstore 7, 2) := by decide +kernel
theorem dX8_divide_39 : decode cX8_divide 39 = .ok (.lload 7, 2) := by decide +kernel
theorem dX8_divide_41 : decode cX8_divide 41 = .ok (.lload_n 3, 1) := by decide +kernel
theorem dX8_divide_42 : decode cX8_divide 42 = .ok (.lcmp, 1) := by decide +kernel
theorem dX8_divide_43 : decode cX8_divide 43 = .ok (.ifCond .lt 6, 3) := by decide +kernel
theorem dX8_divide_46 : decode cX8_divide 46 = .ok (.goto 18, 3) := by decide +kernel
theorem dX8_divide_49 : decode cX8_divide 49 = .ok (.lload 7, 2) := by decide +kernel
theorem dX8_divide_51 : decode cX8_divide 51 = .ok (.lstore_n 3, 1) := by decide +kernel
theorem dX8_divide_52 : decode cX8_divide 52 = .ok (.aload_n 0, 1) := by decide +kernel
theorem dX8_divide_53 : decode cX8_divide 53 = .ok (.iload 5, 2) := by decide +kernel
theorem dX8_divide_55 : decode cX8_divide 55 = .ok (.putfield 40, 3) := by decide +kernel
theorem dX8_divide_58 : decode cX8_divide 58 = .ok (.aload_n 0, 1) := by decide +kernel
theorem dX8_divide_59 : decode cX8_divide 59 = .ok (.iload 6, 2) := by decide +kernel
theorem dX8_divide_61 : decode cX8_divide 61 = .ok (.putfield 43, 3) := by decide +kernel
theorem dX8_divide_64 : decode cX8_divide 64 = .ok (.iinc 6 1, 3) := by decide +kernel
theorem dX8_divide_67 : decode cX8_divide 67 = .ok (.goto (-50), 3) := by decide +kernel
theorem dX8_divide_70 : decode cX8_divide 70 = .ok (.iinc 5 1, 3) := by decide +kernel
theorem dX8_divide_73 : decode cX8_divide 73 = .ok (.goto (-66), 3) := by decide +kernel
theorem dX8_divide_76 : decode cX8_divide 76 = .ok (.return_, 1) := by decide +kernel
theorem dX8_leftAtMost_0 : decode cX8_leftAtMost 0 = .ok (.aload_n 0, 1) := by decide +kernel
theorem dX8_leftAtMost_1 : decode cX8_leftAtMost 1 = .ok (.getfield 37, 3) := by decide +kernel
theorem dX8_leftAtMost_4 : decode cX8_leftAtMost 4 = .ok (.aload_n 0, 1) := by decide +kernel
theorem dX8_leftAtMost_5 : decode cX8_leftAtMost 5 = .ok (.getfield 31, 3) := by decide +kernel
theorem dX8_leftAtMost_8 : decode cX8_leftAtMost 8 = .ok (.lsub, 1) := by decide +kernel
theorem dX8_leftAtMost_9 : decode cX8_leftAtMost 9 = .ok (.lconst 1, 1) := by decide +kernel
theorem dX8_leftAtMost_10 : decode cX8_leftAtMost 10 = .ok (.ladd, 1) := by decide +kernel
theorem dX8_leftAtMost_11 : decode cX8_leftAtMost 11 = .ok (.lstore_n 3, 1) := by decide +kernel
theorem dX8_leftAtMost_12 : decode cX8_leftAtMost 12 = .ok (.lconst 0, 1) := by decide +kernel
theorem dX8_leftAtMost_13 : decode cX8_leftAtMost 13 = .ok (.aload_n 0, 1) := by decide +kernel
theorem dX8_leftAtMost_14 : decode cX8_leftAtMost 14 = .ok (.getfield 37, 3) := by decide +kernel
theorem dX8_leftAtMost_17 : decode cX8_leftAtMost 17 = .ok (.lload_n 1, 1) := by decide +kernel
theorem dX8_leftAtMost_18 : decode cX8_leftAtMost 18 = .ok (.invokestatic 56, 3) := by decide +kernel
theorem dX8_leftAtMost_21 : decode cX8_leftAtMost 21 = .ok (.aload_n 0, 1) := by decide +kernel
theorem dX8_leftAtMost_22 : decode cX8_leftAtMost 22 = .ok (.getfield 31, 3) := by decide +kernel
theorem dX8_leftAtMost_25 : decode cX8_leftAtMost 25 = .ok (.lsub, 1) := by decide +kernel
theorem dX8_leftAtMost_26 : decode cX8_leftAtMost 26 = .ok (.lconst 1, 1) := by decide +kernel
theorem dX8_leftAtMost_27 : decode cX8_leftAtMost 27 = .ok (.ladd, 1) := by decide +kernel
theorem dX8_leftAtMost_28 : decode cX8_leftAtMost 28 = .ok (.invokestatic 50, 3) := by decide +kernel
theorem dX8_leftAtMost_31 : decode cX8_leftAtMost 31 = .ok (.lstore 5, 2) := by decide +kernel
theorem dX8_leftAtMost_33 : decode cX8_leftAtMost 33 = .ok (.lload 5, 2) := by decide +kernel
theorem dX8_leftAtMost_35 : decode cX8_leftAtMost 35 = .ok (.lload_n 3, 1) := by decide +kernel
theorem dX8_leftAtMost_36 : decode cX8_leftAtMost 36 = .ok (.lload 5, 2) := by decide +kernel
theorem dX8_leftAtMost_38 : decode cX8_leftAtMost 38 = .ok (.lsub, 1) := by decide +kernel
theorem dX8_leftAtMost_39 : decode cX8_leftAtMost 39 = .ok (.invokestatic 50, 3) := by decide +kernel
theorem dX8_leftAtMost_42 : decode cX8_leftAtMost 42 = .ok (.lreturn, 1) := by decide +kernel
theorem dX9_init_0 : decode cX9_init 0 = .ok (.aload_n 0, 1) := by decide +kernel
theorem dX9_init_1 : decode cX9_init 1 = .ok (.invokespecial 3, 3) := by decide +kernel
theorem dX9_init_4 : decode cX9_init 4 = .ok (.aload_n 0, 1) := by decide +kernel
theorem dX9_init_5 : decode cX9_init 5 = .ok (.bipush 16, 2) := by decide +kernel
theorem dX9_init_7 : decode cX9_init 7 = .ok (.newarray .int, 2) := by decide +kernel
theorem dX9_init_9 : decode cX9_init 9 = .ok (.putfield 9, 3) := by decide +kernel
theorem dX9_init_12 : decode cX9_init 12 = .ok (.aload_n 0, 1) := by decide +kernel
theorem dX9_init_13 : decode cX9_init 13 = .ok (.bipush 16, 2) := by decide +kernel
theorem dX9_init_15 : decode cX9_init 15 = .ok (.newarray .int, 2) := by decide +kernel
theorem dX9_init_17 : decode cX9_init 17 = .ok (.putfield 15, 3) := by decide +kernel
theorem dX9_init_20 : decode cX9_init 20 = .ok (.aload_n 0, 1) := by decide +kernel
theorem dX9_init_21 : decode cX9_init 21 = .ok (.bipush 16, 2) := by decide +kernel
theorem dX9_init_23 : decode cX9_init 23 = .ok (.newarray .int, 2) := by decide +kernel
theorem dX9_init_25 : decode cX9_init 25 = .ok (.putfield 18, 3) := by decide +kernel
theorem dX9_init_28 : decode cX9_init 28 = .ok (.aload_n 0, 1) := by decide +kernel
theorem dX9_init_29 : decode cX9_init 29 = .ok (.iconst 0, 1) := by decide +kernel
theorem dX9_init_30 : decode cX9_init 30 = .ok (.putfield 21, 3) := by decide +kernel
theorem dX9_init_33 : decode cX9_init 33 = .ok (.return_, 1) := by decide +kernel
theorem dX9_add_0 : decode cX9_add 0 = .ok (.aload_n 0, 1) := by decide +kernel
theorem dX9_add_1 : decode cX9_add 1 = .ok (.getfield 9, 3) := by decide +kernel
theorem dX9_add_4 : decode cX9_add 4 = .ok (.aload_n 0, 1) := by decide +kernel
theorem dX9_add_5 : decode cX9_add 5 = .ok (.getfield 21, 3) := by decide +kernel
theorem dX9_add_8 : decode cX9_add 8 = .ok (.iload_n 1, 1) := by decide +kernel
theorem dX9_add_9 : decode cX9_add 9 = .ok (.iastore, 1) := by decide +kernel
