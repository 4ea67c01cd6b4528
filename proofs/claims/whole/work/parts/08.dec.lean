theorem dX11_clear_13 : decode cX11_clear 13 = .ok (.putfield 199, 3) := by decide +kernel
theorem dX11_clear_16 : decode cX11_clear 16 = .ok (.iload_n 1, 1) := by decide +kernel
theorem dX11_clear_17 : decode cX11_clear 17 = .ok (.ireturn, 1) := by decide +kernel
set_option maxRecDepth 20000 in
theorem ggX11_fault_X5_firstFault : GoodIn wsX11_fault wsX5_firstFault := goodIn_r _ [6, 7, 8, 9, 10, 5, 11, 12, 13, 14, 15, 16, 17, 18, 19, 20, 21, 22, 23, 24, 25, 26, 27, 28, 29, 30, 31, 32, 33, 34, 51, 52, 53, 54] (by decide +kernel) (by decide +kernel)
set_option maxRecDepth 20000 in
theorem gX11_fault_X5_firstFault : GoodIn wsX11_fault (wsV RX11 203 RX5 yX5_firstFault wsX5_firstFault) := goodIn_app (goodIn_of _ (by decide +kernel)) ggX11_fault_X5_firstFault
theorem dX11_fault_0 : decode cX11_fault 0 = .ok (.aload_n 0, 1) := by decide +kernel
theorem dX11_fault_1 : decode cX11_fault 1 = .ok (.getfield 47, 3) := by decide +kernel
theorem dX11_fault_4 : decode cX11_fault 4 = .ok (.invokevirtual 203, 3) := by decide +kernel
theorem dX11_fault_7 : decode cX11_fault 7 = .ok (.ireturn, 1) := by decide +kernel
set_option maxRecDepth 20000 in
theorem ggX11_force_X5_firstFault : GoodIn wsX11_force wsX5_firstFault := goodIn_r _ [7, 8, 9, 10, 11, 6, 12, 13, 14, 15, 16, 17, 18, 19, 20, 21, 22, 23, 24, 25, 26, 27, 28, 29, 30, 31, 32, 33, 34, 35, 67, 68, 69, 70] (by decide +kernel) (by decide +kernel)
set_option maxRecDepth 20000 in
theorem gX11_force_X5_firstFault : GoodIn wsX11_force (wsV RX11 203 RX5 yX5_firstFault wsX5_firstFault) := goodIn_app (goodIn_of _ (by decide +kernel)) ggX11_force_X5_firstFault
set_option maxRecDepth 20000 in
theorem ggX11_force_X0_take : GoodIn wsX11_force wsX0_take := goodIn_r _ [40, 41, 42, 43, 44, 45, 46, 47, 48, 49, 50, 10, 11, 6, 12, 13, 14, 15, 16, 17, 8, 18, 19, 20, 21, 22, 23, 24, 25, 26, 27, 28, 29, 30, 31, 32, 33, 34, 35, 71, 72, 73, 74, 75, 76, 77, 78, 67, 68, 69, 70] (by decide +kernel) (by decide +kernel)
set_option maxRecDepth 20000 in
theorem gX11_force_X0_take : GoodIn wsX11_force (wsV RX11 207 RX0 yX0_take wsX0_take) := goodIn_app (goodIn_of _ (by decide +kernel)) ggX11_force_X0_take
theorem dX11_force_0 : decode cX11_force 0 = .ok (.aload_n 0, 1) := by decide +kernel
theorem dX11_force_1 : decode cX11_force 1 = .ok (.getfield 47, 3) := by decide +kernel
theorem dX11_force_4 : decode cX11_force 4 = .ok (.invokevirtual 203, 3) := by decide +kernel
theorem dX11_force_7 : decode cX11_force 7 = .ok (.bipush (-4), 2) := by decide +kernel
theorem dX11_force_9 : decode cX11_force 9 = .ok (.if_icmp .eq 6, 3) := by decide +kernel
theorem dX11_force_12 : decode cX11_force 12 = .ok (.bipush (-2), 2) := by decide +kernel
theorem dX11_force_14 : decode cX11_force 14 = .ok (.ireturn, 1) := by decide +kernel
theorem dX11_force_15 : decode cX11_force 15 = .ok (.aload_n 0, 1) := by decide +kernel
theorem dX11_force_16 : decode cX11_force 16 = .ok (.getfield 54, 3) := by decide +kernel
theorem dX11_force_19 : decode cX11_force 19 = .ok (.aload_n 0, 1) := by decide +kernel
theorem dX11_force_20 : decode cX11_force 20 = .ok (.getfield 47, 3) := by decide +kernel
theorem dX11_force_23 : decode cX11_force 23 = .ok (.invokevirtual 207, 3) := by decide +kernel
theorem dX11_force_26 : decode cX11_force 26 = .ok (.ireturn, 1) := by decide +kernel
set_option maxRecDepth 20000 in
theorem ggX11_let_X11_isUnitNumber : GoodIn wsX11_let wsX11_isUnitNumber := goodIn_r _ [5, 6, 7, 4, 8] (by decide +kernel) (by decide +kernel)
set_option maxRecDepth 20000 in
theorem gX11_let_X11_isUnitNumber : GoodIn wsX11_let (va_wsS RX11 211 yX11_isUnitNumber wsX11_isUnitNumber) := goodIn_app (goodIn_of _ (by decide +kernel)) ggX11_let_X11_isUnitNumber
set_option maxRecDepth 20000 in
theorem ggX11_let_X11_isDistrict : GoodIn wsX11_let wsX11_isDistrict := goodIn_r _ [11, 6, 7, 4, 8] (by decide +kernel) (by decide +kernel)
set_option maxRecDepth 20000 in
theorem gX11_let_X11_isDistrict : GoodIn wsX11_let (va_wsS RX11 214 yX11_isDistrict wsX11_isDistrict) := goodIn_app (goodIn_of _ (by decide +kernel)) ggX11_let_X11_isDistrict
set_option maxRecDepth 20000 in
theorem ggX11_let_X11_isDay : GoodIn wsX11_let wsX11_isDay := goodIn_r _ [14, 6, 7, 4, 8] (by decide +kernel) (by decide +kernel)
set_option maxRecDepth 20000 in
theorem gX11_let_X11_isDay : GoodIn wsX11_let (va_wsS RX11 217 yX11_isDay wsX11_isDay) := goodIn_app (goodIn_of _ (by decide +kernel)) ggX11_let_X11_isDay
set_option maxRecDepth 20000 in
theorem ggX11_let_X0_lets : GoodIn wsX11_let wsX0_lets := goodIn_r _ [19, 20, 21, 22, 23, 18, 24, 25, 26, 27, 28, 29, 30, 31, 32, 33, 34, 35, 36, 37, 54, 55, 56, 57, 58, 59, 60, 61] (by decide +kernel) (by decide +kernel)
set_option maxRecDepth 20000 in
theorem gX11_let_X0_lets : GoodIn wsX11_let (wsV RX11 220 RX0 yX0_lets wsX0_lets) := goodIn_app (goodIn_of _ (by decide +kernel)) ggX11_let_X0_lets
theorem dX11_let_0 : decode cX11_let 0 = .ok (.iload_n 1, 1) := by decide +kernel
theorem dX11_let_1 : decode cX11_let 1 = .ok (.invokestatic 211, 3) := by decide +kernel
theorem dX11_let_4 : decode cX11_let 4 = .ok (.ifCond .eq 17, 3) := by decide +kernel
theorem dX11_let_7 : decode cX11_let 7 = .ok (.iload_n 2, 1) := by decide +kernel
theorem dX11_let_8 : decode cX11_let 8 = .ok (.invokestatic 214, 3) := by decide +kernel
theorem dX11_let_11 : decode cX11_let 11 = .ok (.ifCond .eq 10, 3) := by decide +kernel
theorem dX11_let_14 : decode cX11_let 14 = .ok (.iload_n 3, 1) := by decide +kernel
theorem dX11_let_15 : decode cX11_let 15 = .ok (.invokestatic 217, 3) := by decide +kernel
theorem dX11_let_18 : decode cX11_let 18 = .ok (.ifCond .ne 5, 3) := by decide +kernel
theorem dX11_let_21 : decode cX11_let 21 = .ok (.iconst (-1), 1) := by decide +kernel
theorem dX11_let_22 : decode cX11_let 22 = .ok (.ireturn, 1) := by decide +kernel
theorem dX11_let_23 : decode cX11_let 23 = .ok (.aload_n 0, 1) := by decide +kernel
theorem dX11_let_24 : decode cX11_let 24 = .ok (.getfield 54, 3) := by decide +kernel
theorem dX11_let_27 : decode cX11_let 27 = .ok (.iload_n 1, 1) := by decide +kernel
theorem dX11_let_28 : decode cX11_let 28 = .ok (.iload_n 2, 1) := by decide +kernel
theorem dX11_let_29 : decode cX11_let 29 = .ok (.iload_n 3, 1) := by decide +kernel
theorem dX11_let_30 : decode cX11_let 30 = .ok (.invokevirtual 220, 3) := by decide +kernel
theorem dX11_let_33 : decode cX11_let 33 = .ok (.ifCond .eq 7, 3) := by decide +kernel
theorem dX11_let_36 : decode cX11_let 36 = .ok (.iconst 1, 1) := by decide +kernel
theorem dX11_let_37 : decode cX11_let 37 = .ok (.goto 4, 3) := by decide +kernel
theorem dX11_let_40 : decode cX11_let 40 = .ok (.iconst 0, 1) := by decide +kernel
theorem dX11_let_41 : decode cX11_let 41 = .ok (.ireturn, 1) := by decide +kernel
set_option maxRecDepth 20000 in
theorem ggX11_why_X11_isUnitNumber : GoodIn wsX11_why wsX11_isUnitNumber := goodIn_r _ [5, 6, 7, 4, 8] (by decide +kernel) (by decide +kernel)
set_option maxRecDepth 20000 in
theorem gX11_why_X11_isUnitNumber : GoodIn wsX11_why (va_wsS RX11 211 yX11_isUnitNumber wsX11_isUnitNumber) := goodIn_app (goodIn_of _ (by decide +kernel)) ggX11_why_X11_isUnitNumber
set_option maxRecDepth 20000 in
theorem ggX11_why_X11_isDistrict : GoodIn wsX11_why wsX11_isDistrict := goodIn_r _ [11, 6, 7, 4, 8] (by decide +kernel) (by decide +kernel)
set_option maxRecDepth 20000 in
theorem gX11_why_X11_isDistrict : GoodIn wsX11_why (va_wsS RX11 214 yX11_isDistrict wsX11_isDistrict) := goodIn_app (goodIn_of _ (by decide +kernel)) ggX11_why_X11_isDistrict
set_option maxRecDepth 20000 in
theorem ggX11_why_X11_isDay : GoodIn wsX11_why wsX11_isDay := goodIn_r _ [14, 6, 7, 4, 8] (by decide +kernel) (by decide +kernel)
set_option maxRecDepth 20000 in
theorem gX11_why_X11_isDay : GoodIn wsX11_why (va_wsS RX11 217 yX11_isDay wsX11_isDay) := goodIn_app (goodIn_of _ (by decide +kernel)) ggX11_why_X11_isDay
set_option maxRecDepth 20000 in
theorem ggX11_why_X0_ruling : GoodIn wsX11_why wsX0_ruling := goodIn_r _ [19, 20, 21, 22, 23, 18, 24, 25, 26, 27, 28, 29, 30, 31, 32, 33, 50, 51, 52, 53, 54, 55, 56, 57] (by decide +kernel) (by decide +kernel)
set_option maxRecDepth 20000 in
theorem gX11_why_X0_ruling : GoodIn wsX11_why (wsV RX11 223 RX0 yX0_ruling wsX0_ruling) := goodIn_app (goodIn_of _ (by decide +kernel)) ggX11_why_X0_ruling
theorem dX11_why_0 : decode cX11_why 0 = .ok (.iload_n 1, 1) := by decide +kernel
theorem dX11_why_1 : decode cX11_why 1 = .ok (.invokestatic 211, 3) := by decide +kernel
theorem dX11_why_4 : decode cX11_why 4 = .ok (.ifCond .eq 17, 3) := by decide +kernel
theorem dX11_why_7 : decode cX11_why 7 = .ok (.iload_n 2, 1) := by decide +kernel
theorem dX11_why_8 : decode cX11_why 8 = .ok (.invokestatic 214, 3) := by decide +kernel
theorem dX11_why_11 : decode cX11_why 11 = .ok (.ifCond .eq 10, 3) := by decide +kernel
theorem dX11_why_14 : decode cX11_why 14 = .ok (.iload_n 3, 1) := by decide +kernel
theorem dX11_why_15 : decode cX11_why 15 = .ok (.invokestatic 217, 3) := by decide +kernel
theorem dX11_why_18 : decode cX11_why 18 = .ok (.ifCond .ne 5, 3) := by decide +kernel
theorem dX11_why_21 : decode cX11_why 21 = .ok (.iconst (-1), 1) := by decide +kernel
theorem dX11_why_22 : decode cX11_why 22 = .ok (.ireturn, 1) := by decide +kernel
theorem dX11_why_23 : decode cX11_why 23 = .ok (.aload_n 0, 1) := by decide +kernel
theorem dX11_why_24 : decode cX11_why 24 = .ok (.getfield 54, 3) := by decide +kernel
theorem dX11_why_27 : decode cX11_why 27 = .ok (.iload_n 1, 1) := by decide +kernel
theorem dX11_why_28 : decode cX11_why 28 = .ok (.iload_n 2, 1) := by decide +kernel
theorem dX11_why_29 : decode cX11_why 29 = .ok (.iload_n 3, 1) := by decide +kernel
theorem dX11_why_30 : decode cX11_why 30 = .ok (.invokevirtual 223, 3) := by decide +kernel
theorem dX11_why_33 : decode cX11_why 33 = .ok (.ireturn, 1) := by decide +kernel
set_option maxRecDepth 20000 in
theorem ggX11_quarrels_X11_isUnitNumber : GoodIn wsX11_quarrels wsX11_isUnitNumber := goodIn_r _ [7, 8, 9, 6, 10] (by decide +kernel) (by decide +kernel)
set_option maxRecDepth 20000 in
theorem gX11_quarrels_X11_isUnitNumber : GoodIn wsX11_quarrels (va_wsS RX11 211 yX11_isUnitNumber wsX11_isUnitNumber) := goodIn_app (goodIn_of _ (by decide +kernel)) ggX11_quarrels_X11_isUnitNumber
set_option maxRecDepth 20000 in
theorem ggX11_quarrels_X11_isDistrict : GoodIn wsX11_quarrels wsX11_isDistrict := goodIn_r _ [13, 8, 9, 6, 10] (by decide +kernel) (by decide +kernel)
set_option maxRecDepth 20000 in
theorem gX11_quarrels_X11_isDistrict : GoodIn wsX11_quarrels (va_wsS RX11 214 yX11_isDistrict wsX11_isDistrict) := goodIn_app (goodIn_of _ (by decide +kernel)) ggX11_quarrels_X11_isDistrict
set_option maxRecDepth 20000 in
theorem ggX11_quarrels_X11_within : GoodIn wsX11_quarrels wsX11_within := goodIn_r _ [10] (by decide +kernel) (by decide +kernel)
set_option maxRecDepth 20000 in
theorem gX11_quarrels_X11_within : GoodIn wsX11_quarrels (va_wsS RX11 105 yX11_within wsX11_within) := goodIn_app (goodIn_of _ (by decide +kernel)) ggX11_quarrels_X11_within
set_option maxRecDepth 20000 in
theorem ggX11_quarrels_X0_findQuarrels : GoodIn wsX11_quarrels wsX0_findQuarrels := goodIn_r _ [18, 19, 20, 21, 22, 23, 17, 24, 25, 26, 27, 28, 29, 30, 31, 32, 33, 34, 35, 36, 37, 38, 39, 40, 41, 42, 43, 44, 45, 46, 63, 64, 65, 66, 67, 68, 69, 70] (by decide +kernel) (by decide +kernel)
set_option maxRecDepth 20000 in
theorem gX11_quarrels_X0_findQuarrels : GoodIn wsX11_quarrels (wsV RX11 226 RX0 yX0_findQuarrels wsX0_findQuarrels) := goodIn_app (goodIn_of _ (by decide +kernel)) ggX11_quarrels_X0_findQuarrels
theorem dX11_quarrels_0 : decode cX11_quarrels 0 = .ok (.iload_n 1, 1) := by decide +kernel
theorem dX11_quarrels_1 : decode cX11_quarrels 1 = .ok (.invokestatic 211, 3) := by decide +kernel
theorem dX11_quarrels_4 : decode cX11_quarrels 4 = .ok (.ifCond .eq 19, 3) := by decide +kernel
theorem dX11_quarrels_7 : decode cX11_quarrels 7 = .ok (.iload_n 2, 1) := by decide +kernel
theorem dX11_quarrels_8 : decode cX11_quarrels 8 = .ok (.invokestatic 214, 3) := by decide +kernel
theorem dX11_quarrels_11 : decode cX11_quarrels 11 = .ok (.ifCond .eq 12, 3) := by decide +kernel
theorem dX11_quarrels_14 : decode cX11_quarrels 14 = .ok (.iload_n 3, 1) := by decide +kernel
theorem dX11_quarrels_15 : decode cX11_quarrels 15 = .ok (.iconst 0, 1) := by decide +kernel
theorem dX11_quarrels_16 : decode cX11_quarrels 16 = .ok (.iconst 1, 1) := by decide +kernel
theorem dX11_quarrels_17 : decode cX11_quarrels 17 = .ok (.invokestatic 105, 3) := by decide +kernel
theorem dX11_quarrels_20 : decode cX11_quarrels 20 = .ok (.ifCond .ne 5, 3) := by decide +kernel
theorem dX11_quarrels_23 : decode cX11_quarrels 23 = .ok (.iconst (-1), 1) := by decide +kernel
theorem dX11_quarrels_24 : decode cX11_quarrels 24 = .ok (.ireturn, 1) := by decide +kernel
theorem dX11_quarrels_25 : decode cX11_quarrels 25 = .ok (.aload_n 0, 1) := by decide +kernel
theorem dX11_quarrels_26 : decode cX11_quarrels 26 = .ok (.getfield 54, 3) := by decide +kernel
theorem dX11_quarrels_29 : decode cX11_quarrels 29 = .ok (.iload_n 1, 1) := by decide +kernel
theorem dX11_quarrels_30 : decode cX11_quarrels 30 = .ok (.iload_n 2, 1) := by decide +kernel
theorem dX11_quarrels_31 : decode cX11_quarrels 31 = .ok (.invokevirtual 226, 3) := by decide +kernel
theorem dX11_quarrels_34 : decode cX11_quarrels 34 = .ok (.iload_n 3, 1) := by decide +kernel
theorem dX11_quarrels_35 : decode cX11_quarrels 35 = .ok (.ifCond .ne 13, 3) := by decide +kernel
theorem dX11_quarrels_38 : decode cX11_quarrels 38 = .ok (.aload_n 0, 1) := by decide +kernel
theorem dX11_quarrels_39 : decode cX11_quarrels 39 = .ok (.getfield 54, 3) := by decide +kernel
theorem dX11_quarrels_42 : decode cX11_quarrels 42 = .ok (.getfield 230, 3) := by decide +kernel
theorem dX11_quarrels_45 : decode cX11_quarrels 45 = .ok (.goto 10, 3) := by decide +kernel
theorem dX11_quarrels_48 : decode cX11_quarrels 48 = .ok (.aload_n 0, 1) := by decide +kernel
theorem dX11_quarrels_49 : decode cX11_quarrels 49 = .ok (.getfield 54, 3) := by decide +kernel
theorem dX11_quarrels_52 : decode cX11_quarrels 52 = .ok (.getfield 233, 3) := by decide +kernel
theorem dX11_quarrels_55 : decode cX11_quarrels 55 = .ok (.ireturn, 1) := by decide +kernel
set_option maxRecDepth 20000 in
theorem ggX11_means_X11_within : GoodIn wsX11_means wsX11_within := goodIn_r _ [5] (by decide +kernel) (by decide +kernel)
set_option maxRecDepth 20000 in
theorem gX11_means_X11_within : GoodIn wsX11_means (va_wsS RX11 105 yX11_within wsX11_within) := goodIn_app (goodIn_of _ (by decide +kernel)) ggX11_means_X11_within
set_option maxRecDepth 20000 in
theorem ggX11_means_X11_isDistrict : GoodIn wsX11_means wsX11_isDistrict := goodIn_r _ [8, 2, 3, 4, 5] (by decide +kernel) (by decide +kernel)
set_option maxRecDepth 20000 in
theorem gX11_means_X11_isDistrict : GoodIn wsX11_means (va_wsS RX11 214 yX11_isDistrict wsX11_isDistrict) := goodIn_app (goodIn_of _ (by decide +kernel)) ggX11_means_X11_isDistrict
set_option maxRecDepth 20000 in
theorem ggX11_means_X11_isDay : GoodIn wsX11_means wsX11_isDay := goodIn_r _ [11, 2, 3, 4, 5] (by decide +kernel) (by decide +kernel)
set_option maxRecDepth 20000 in
theorem gX11_means_X11_isDay : GoodIn wsX11_means (va_wsS RX11 217 yX11_isDay wsX11_isDay) := goodIn_app (goodIn_of _ (by decide +kernel)) ggX11_means_X11_isDay
set_option maxRecDepth 20000 in
theorem ggX11_means_X0_meanings : GoodIn wsX11_means wsX0_meanings := goodIn_r _ [16, 17, 18, 19, 20, 21, 15, 22, 23, 24, 25, 26, 68, 69, 70, 71, 72, 73, 74, 75] (by decide +kernel) (by decide +kernel)
set_option maxRecDepth 20000 in
theorem gX11_means_X0_meanings : GoodIn wsX11_means (wsV RX11 236 RX0 yX0_meanings wsX0_meanings) := goodIn_app (goodIn_of _ (by decide +kernel)) ggX11_means_X0_meanings
set_option maxRecDepth 20000 in
theorem ggX11_means_X0_surely : GoodIn wsX11_means wsX0_surely := goodIn_r _ [30, 18, 31, 32, 33, 15, 34, 17, 26, 19, 20, 21, 22, 23, 24, 25, 35, 13, 14, 16, 36, 37, 38, 39, 40, 41, 42, 43, 44, 45, 46, 47, 48, 49, 50, 51, 68, 69, 70, 71, 72, 73, 74, 75] (by decide +kernel) (by decide +kernel)
set_option maxRecDepth 20000 in
theorem gX11_means_X0_surely : GoodIn wsX11_means (wsV RX11 239 RX0 yX0_surely wsX0_surely) := goodIn_app (goodIn_of _ (by decide +kernel)) ggX11_means_X0_surely
theorem dX11_means_0 : decode cX11_means 0 = .ok (.iload_n 1, 1) := by decide +kernel
theorem dX11_means_1 : decode cX11_means 1 = .ok (.iconst 0, 1) := by decide +kernel
theorem dX11_means_2 : decode cX11_means 2 = .ok (.bipush 9, 2) := by decide +kernel
theorem dX11_means_4 : decode cX11_means 4 = .ok (.invokestatic 105, 3) := by decide +kernel
theorem dX11_means_7 : decode cX11_means 7 = .ok (.ifCond .eq 10, 3) := by decide +kernel
theorem dX11_means_10 : decode cX11_means 10 = .ok (.iload_n 2, 1) := by decide +kernel
theorem dX11_means_11 : decode cX11_means 11 = .ok (.invokestatic 214, 3) := by decide +kernel
theorem dX11_means_14 : decode cX11_means 14 = .ok (.ifCond .ne 5, 3) := by decide +kernel
theorem dX11_means_17 : decode cX11_means 17 = .ok (.iconst (-1), 1) := by decide +kernel
theorem dX11_means_18 : decode cX11_means 18 = .ok (.ireturn, 1) := by decide +kernel
theorem dX11_means_19 : decode cX11_means 19 = .ok (.iload_n 3, 1) := by decide +kernel
theorem dX11_means_20 : decode cX11_means 20 = .ok (.invokestatic 217, 3) := by decide +kernel
theorem dX11_means_23 : decode cX11_means 23 = .ok (.ifCond .eq 13, 3) := by decide +kernel
theorem dX11_means_26 : decode cX11_means 26 = .ok (.iload 4, 2) := by decide +kernel
theorem dX11_means_28 : decode cX11_means 28 = .ok (.iconst 0, 1) := by decide +kernel
theorem dX11_means_29 : decode cX11_means 29 = .ok (.iconst 1, 1) := by decide +kernel
theorem dX11_means_30 : decode cX11_means 30 = .ok (.invokestatic 105, 3) := by decide +kernel
theorem dX11_means_33 : decode cX11_means 33 = .ok (.ifCond .ne 5, 3) := by decide +kernel
theorem dX11_means_36 : decode cX11_means 36 = .ok (.iconst (-1), 1) := by decide +kernel
theorem dX11_means_37 : decode cX11_means 37 = .ok (.ireturn, 1) := by decide +kernel
theorem dX11_means_38 : decode cX11_means 38 = .ok (.iload 4, 2) := by decide +kernel
theorem dX11_means_40 : decode cX11_means 40 = .ok (.ifCond .ne 16, 3) := by decide +kernel
theorem dX11_means_43 : decode cX11_means 43 = .ok (.aload_n 0, 1) := by decide +kernel
theorem dX11_means_44 : decode cX11_means 44 = .ok (.getfield 54, 3) := by decide +kernel
theorem dX11_means_47 : decode cX11_means 47 = .ok (.iload_n 1, 1) := by decide +kernel
theorem dX11_means_48 : decode cX11_means 48 = .ok (.iload_n 2, 1) := by decide +kernel
theorem dX11_means_49 : decode cX11_means 49 = .ok (.iload_n 3, 1) := by decide +kernel
theorem dX11_means_50 : decode cX11_means 50 = .ok (.invokevirtual 236, 3) := by decide +kernel
theorem dX11_means_53 : decode cX11_means 53 = .ok (.goto 13, 3) := by decide +kernel
theorem dX11_means_56 : decode cX11_means 56 = .ok (.aload_n 0, 1) := by decide +kernel
theorem dX11_means_57 : decode cX11_means 57 = .ok (.getfield 54, 3) := by decide +kernel
theorem dX11_means_60 : decode cX11_means 60 = .ok (.iload_n 1, 1) := by decide +kernel
theorem dX11_means_61 : decode cX11_means 61 = .ok (.iload_n 2, 1) := by decide +kernel
theorem dX11_means_62 : decode cX11_means 62 = .ok (.iload_n 3, 1) := by decide +kernel
theorem dX11_means_63 : decode cX11_means 63 = .ok (.invokevirtual 239, 3) := by decide +kernel
theorem dX11_means_66 : decode cX11_means 66 = .ok (.ireturn, 1) := by decide +kernel
set_option maxRecDepth 20000 in
theorem ggX11_paper_X11_isDistrict : GoodIn wsX11_paper wsX11_isDistrict := goodIn_r _ [7, 8, 9, 6, 10] (by decide +kernel) (by decide +kernel)
set_option maxRecDepth 20000 in
theorem gX11_paper_X11_isDistrict : GoodIn wsX11_paper (va_wsS RX11 214 yX11_isDistrict wsX11_isDistrict) := goodIn_app (goodIn_of _ (by decide +kernel)) ggX11_paper_X11_isDistrict
set_option maxRecDepth 20000 in
theorem ggX11_paper_X11_within : GoodIn wsX11_paper wsX11_within := goodIn_r _ [10] (by decide +kernel) (by decide +kernel)
set_option maxRecDepth 20000 in
theorem gX11_paper_X11_within : GoodIn wsX11_paper (va_wsS RX11 105 yX11_within wsX11_within) := goodIn_app (goodIn_of _ (by decide +kernel)) ggX11_paper_X11_within
set_option maxRecDepth 20000 in
theorem ggX11_paper_X11_isDay : GoodIn wsX11_paper wsX11_isDay := goodIn_r _ [13, 8, 9, 6, 10] (by decide +kernel) (by decide +kernel)
set_option maxRecDepth 20000 in
theorem gX11_paper_X11_isDay : GoodIn wsX11_paper (va_wsS RX11 217 yX11_isDay wsX11_isDay) := goodIn_app (goodIn_of _ (by decide +kernel)) ggX11_paper_X11_isDay
set_option maxRecDepth 20000 in
theorem ggX11_paper_X3_add : GoodIn wsX11_paper wsX3_add := goodIn_r _ [18, 19, 20, 21, 22, 23, 24, 41, 42, 43, 44, 45, 46, 47, 48, 49] (by decide +kernel) (by decide +kernel)
set_option maxRecDepth 20000 in
theorem gX11_paper_X3_add : GoodIn wsX11_paper (wsV RX11 243 RX3 yX3_add wsX3_add) := goodIn_app (goodIn_of _ (by decide +kernel)) ggX11_paper_X3_add
theorem dX11_paper_0 : decode cX11_paper 0 = .ok (.iload_n 1, 1) := by decide +kernel
theorem dX11_paper_1 : decode cX11_paper 1 = .ok (.invokestatic 214, 3) := by decide +kernel
theorem dX11_paper_4 : decode cX11_paper 4 = .ok (.ifCond .eq 20, 3) := by decide +kernel
theorem dX11_paper_7 : decode cX11_paper 7 = .ok (.iload_n 2, 1) := by decide +kernel
theorem dX11_paper_8 : decode cX11_paper 8 = .ok (.iconst 0, 1) := by decide +kernel
theorem dX11_paper_9 : decode cX11_paper 9 = .ok (.bipush 9, 2) := by decide +kernel
theorem dX11_paper_11 : decode cX11_paper 11 = .ok (.invokestatic 105, 3) := by decide +kernel
theorem dX11_paper_14 : decode cX11_paper 14 = .ok (.ifCond .eq 10, 3) := by decide +kernel
theorem dX11_paper_17 : decode cX11_paper 17 = .ok (.iload_n 3, 1) := by decide +kernel
theorem dX11_paper_18 : decode cX11_paper 18 = .ok (.invokestatic 217, 3) := by decide +kernel
theorem dX11_paper_21 : decode cX11_paper 21 = .ok (.ifCond .ne 5, 3) := by decide +kernel
theorem dX11_paper_24 : decode cX11_paper 24 = .ok (.iconst (-1), 1) := by decide +kernel
theorem dX11_paper_25 : decode cX11_paper 25 = .ok (.ireturn, 1) := by decide +kernel
theorem dX11_paper_26 : decode cX11_paper 26 = .ok (.iload 4, 2) := by decide +kernel
theorem dX11_paper_28 : decode cX11_paper 28 = .ok (.iconst 1, 1) := by decide +kernel
theorem dX11_paper_29 : decode cX11_paper 29 = .ok (.ldc 109, 2) := by decide +kernel
theorem dX11_paper_31 : decode cX11_paper 31 = .ok (.invokestatic 105, 3) := by decide +kernel
theorem dX11_paper_34 : decode cX11_paper 34 = .ok (.ifCond .eq 13, 3) := by decide +kernel
theorem dX11_paper_37 : decode cX11_paper 37 = .ok (.iload 5, 2) := by decide +kernel
theorem dX11_paper_39 : decode cX11_paper 39 = .ok (.iconst 0, 1) := by decide +kernel
theorem dX11_paper_40 : decode cX11_paper 40 = .ok (.iconst 2, 1) := by decide +kernel
theorem dX11_paper_41 : decode cX11_paper 41 = .ok (.invokestatic 105, 3) := by decide +kernel
theorem dX11_paper_44 : decode cX11_paper 44 = .ok (.ifCond .ne 5, 3) := by decide +kernel
theorem dX11_paper_47 : decode cX11_paper 47 = .ok (.iconst (-1), 1) := by decide +kernel
theorem dX11_paper_48 : decode cX11_paper 48 = .ok (.ireturn, 1) := by decide +kernel
theorem dX11_paper_49 : decode cX11_paper 49 = .ok (.aload_n 0, 1) := by decide +kernel
theorem dX11_paper_50 : decode cX11_paper 50 = .ok (.getfield 61, 3) := by decide +kernel
theorem dX11_paper_53 : decode cX11_paper 53 = .ok (.getfield 242, 3) := by decide +kernel
theorem dX11_paper_56 : decode cX11_paper 56 = .ok (.bipush 10, 2) := by decide +kernel
theorem dX11_paper_58 : decode cX11_paper 58 = .ok (.if_icmp .lt 6, 3) := by decide +kernel
theorem dX11_paper_61 : decode cX11_paper 61 = .ok (.bipush (-3), 2) := by decide +kernel
theorem dX11_paper_63 : decode cX11_paper 63 = .ok (.ireturn, 1) := by decide +kernel
theorem dX11_paper_64 : decode cX11_paper 64 = .ok (.aload_n 0, 1) := by decide +kernel
theorem dX11_paper_65 : decode cX11_paper 65 = .ok (.getfield 61, 3) := by decide +kernel
theorem dX11_paper_68 : decode cX11_paper 68 = .ok (.iload_n 1, 1) := by decide +kernel
theorem dX11_paper_69 : decode cX11_paper 69 = .ok (.iload_n 2, 1) := by decide +kernel
theorem dX11_paper_70 : decode cX11_paper 70 = .ok (.iload_n 3, 1) := by decide +kernel
theorem dX11_paper_71 : decode cX11_paper 71 = .ok (.iload 4, 2) := by decide +kernel
theorem dX11_paper_73 : decode cX11_paper 73 = .ok (.iload 5, 2) := by decide +kernel
theorem dX11_paper_75 : decode cX11_paper 75 = .ok (.invokevirtual 243, 3) := by decide +kernel
theorem dX11_paper_78 : decode cX11_paper 78 = .ok (.ireturn, 1) := by decide +kernel
set_option maxRecDepth 20000 in
theorem ggX11_owed_X3_told : GoodIn wsX11_owed wsX3_told := goodIn_r _ [13, 14, 90, 91, 92, 93, 94, 95, 96, 97, 98] (by decide +kernel) (by decide +kernel)
set_option maxRecDepth 20000 in
theorem gX11_owed_X3_told : GoodIn wsX11_owed (wsV RX11 244 RX3 yX3_told wsX3_told) := goodIn_app (goodIn_of _ (by decide +kernel)) ggX11_owed_X3_told
set_option maxRecDepth 20000 in
theorem ggX11_owed_X11_within : GoodIn wsX11_owed wsX11_within := goodIn_r _ [18] (by decide +kernel) (by decide +kernel)
set_option maxRecDepth 20000 in
theorem gX11_owed_X11_within : GoodIn wsX11_owed (va_wsS RX11 105 yX11_within wsX11_within) := goodIn_app (goodIn_of _ (by decide +kernel)) ggX11_owed_X11_within
set_option maxRecDepth 20000 in
theorem ggX11_owed_X3_reckon : GoodIn wsX11_owed wsX3_reckon := goodIn_r _ [22, 23, 24, 25, 26, 27, 28, 29, 30, 31, 32, 33, 34, 35, 36, 37, 38, 39, 40, 41, 42, 43, 44, 45, 46, 47, 48, 49, 50, 12, 51, 52, 53, 54, 55, 56, 57, 58, 59, 60, 61, 62, 63, 64, 65, 66, 67, 68, 69, 70, 71, 72, 73, 90, 91, 92, 93, 94, 95, 96, 97, 98, 99, 100, 101, 102, 103, 104, 105, 106, 107, 108, 109, 110] (by decide +kernel) (by decide +kernel)
set_option maxRecDepth 20000 in
theorem gX11_owed_X3_reckon : GoodIn wsX11_owed (wsV RX11 248 RX3 yX3_reckon wsX3_reckon) := goodIn_app (goodIn_of _ (by decide +kernel)) ggX11_owed_X3_reckon
theorem dX11_owed_0 : decode cX11_owed 0 = .ok (.aload_n 0, 1) := by decide +kernel
theorem dX11_owed_1 : decode cX11_owed 1 = .ok (.getfield 61, 3) := by decide +kernel
theorem dX11_owed_4 : decode cX11_owed 4 = .ok (.iload_n 1, 1) := by decide +kernel
theorem dX11_owed_5 : decode cX11_owed 5 = .ok (.invokevirtual 244, 3) := by decide +kernel
theorem dX11_owed_8 : decode cX11_owed 8 = .ok (.ifCond .eq 23, 3) := by decide +kernel
theorem dX11_owed_11 : decode cX11_owed 11 = .ok (.iload_n 2, 1) := by decide +kernel
theorem dX11_owed_12 : decode cX11_owed 12 = .ok (.iconst (-1), 1) := by decide +kernel
theorem dX11_owed_13 : decode cX11_owed 13 = .ok (.sipush 9999, 3) := by decide +kernel
theorem dX11_owed_16 : decode cX11_owed 16 = .ok (.invokestatic 105, 3) := by decide +kernel
theorem dX11_owed_19 : decode cX11_owed 19 = .ok (.ifCond .eq 12, 3) := by decide +kernel
theorem dX11_owed_22 : decode cX11_owed 22 = .ok (.iload_n 3, 1) := by decide +kernel
theorem dX11_owed_23 : decode cX11_owed 23 = .ok (.iconst 0, 1) := by decide +kernel
theorem dX11_owed_24 : decode cX11_owed 24 = .ok (.iconst 1, 1) := by decide +kernel
theorem dX11_owed_25 : decode cX11_owed 25 = .ok (.invokestatic 105, 3) := by decide +kernel
theorem dX11_owed_28 : decode cX11_owed 28 = .ok (.ifCond .ne 7, 3) := by decide +kernel
theorem dX11_owed_31 : decode cX11_owed 31 = .ok (.ldc2_w 133, 3) := by decide +kernel
theorem dX11_owed_34 : decode cX11_owed 34 = .ok (.lreturn, 1) := by decide +kernel
theorem dX11_owed_35 : decode cX11_owed 35 = .ok (.iload_n 2, 1) := by decide +kernel
theorem dX11_owed_36 : decode cX11_owed 36 = .ok (.iconst (-1), 1) := by decide +kernel
theorem dX11_owed_37 : decode cX11_owed 37 = .ok (.if_icmp .ne 15, 3) := by decide +kernel
theorem dX11_owed_40 : decode cX11_owed 40 = .ok (.aload_n 0, 1) := by decide +kernel
theorem dX11_owed_41 : decode cX11_owed 41 = .ok (.getfield 61, 3) := by decide +kernel
theorem dX11_owed_44 : decode cX11_owed 44 = .ok (.getfield 245, 3) := by decide +kernel
theorem dX11_owed_47 : decode cX11_owed 47 = .ok (.iload_n 1, 1) := by decide +kernel
theorem dX11_owed_48 : decode cX11_owed 48 = .ok (.iaload, 1) := by decide +kernel
theorem dX11_owed_49 : decode cX11_owed 49 = .ok (.goto 4, 3) := by decide +kernel
theorem dX11_owed_52 : decode cX11_owed 52 = .ok (.iload_n 2, 1) := by decide +kernel
theorem dX11_owed_53 : decode cX11_owed 53 = .ok (.istore 4, 2) := by decide +kernel
theorem dX11_owed_55 : decode cX11_owed 55 = .ok (.aload_n 0, 1) := by decide +kernel
theorem dX11_owed_56 : decode cX11_owed 56 = .ok (.getfield 61, 3) := by decide +kernel
theorem dX11_owed_59 : decode cX11_owed 59 = .ok (.iload_n 1, 1) := by decide +kernel
theorem dX11_owed_60 : decode cX11_owed 60 = .ok (.iload 4, 2) := by decide +kernel
theorem dX11_owed_62 : decode cX11_owed 62 = .ok (.aload_n 0, 1) := by decide +kernel
theorem dX11_owed_63 : decode cX11_owed 63 = .ok (.getfield 10, 3) := by decide +kernel
theorem dX11_owed_66 : decode cX11_owed 66 = .ok (.aload_n 0, 1) := by decide +kernel
theorem dX11_owed_67 : decode cX11_owed 67 = .ok (.getfield 54, 3) := by decide +kernel
theorem dX11_owed_70 : decode cX11_owed 70 = .ok (.invokevirtual 248, 3) := by decide +kernel
theorem dX11_owed_73 : decode cX11_owed 73 = .ok (.ifCond .ne 7, 3) := by decide +kernel
theorem dX11_owed_76 : decode cX11_owed 76 = .ok (.ldc2_w 155, 3) := by decide +kernel
theorem dX11_owed_79 : decode cX11_owed 79 = .ok (.lreturn, 1) := by decide +kernel
theorem dX11_owed_80 : decode cX11_owed 80 = .ok (.iload_n 3, 1) := by decide +kernel
theorem dX11_owed_81 : decode cX11_owed 81 = .ok (.ifCond .ne 13, 3) := by decide +kernel
theorem dX11_owed_84 : decode cX11_owed 84 = .ok (.aload_n 0, 1) := by decide +kernel
theorem dX11_owed_85 : decode cX11_owed 85 = .ok (.getfield 61, 3) := by decide +kernel
theorem dX11_owed_88 : decode cX11_owed 88 = .ok (.getfield 251, 3) := by decide +kernel
theorem dX11_owed_91 : decode cX11_owed 91 = .ok (.goto 10, 3) := by decide +kernel
theorem dX11_owed_94 : decode cX11_owed 94 = .ok (.aload_n 0, 1) := by decide +kernel
theorem dX11_owed_95 : decode cX11_owed 95 = .ok (.getfield 61, 3) := by decide +kernel
theorem dX11_owed_98 : decode cX11_owed 98 = .ok (.getfield 252, 3) := by decide +kernel
theorem dX11_owed_101 : decode cX11_owed 101 = .ok (.lreturn, 1) := by decide +kernel
set_option maxRecDepth 20000 in
theorem ggX11_gained_X3_told : GoodIn wsX11_gained wsX3_told := goodIn_r _ [13, 14, 93, 94, 95, 96, 97, 98, 99, 100, 101] (by decide +kernel) (by decide +kernel)
set_option maxRecDepth 20000 in
theorem gX11_gained_X3_told : GoodIn wsX11_gained (wsV RX11 244 RX3 yX3_told wsX3_told) := goodIn_app (goodIn_of _ (by decide +kernel)) ggX11_gained_X3_told
set_option maxRecDepth 20000 in
theorem ggX11_gained_X11_isDay : GoodIn wsX11_gained wsX11_isDay := goodIn_r _ [18, 19, 20, 17, 21] (by decide +kernel) (by decide +kernel)
set_option maxRecDepth 20000 in
theorem gX11_gained_X11_isDay : GoodIn wsX11_gained (va_wsS RX11 217 yX11_isDay wsX11_isDay) := goodIn_app (goodIn_of _ (by decide +kernel)) ggX11_gained_X11_isDay
set_option maxRecDepth 20000 in
theorem ggX11_gained_X3_reckon : GoodIn wsX11_gained wsX3_reckon := goodIn_r _ [25, 26, 27, 28, 29, 30, 31, 32, 33, 34, 35, 36, 37, 38, 39, 40, 41, 42, 43, 44, 45, 46, 47, 48, 49, 50, 51, 52, 53, 12, 54, 55, 56, 57, 58, 59, 60, 61, 62, 63, 64, 65, 66, 67, 68, 69, 70, 71, 72, 73, 74, 75, 76, 93, 94, 95, 96, 97, 98, 99, 100, 101, 102, 103, 104, 105, 106, 107, 108, 109, 110, 111, 112, 113] (by decide +kernel) (by decide +kernel)
set_option maxRecDepth 20000 in
theorem gX11_gained_X3_reckon : GoodIn wsX11_gained (wsV RX11 248 RX3 yX3_reckon wsX3_reckon) := goodIn_app (goodIn_of _ (by decide +kernel)) ggX11_gained_X3_reckon
theorem dX11_gained_0 : decode cX11_gained 0 = .ok (.aload_n 0, 1) := by decide +kernel
theorem dX11_gained_1 : decode cX11_gained 1 = .ok (.getfield 61, 3) := by decide +kernel
theorem dX11_gained_4 : decode cX11_gained 4 = .ok (.iload_n 1, 1) := by decide +kernel
theorem dX11_gained_5 : decode cX11_gained 5 = .ok (.invokevirtual 244, 3) := by decide +kernel
theorem dX11_gained_8 : decode cX11_gained 8 = .ok (.ifCond .eq 10, 3) := by decide +kernel
theorem dX11_gained_11 : decode cX11_gained 11 = .ok (.iload_n 2, 1) := by decide +kernel
theorem dX11_gained_12 : decode cX11_gained 12 = .ok (.invokestatic 217, 3) := by decide +kernel
theorem dX11_gained_15 : decode cX11_gained 15 = .ok (.ifCond .ne 7, 3) := by decide +kernel
theorem dX11_gained_18 : decode cX11_gained 18 = .ok (.ldc2_w 255, 3) := by decide +kernel
theorem dX11_gained_21 : decode cX11_gained 21 = .ok (.lreturn, 1) := by decide +kernel
theorem dX11_gained_22 : decode cX11_gained 22 = .ok (.aload_n 0, 1) := by decide +kernel
theorem dX11_gained_23 : decode cX11_gained 23 = .ok (.getfield 61, 3) := by decide +kernel
theorem dX11_gained_26 : decode cX11_gained 26 = .ok (.iload_n 1, 1) := by decide +kernel
theorem dX11_gained_27 : decode cX11_gained 27 = .ok (.aload_n 0, 1) := by decide +kernel
theorem dX11_gained_28 : decode cX11_gained 28 = .ok (.getfield 61, 3) := by decide +kernel
theorem dX11_gained_31 : decode cX11_gained 31 = .ok (.getfield 245, 3) := by decide +kernel
theorem dX11_gained_34 : decode cX11_gained 34 = .ok (.iload_n 1, 1) := by decide +kernel
theorem dX11_gained_35 : decode cX11_gained 35 = .ok (.iaload, 1) := by decide +kernel
theorem dX11_gained_36 : decode cX11_gained 36 = .ok (.aload_n 0, 1) := by decide +kernel
theorem dX11_gained_37 : decode cX11_gained 37 = .ok (.getfield 10, 3) := by decide +kernel
theorem dX11_gained_40 : decode cX11_gained 40 = .ok (.aload_n 0, 1) := by decide +kernel
theorem dX11_gained_41 : decode cX11_gained 41 = .ok (.getfield 54, 3) := by decide +kernel
theorem dX11_gained_44 : decode cX11_gained 44 = .ok (.invokevirtual 248, 3) := by decide +kernel
theorem dX11_gained_47 : decode cX11_gained 47 = .ok (.ifCond .ne 7, 3) := by decide +kernel
theorem dX11_gained_50 : decode cX11_gained 50 = .ok (.ldc2_w 257, 3) := by decide +kernel
theorem dX11_gained_53 : decode cX11_gained 53 = .ok (.lreturn, 1) := by decide +kernel
theorem dX11_gained_54 : decode cX11_gained 54 = .ok (.aload_n 0, 1) := by decide +kernel
theorem dX11_gained_55 : decode cX11_gained 55 = .ok (.getfield 61, 3) := by decide +kernel
theorem dX11_gained_58 : decode cX11_gained 58 = .ok (.getfield 251, 3) := by decide +kernel
theorem dX11_gained_61 : decode cX11_gained 61 = .ok (.lstore_n 3, 1) := by decide +kernel
theorem dX11_gained_62 : decode cX11_gained 62 = .ok (.aload_n 0, 1) := by decide +kernel
theorem dX11_gained_63 : decode cX11_gained 63 = .ok (.getfield 61, 3) := by decide +kernel
theorem dX11_gained_66 : decode cX11_gained 66 = .ok (.iload_n 1, 1) := by decide +kernel
theorem dX11_gained_67 : decode cX11_gained 67 = .ok (.iload_n 2, 1) := by decide +kernel
theorem dX11_gained_68 : decode cX11_gained 68 = .ok (.aload_n 0, 1) := by decide +kernel
theorem dX11_gained_69 : decode cX11_gained 69 = .ok (.getfield 10, 3) := by decide +kernel
theorem dX11_gained_72 : decode cX11_gained 72 = .ok (.aload_n 0, 1) := by decide +kernel
theorem dX11_gained_73 : decode cX11_gained 73 = .ok (.getfield 54, 3) := by decide +kernel
theorem dX11_gained_76 : decode cX11_gained 76 = .ok (.invokevirtual 248, 3) := by decide +kernel
theorem dX11_gained_79 : decode cX11_gained 79 = .ok (.ifCond .ne 7, 3) := by decide +kernel
theorem dX11_gained_82 : decode cX11_gained 82 = .ok (.ldc2_w 257, 3) := by decide +kernel
theorem dX11_gained_85 : decode cX11_gained 85 = .ok (.lreturn, 1) := by decide +kernel
theorem dX11_gained_86 : decode cX11_gained 86 = .ok (.aload_n 0, 1) := by decide +kernel
theorem dX11_gained_87 : decode cX11_gained 87 = .ok (.getfield 61, 3) := by decide +kernel
theorem dX11_gained_90 : decode cX11_gained 90 = .ok (.getfield 252, 3) := by decide +kernel
theorem dX11_gained_93 : decode cX11_gained 93 = .ok (.lload_n 3, 1) := by decide +kernel
theorem dX11_gained_94 : decode cX11_gained 94 = .ok (.lsub, 1) := by decide +kernel
theorem dX11_gained_95 : decode cX11_gained 95 = .ok (.lreturn, 1) := by decide +kernel
set_option maxRecDepth 20000 in
theorem ggX11_rod_X9_told : GoodIn wsX11_rod wsX9_told := goodIn_r _ [8, 9, 62, 63, 64, 65] (by decide +kernel) (by decide +kernel)
set_option maxRecDepth 20000 in
theorem gX11_rod_X9_told : GoodIn wsX11_rod (wsV RX11 117 RX9 yX9_told wsX9_told) := goodIn_app (goodIn_of _ (by decide +kernel)) ggX11_rod_X9_told
set_option maxRecDepth 20000 in
theorem ggX11_rod_X11_isDistrict : GoodIn wsX11_rod wsX11_isDistrict := goodIn_r _ [13, 14, 15, 12, 16] (by decide +kernel) (by decide +kernel)
set_option maxRecDepth 20000 in
theorem gX11_rod_X11_isDistrict : GoodIn wsX11_rod (va_wsS RX11 214 yX11_isDistrict wsX11_isDistrict) := goodIn_app (goodIn_of _ (by decide +kernel)) ggX11_rod_X11_isDistrict
set_option maxRecDepth 20000 in
theorem ggX11_rod_X11_within : GoodIn wsX11_rod wsX11_within := goodIn_r _ [16] (by decide +kernel) (by decide +kernel)
set_option maxRecDepth 20000 in
theorem gX11_rod_X11_within : GoodIn wsX11_rod (va_wsS RX11 105 yX11_within wsX11_within) := goodIn_app (goodIn_of _ (by decide +kernel)) ggX11_rod_X11_within
set_option maxRecDepth 20000 in
theorem ggX11_rod_X4_add : GoodIn wsX11_rod wsX4_add := goodIn_r _ [21, 22, 23, 24, 25, 26, 27, 28, 29, 30, 31, 32, 49, 50, 51, 52, 53, 54, 55, 56, 57, 58, 59, 60, 61] (by decide +kernel) (by decide +kernel)
set_option maxRecDepth 20000 in
theorem gX11_rod_X4_add : GoodIn wsX11_rod (wsV RX11 260 RX4 yX4_add wsX4_add) := goodIn_app (goodIn_of _ (by decide +kernel)) ggX11_rod_X4_add
theorem dX11_rod_0 : decode cX11_rod 0 = .ok (.aload_n 0, 1) := by decide +kernel
theorem dX11_rod_1 : decode cX11_rod 1 = .ok (.getfield 10, 3) := by decide +kernel
theorem dX11_rod_4 : decode cX11_rod 4 = .ok (.iload_n 1, 1) := by decide +kernel
theorem dX11_rod_5 : decode cX11_rod 5 = .ok (.invokevirtual 117, 3) := by decide +kernel
theorem dX11_rod_8 : decode cX11_rod 8 = .ok (.ifCond .eq 23, 3) := by decide +kernel
theorem dX11_rod_11 : decode cX11_rod 11 = .ok (.iload_n 2, 1) := by decide +kernel
theorem dX11_rod_12 : decode cX11_rod 12 = .ok (.invokestatic 214, 3) := by decide +kernel
theorem dX11_rod_15 : decode cX11_rod 15 = .ok (.ifCond .eq 16, 3) := by decide +kernel
theorem dX11_rod_18 : decode cX11_rod 18 = .ok (.iload_n 3, 1) := by decide +kernel
theorem dX11_rod_19 : decode cX11_rod 19 = .ok (.sipush (-200), 3) := by decide +kernel
theorem dX11_rod_22 : decode cX11_rod 22 = .ok (.sipush 200, 3) := by decide +kernel
theorem dX11_rod_25 : decode cX11_rod 25 = .ok (.invokestatic 105, 3) := by decide +kernel
theorem dX11_rod_28 : decode cX11_rod 28 = .ok (.ifCond .ne 5, 3) := by decide +kernel
theorem dX11_rod_31 : decode cX11_rod 31 = .ok (.iconst (-1), 1) := by decide +kernel
theorem dX11_rod_32 : decode cX11_rod 32 = .ok (.ireturn, 1) := by decide +kernel
theorem dX11_rod_33 : decode cX11_rod 33 = .ok (.iload 4, 2) := by decide +kernel
theorem dX11_rod_35 : decode cX11_rod 35 = .ok (.iconst 0, 1) := by decide +kernel
theorem dX11_rod_36 : decode cX11_rod 36 = .ok (.bipush 20, 2) := by decide +kernel
theorem dX11_rod_38 : decode cX11_rod 38 = .ok (.invokestatic 105, 3) := by decide +kernel
theorem dX11_rod_41 : decode cX11_rod 41 = .ok (.ifCond .eq 15, 3) := by decide +kernel
theorem dX11_rod_44 : decode cX11_rod 44 = .ok (.iload 5, 2) := by decide +kernel
theorem dX11_rod_46 : decode cX11_rod 46 = .ok (.iconst 0, 1) := by decide +kernel
theorem dX11_rod_47 : decode cX11_rod 47 = .ok (.sipush 1000, 3) := by decide +kernel
theorem dX11_rod_50 : decode cX11_rod 50 = .ok (.invokestatic 105, 3) := by decide +kernel
theorem dX11_rod_53 : decode cX11_rod 53 = .ok (.ifCond .ne 5, 3) := by decide +kernel
theorem dX11_rod_56 : decode cX11_rod 56 = .ok (.iconst (-1), 1) := by decide +kernel
theorem dX11_rod_57 : decode cX11_rod 57 = .ok (.ireturn, 1) := by decide +kernel
theorem dX11_rod_58 : decode cX11_rod 58 = .ok (.aload_n 0, 1) := by decide +kernel
theorem dX11_rod_59 : decode cX11_rod 59 = .ok (.getfield 68, 3) := by decide +kernel
theorem dX11_rod_62 : decode cX11_rod 62 = .ok (.getfield 259, 3) := by decide +kernel
theorem dX11_rod_65 : decode cX11_rod 65 = .ok (.bipush 12, 2) := by decide +kernel
theorem dX11_rod_67 : decode cX11_rod 67 = .ok (.if_icmp .lt 6, 3) := by decide +kernel
theorem dX11_rod_70 : decode cX11_rod 70 = .ok (.bipush (-3), 2) := by decide +kernel
theorem dX11_rod_72 : decode cX11_rod 72 = .ok (.ireturn, 1) := by decide +kernel
theorem dX11_rod_73 : decode cX11_rod 73 = .ok (.aload_n 0, 1) := by decide +kernel
theorem dX11_rod_74 : decode cX11_rod 74 = .ok (.getfield 68, 3) := by decide +kernel
theorem dX11_rod_77 : decode cX11_rod 77 = .ok (.iload_n 1, 1) := by decide +kernel
theorem dX11_rod_78 : decode cX11_rod 78 = .ok (.iload_n 2, 1) := by decide +kernel
theorem dX11_rod_79 : decode cX11_rod 79 = .ok (.iload_n 3, 1) := by decide +kernel
theorem dX11_rod_80 : decode cX11_rod 80 = .ok (.iload 4, 2) := by decide +kernel
theorem dX11_rod_82 : decode cX11_rod 82 = .ok (.iload 5, 2) := by decide +kernel
theorem dX11_rod_84 : decode cX11_rod 84 = .ok (.invokevirtual 260, 3) := by decide +kernel
theorem dX11_rod_87 : decode cX11_rod 87 = .ok (.ireturn, 1) := by decide +kernel
set_option maxRecDepth 20000 in
theorem ggX11_allowed_X11_within : GoodIn wsX11_allowed wsX11_within := goodIn_r _ [5] (by decide +kernel) (by decide +kernel)
set_option maxRecDepth 20000 in
theorem gX11_allowed_X11_within : GoodIn wsX11_allowed (va_wsS RX11 105 yX11_within wsX11_within) := goodIn_app (goodIn_of _ (by decide +kernel)) ggX11_allowed_X11_within
theorem dX11_allowed_0 : decode cX11_allowed 0 = .ok (.iload_n 1, 1) := by decide +kernel
theorem dX11_allowed_1 : decode cX11_allowed 1 = .ok (.iconst 0, 1) := by decide +kernel
theorem dX11_allowed_2 : decode cX11_allowed 2 = .ok (.sipush 200, 3) := by decide +kernel
theorem dX11_allowed_5 : decode cX11_allowed 5 = .ok (.invokestatic 105, 3) := by decide +kernel
theorem dX11_allowed_8 : decode cX11_allowed 8 = .ok (.ifCond .ne 5, 3) := by decide +kernel
theorem dX11_allowed_11 : decode cX11_allowed 11 = .ok (.iconst (-1), 1) := by decide +kernel
theorem dX11_allowed_12 : decode cX11_allowed 12 = .ok (.ireturn, 1) := by decide +kernel
theorem dX11_allowed_13 : decode cX11_allowed 13 = .ok (.aload_n 0, 1) := by decide +kernel
theorem dX11_allowed_14 : decode cX11_allowed 14 = .ok (.getfield 102, 3) := by decide +kernel
theorem dX11_allowed_17 : decode cX11_allowed 17 = .ok (.istore_n 2, 1) := by decide +kernel
theorem dX11_allowed_18 : decode cX11_allowed 18 = .ok (.aload_n 0, 1) := by decide +kernel
theorem dX11_allowed_19 : decode cX11_allowed 19 = .ok (.iload_n 1, 1) := by decide +kernel
theorem dX11_allowed_20 : decode cX11_allowed 20 = .ok (.putfield 102, 3) := by decide +kernel
theorem dX11_allowed_23 : decode cX11_allowed 23 = .ok (.iload_n 2, 1) := by decide +kernel
theorem dX11_allowed_24 : decode cX11_allowed 24 = .ok (.ireturn, 1) := by decide +kernel
set_option maxRecDepth 20000 in
theorem ggX11_plan_X11_within : GoodIn wsX11_plan wsX11_within := goodIn_r _ [5] (by decide +kernel) (by decide +kernel)
set_option maxRecDepth 20000 in
theorem gX11_plan_X11_within : GoodIn wsX11_plan (va_wsS RX11 105 yX11_within wsX11_within) := goodIn_app (goodIn_of _ (by decide +kernel)) ggX11_plan_X11_within
theorem dX11_plan_0 : decode cX11_plan 0 = .ok (.iload_n 1, 1) := by decide +kernel
theorem dX11_plan_1 : decode cX11_plan 1 = .ok (.iconst 0, 1) := by decide +kernel
theorem dX11_plan_2 : decode cX11_plan 2 = .ok (.bipush 9, 2) := by decide +kernel
theorem dX11_plan_4 : decode cX11_plan 4 = .ok (.invokestatic 105, 3) := by decide +kernel
theorem dX11_plan_7 : decode cX11_plan 7 = .ok (.ifCond .eq 13, 3) := by decide +kernel
theorem dX11_plan_10 : decode cX11_plan 10 = .ok (.iload_n 2, 1) := by decide +kernel
theorem dX11_plan_11 : decode cX11_plan 11 = .ok (.iconst 0, 1) := by decide +kernel
theorem dX11_plan_12 : decode cX11_plan 12 = .ok (.bipush 63, 2) := by decide +kernel
theorem dX11_plan_14 : decode cX11_plan 14 = .ok (.invokestatic 105, 3) := by decide +kernel
theorem dX11_plan_17 : decode cX11_plan 17 = .ok (.ifCond .ne 5, 3) := by decide +kernel
theorem dX11_plan_20 : decode cX11_plan 20 = .ok (.iconst (-1), 1) := by decide +kernel
theorem dX11_plan_21 : decode cX11_plan 21 = .ok (.ireturn, 1) := by decide +kernel
theorem dX11_plan_22 : decode cX11_plan 22 = .ok (.aload_n 0, 1) := by decide +kernel
theorem dX11_plan_23 : decode cX11_plan 23 = .ok (.getfield 86, 3) := by decide +kernel
theorem dX11_plan_26 : decode cX11_plan 26 = .ok (.iload_n 1, 1) := by decide +kernel
theorem dX11_plan_27 : decode cX11_plan 27 = .ok (.iaload, 1) := by decide +kernel
theorem dX11_plan_28 : decode cX11_plan 28 = .ok (.istore_n 3, 1) := by decide +kernel
theorem dX11_plan_29 : decode cX11_plan 29 = .ok (.aload_n 0, 1) := by decide +kernel
theorem dX11_plan_30 : decode cX11_plan 30 = .ok (.getfield 86, 3) := by decide +kernel
theorem dX11_plan_33 : decode cX11_plan 33 = .ok (.iload_n 1, 1) := by decide +kernel
theorem dX11_plan_34 : decode cX11_plan 34 = .ok (.iload_n 2, 1) := by decide +kernel
theorem dX11_plan_35 : decode cX11_plan 35 = .ok (.iastore, 1) := by decide +kernel
theorem dX11_plan_36 : decode cX11_plan 36 = .ok (.iload_n 3, 1) := by decide +kernel
theorem dX11_plan_37 : decode cX11_plan 37 = .ok (.ireturn, 1) := by decide +kernel
set_option maxRecDepth 20000 in
theorem ggX11_weeks_X11_within : GoodIn wsX11_weeks wsX11_within := goodIn_r _ [10] (by decide +kernel) (by decide +kernel)
set_option maxRecDepth 20000 in
theorem gX11_weeks_X11_within : GoodIn wsX11_weeks (va_wsS RX11 105 yX11_within wsX11_within) := goodIn_app (goodIn_of _ (by decide +kernel)) ggX11_weeks_X11_within
set_option maxRecDepth 20000 in
theorem ggX11_weeks_X4_passWeek : GoodIn wsX11_weeks wsX4_passWeek := goodIn_r _ [15, 16, 17, 18, 19, 20, 21, 22, 23, 24, 14, 25, 26, 27, 28, 29, 30, 31, 32, 33, 34, 35, 36, 37, 38, 39, 40, 41, 42, 43, 44, 45, 46, 47, 48, 49, 50, 51, 52, 53, 54, 55, 56, 57, 58, 59, 60, 61, 62, 63, 64, 65, 66, 67, 68, 69, 70, 71, 72, 73, 74, 75, 96, 97, 98, 99, 100, 101, 102, 103, 104, 105, 106, 107, 108, 109, 110, 111, 112, 113, 114, 115, 116, 117, 118, 119, 120] (by decide +kernel) (by decide +kernel)
set_option maxRecDepth 20000 in
theorem gX11_weeks_X4_passWeek : GoodIn wsX11_weeks (wsV RX11 264 RX4 yX4_passWeek wsX4_passWeek) := goodIn_app (goodIn_of _ (by decide +kernel)) ggX11_weeks_X4_passWeek
set_option maxRecDepth 20000 in
theorem ggX11_weeks_X11_movePlanOn : GoodIn wsX11_weeks wsX11_movePlanOn := goodIn_r _ [79, 6, 80, 81, 82, 83, 84, 85, 86, 87, 88, 89, 90, 91, 92, 93, 94, 95] (by decide +kernel) (by decide +kernel)
set_option maxRecDepth 20000 in
theorem gX11_weeks_X11_movePlanOn : GoodIn wsX11_weeks (wsV RX11 268 RX11 yX11_movePlanOn wsX11_movePlanOn) := goodIn_app (goodIn_of _ (by decide +kernel)) ggX11_weeks_X11_movePlanOn
theorem dX11_weeks_0 : decode cX11_weeks 0 = .ok (.iload_n 1, 1) := by decide +kernel
theorem dX11_weeks_1 : decode cX11_weeks 1 = .ok (.iconst 1, 1) := by decide +kernel
theorem dX11_weeks_2 : decode cX11_weeks 2 = .ok (.bipush 20, 2) := by decide +kernel
theorem dX11_weeks_4 : decode cX11_weeks 4 = .ok (.invokestatic 105, 3) := by decide +kernel
theorem dX11_weeks_7 : decode cX11_weeks 7 = .ok (.ifCond .ne 5, 3) := by decide +kernel
theorem dX11_weeks_10 : decode cX11_weeks 10 = .ok (.iconst (-1), 1) := by decide +kernel
theorem dX11_weeks_11 : decode cX11_weeks 11 = .ok (.ireturn, 1) := by decide +kernel
theorem dX11_weeks_12 : decode cX11_weeks 12 = .ok (.aload_n 0, 1) := by decide +kernel
theorem dX11_weeks_13 : decode cX11_weeks 13 = .ok (.getfield 68, 3) := by decide +kernel
theorem dX11_weeks_16 : decode cX11_weeks 16 = .ok (.getfield 261, 3) := by decide +kernel
theorem dX11_weeks_19 : decode cX11_weeks 19 = .ok (.iload_n 1, 1) := by decide +kernel
theorem dX11_weeks_20 : decode cX11_weeks 20 = .ok (.iadd, 1) := by decide +kernel
theorem dX11_weeks_21 : decode cX11_weeks 21 = .ok (.bipush 100, 2) := by decide +kernel
theorem dX11_weeks_23 : decode cX11_weeks 23 = .ok (.if_icmp .le 6, 3) := by decide +kernel
theorem dX11_weeks_26 : decode cX11_weeks 26 = .ok (.bipush (-3), 2) := by decide +kernel
theorem dX11_weeks_28 : decode cX11_weeks 28 = .ok (.ireturn, 1) := by decide +kernel
theorem dX11_weeks_29 : decode cX11_weeks 29 = .ok (.iconst 0, 1) := by decide +kernel
theorem dX11_weeks_30 : decode cX11_weeks 30 = .ok (.istore_n 2, 1) := by decide +kernel
theorem dX11_weeks_31 : decode cX11_weeks 31 = .ok (.iload_n 2, 1) := by decide +kernel
theorem dX11_weeks_32 : decode cX11_weeks 32 = .ok (.iload_n 1, 1) := by decide +kernel
theorem dX11_weeks_33 : decode cX11_weeks 33 = .ok (.if_icmp .ge 38, 3) := by decide +kernel
theorem dX11_weeks_36 : decode cX11_weeks 36 = .ok (.aload_n 0, 1) := by decide +kernel
theorem dX11_weeks_37 : decode cX11_weeks 37 = .ok (.getfield 68, 3) := by decide +kernel
theorem dX11_weeks_40 : decode cX11_weeks 40 = .ok (.aload_n 0, 1) := by decide +kernel
theorem dX11_weeks_41 : decode cX11_weeks 41 = .ok (.getfield 10, 3) := by decide +kernel
theorem dX11_weeks_44 : decode cX11_weeks 44 = .ok (.aload_n 0, 1) := by decide +kernel
theorem dX11_weeks_45 : decode cX11_weeks 45 = .ok (.getfield 54, 3) := by decide +kernel
theorem dX11_weeks_48 : decode cX11_weeks 48 = .ok (.aload_n 0, 1) := by decide +kernel
theorem dX11_weeks_49 : decode cX11_weeks 49 = .ok (.getfield 102, 3) := by decide +kernel
theorem dX11_weeks_52 : decode cX11_weeks 52 = .ok (.aload_n 0, 1) := by decide +kernel
theorem dX11_weeks_53 : decode cX11_weeks 53 = .ok (.getfield 86, 3) := by decide +kernel
theorem dX11_weeks_56 : decode cX11_weeks 56 = .ok (.iconst 0, 1) := by decide +kernel
theorem dX11_weeks_57 : decode cX11_weeks 57 = .ok (.iaload, 1) := by decide +kernel
theorem dX11_weeks_58 : decode cX11_weeks 58 = .ok (.invokevirtual 264, 3) := by decide +kernel
theorem dX11_weeks_61 : decode cX11_weeks 61 = .ok (.aload_n 0, 1) := by decide +kernel
theorem dX11_weeks_62 : decode cX11_weeks 62 = .ok (.invokevirtual 268, 3) := by decide +kernel
theorem dX11_weeks_65 : decode cX11_weeks 65 = .ok (.iinc 2 1, 3) := by decide +kernel
theorem dX11_weeks_68 : decode cX11_weeks 68 = .ok (.goto (-37), 3) := by decide +kernel
theorem dX11_weeks_71 : decode cX11_weeks 71 = .ok (.aload_n 0, 1) := by decide +kernel
theorem dX11_weeks_72 : decode cX11_weeks 72 = .ok (.getfield 68, 3) := by decide +kernel
theorem dX11_weeks_75 : decode cX11_weeks 75 = .ok (.getfield 261, 3) := by decide +kernel
theorem dX11_weeks_78 : decode cX11_weeks 78 = .ok (.ireturn, 1) := by decide +kernel
theorem dX11_movePlanOn_0 : decode cX11_movePlanOn 0 = .ok (.iconst 0, 1) := by decide +kernel
theorem dX11_movePlanOn_1 : decode cX11_movePlanOn 1 = .ok (.istore_n 1, 1) := by decide +kernel
theorem dX11_movePlanOn_2 : decode cX11_movePlanOn 2 = .ok (.iload_n 1, 1) := by decide +kernel
theorem dX11_movePlanOn_3 : decode cX11_movePlanOn 3 = .ok (.iconst 1, 1) := by decide +kernel
theorem dX11_movePlanOn_4 : decode cX11_movePlanOn 4 = .ok (.iadd, 1) := by decide +kernel
theorem dX11_movePlanOn_5 : decode cX11_movePlanOn 5 = .ok (.bipush 10, 2) := by decide +kernel
theorem dX11_movePlanOn_7 : decode cX11_movePlanOn 7 = .ok (.if_icmp .ge 23, 3) := by decide +kernel
theorem dX11_movePlanOn_10 : decode cX11_movePlanOn 10 = .ok (.aload_n 0, 1) := by decide +kernel
theorem dX11_movePlanOn_11 : decode cX11_movePlanOn 11 = .ok (.getfield 86, 3) := by decide +kernel
theorem dX11_movePlanOn_14 : decode cX11_movePlanOn 14 = .ok (.iload_n 1, 1) := by decide +kernel
theorem dX11_movePlanOn_15 : decode cX11_movePlanOn 15 = .ok (.aload_n 0, 1) := by decide +kernel
theorem dX11_movePlanOn_16 : decode cX11_movePlanOn 16 = .ok (.getfield 86, 3) := by decide +kernel
theorem dX11_movePlanOn_19 : decode cX11_movePlanOn 19 = .ok (.iload_n 1, 1) := by decide +kernel
theorem dX11_movePlanOn_20 : decode cX11_movePlanOn 20 = .ok (.iconst 1, 1) := by decide +kernel
theorem dX11_movePlanOn_21 : decode cX11_movePlanOn 21 = .ok (.iadd, 1) := by decide +kernel
theorem dX11_movePlanOn_22 : decode cX11_movePlanOn 22 = .ok (.iaload, 1) := by decide +kernel
theorem dX11_movePlanOn_23 : decode cX11_movePlanOn 23 = .ok (.iastore, 1) := by decide +kernel
theorem dX11_movePlanOn_24 : decode cX11_movePlanOn 24 = .ok (.iinc 1 1, 3) := by decide +kernel
theorem dX11_movePlanOn_27 : decode cX11_movePlanOn 27 = .ok (.goto (-25), 3) := by decide +kernel
theorem dX11_movePlanOn_30 : decode cX11_movePlanOn 30 = .ok (.aload_n 0, 1) := by decide +kernel
theorem dX11_movePlanOn_31 : decode cX11_movePlanOn 31 = .ok (.getfield 86, 3) := by decide +kernel
theorem dX11_movePlanOn_34 : decode cX11_movePlanOn 34 = .ok (.bipush 9, 2) := by decide +kernel
theorem dX11_movePlanOn_36 : decode cX11_movePlanOn 36 = .ok (.iconst 0, 1) := by decide +kernel
theorem dX11_movePlanOn_37 : decode cX11_movePlanOn 37 = .ok (.iastore, 1) := by decide +kernel
theorem dX11_movePlanOn_38 : decode cX11_movePlanOn 38 = .ok (.return_, 1) := by decide +kernel
set_option maxRecDepth 20000 in
theorem ggX11_rodTold_X4_told : GoodIn wsX11_rodTold wsX4_told := goodIn_r _ [10, 11, 53, 54, 55, 56, 57, 58, 59, 60, 61, 62, 63, 64, 65] (by decide +kernel) (by decide +kernel)
set_option maxRecDepth 20000 in
theorem gX11_rodTold_X4_told : GoodIn wsX11_rodTold (wsV RX11 271 RX4 yX4_told wsX4_told) := goodIn_app (goodIn_of _ (by decide +kernel)) ggX11_rodTold_X4_told
set_option maxRecDepth 20000 in
theorem ggX11_rodTold_X11_within : GoodIn wsX11_rodTold wsX11_within := goodIn_r _ [15] (by decide +kernel) (by decide +kernel)
set_option maxRecDepth 20000 in
theorem gX11_rodTold_X11_within : GoodIn wsX11_rodTold (va_wsS RX11 105 yX11_within wsX11_within) := goodIn_app (goodIn_of _ (by decide +kernel)) ggX11_rodTold_X11_within
set_option maxRecDepth 20000 in
theorem ggX11_rodTold_X4_offAfter : GoodIn wsX11_rodTold wsX4_offAfter := goodIn_r _ [19, 20, 21, 22, 23, 24, 25, 53, 54, 55, 56, 57, 58, 59, 60, 61, 62, 63, 64, 65] (by decide +kernel) (by decide +kernel)
set_option maxRecDepth 20000 in
theorem gX11_rodTold_X4_offAfter : GoodIn wsX11_rodTold (wsV RX11 275 RX4 yX4_offAfter wsX4_offAfter) := goodIn_app (goodIn_of _ (by decide +kernel)) ggX11_rodTold_X4_offAfter
set_option maxRecDepth 20000 in
theorem ggX11_rodTold_X4_falseSince : GoodIn wsX11_rodTold wsX4_falseSince := goodIn_r _ [29, 30, 31, 32, 33, 24, 34, 35, 36, 17, 18, 9, 19, 20, 21, 22, 23, 25, 53, 54, 55, 56, 57, 58, 59, 60, 61, 62, 63, 64, 65] (by decide +kernel) (by decide +kernel)
set_option maxRecDepth 20000 in
theorem gX11_rodTold_X4_falseSince : GoodIn wsX11_rodTold (wsV RX11 285 RX4 yX4_falseSince wsX4_falseSince) := goodIn_app (goodIn_of _ (by decide +kernel)) ggX11_rodTold_X4_falseSince
theorem dX11_rodTold_0 : decode cX11_rodTold 0 = .ok (.aload_n 0, 1) := by decide +kernel
theorem dX11_rodTold_1 : decode cX11_rodTold 1 = .ok (.getfield 68, 3) := by decide +kernel
theorem dX11_rodTold_4 : decode cX11_rodTold 4 = .ok (.iload_n 1, 1) := by decide +kernel
theorem dX11_rodTold_5 : decode cX11_rodTold 5 = .ok (.invokevirtual 271, 3) := by decide +kernel
theorem dX11_rodTold_8 : decode cX11_rodTold 8 = .ok (.ifCond .eq 12, 3) := by decide +kernel
theorem dX11_rodTold_11 : decode cX11_rodTold 11 = .ok (.iload_n 2, 1) := by decide +kernel
theorem dX11_rodTold_12 : decode cX11_rodTold 12 = .ok (.iconst 0, 1) := by decide +kernel
theorem dX11_rodTold_13 : decode cX11_rodTold 13 = .ok (.iconst 3, 1) := by decide +kernel
theorem dX11_rodTold_14 : decode cX11_rodTold 14 = .ok (.invokestatic 105, 3) := by decide +kernel
theorem dX11_rodTold_17 : decode cX11_rodTold 17 = .ok (.ifCond .ne 7, 3) := by decide +kernel
theorem dX11_rodTold_20 : decode cX11_rodTold 20 = .ok (.sipush (-10000), 3) := by decide +kernel
theorem dX11_rodTold_23 : decode cX11_rodTold 23 = .ok (.ireturn, 1) := by decide +kernel
theorem dX11_rodTold_24 : decode cX11_rodTold 24 = .ok (.iload_n 2, 1) := by decide +kernel
theorem dX11_rodTold_25 : decode cX11_rodTold 25 = .ok (.tableswitch 65 0 2 #[27, 45, 55], 27) := by decide +kernel
theorem dX11_rodTold_52 : decode cX11_rodTold 52 = .ok (.aload_n 0, 1) := by decide +kernel
theorem dX11_rodTold_53 : decode cX11_rodTold 53 = .ok (.getfield 68, 3) := by decide +kernel
theorem dX11_rodTold_56 : decode cX11_rodTold 56 = .ok (.iload_n 1, 1) := by decide +kernel
theorem dX11_rodTold_57 : decode cX11_rodTold 57 = .ok (.aload_n 0, 1) := by decide +kernel
theorem dX11_rodTold_58 : decode cX11_rodTold 58 = .ok (.getfield 68, 3) := by decide +kernel
theorem dX11_rodTold_61 : decode cX11_rodTold 61 = .ok (.getfield 272, 3) := by decide +kernel
theorem dX11_rodTold_64 : decode cX11_rodTold 64 = .ok (.iload_n 1, 1) := by decide +kernel
theorem dX11_rodTold_65 : decode cX11_rodTold 65 = .ok (.iaload, 1) := by decide +kernel
theorem dX11_rodTold_66 : decode cX11_rodTold 66 = .ok (.invokevirtual 275, 3) := by decide +kernel
theorem dX11_rodTold_69 : decode cX11_rodTold 69 = .ok (.ireturn, 1) := by decide +kernel
theorem dX11_rodTold_70 : decode cX11_rodTold 70 = .ok (.aload_n 0, 1) := by decide +kernel
theorem dX11_rodTold_71 : decode cX11_rodTold 71 = .ok (.getfield 68, 3) := by decide +kernel
theorem dX11_rodTold_74 : decode cX11_rodTold 74 = .ok (.getfield 279, 3) := by decide +kernel
theorem dX11_rodTold_77 : decode cX11_rodTold 77 = .ok (.iload_n 1, 1) := by decide +kernel
theorem dX11_rodTold_78 : decode cX11_rodTold 78 = .ok (.iaload, 1) := by decide +kernel
theorem dX11_rodTold_79 : decode cX11_rodTold 79 = .ok (.ireturn, 1) := by decide +kernel
theorem dX11_rodTold_80 : decode cX11_rodTold 80 = .ok (.aload_n 0, 1) := by decide +kernel
theorem dX11_rodTold_81 : decode cX11_rodTold 81 = .ok (.getfield 68, 3) := by decide +kernel
theorem dX11_rodTold_84 : decode cX11_rodTold 84 = .ok (.getfield 282, 3) := by decide +kernel
theorem dX11_rodTold_87 : decode cX11_rodTold 87 = .ok (.iload_n 1, 1) := by decide +kernel
theorem dX11_rodTold_88 : decode cX11_rodTold 88 = .ok (.iaload, 1) := by decide +kernel
theorem dX11_rodTold_89 : decode cX11_rodTold 89 = .ok (.ireturn, 1) := by decide +kernel
theorem dX11_rodTold_90 : decode cX11_rodTold 90 = .ok (.aload_n 0, 1) := by decide +kernel
theorem dX11_rodTold_91 : decode cX11_rodTold 91 = .ok (.getfield 68, 3) := by decide +kernel
theorem dX11_rodTold_94 : decode cX11_rodTold 94 = .ok (.iload_n 1, 1) := by decide +kernel
theorem dX11_rodTold_95 : decode cX11_rodTold 95 = .ok (.aload_n 0, 1) := by decide +kernel
theorem dX11_rodTold_96 : decode cX11_rodTold 96 = .ok (.getfield 102, 3) := by decide +kernel
theorem dX11_rodTold_99 : decode cX11_rodTold 99 = .ok (.invokevirtual 285, 3) := by decide +kernel
theorem dX11_rodTold_102 : decode cX11_rodTold 102 = .ok (.ireturn, 1) := by decide +kernel
set_option maxRecDepth 20000 in
theorem ggX11_cheated_X11_isDistrict : GoodIn wsX11_cheated wsX11_isDistrict := goodIn_r _ [8, 9, 10, 7, 11] (by decide +kernel) (by decide +kernel)
set_option maxRecDepth 20000 in
theorem gX11_cheated_X11_isDistrict : GoodIn wsX11_cheated (va_wsS RX11 214 yX11_isDistrict wsX11_isDistrict) := goodIn_app (goodIn_of _ (by decide +kernel)) ggX11_cheated_X11_isDistrict
set_option maxRecDepth 20000 in
theorem ggX11_cheated_X11_within : GoodIn wsX11_cheated wsX11_within := goodIn_r _ [11] (by decide +kernel) (by decide +kernel)
set_option maxRecDepth 20000 in
theorem gX11_cheated_X11_within : GoodIn wsX11_cheated (va_wsS RX11 105 yX11_within wsX11_within) := goodIn_app (goodIn_of _ (by decide +kernel)) ggX11_cheated_X11_within
theorem dX11_cheated_0 : decode cX11_cheated 0 = .ok (.iload_n 1, 1) := by decide +kernel
theorem dX11_cheated_1 : decode cX11_cheated 1 = .ok (.invokestatic 214, 3) := by decide +kernel
theorem dX11_cheated_4 : decode cX11_cheated 4 = .ok (.ifCond .eq 12, 3) := by decide +kernel
theorem dX11_cheated_7 : decode cX11_cheated 7 = .ok (.iload_n 2, 1) := by decide +kernel
theorem dX11_cheated_8 : decode cX11_cheated 8 = .ok (.iconst 0, 1) := by decide +kernel
theorem dX11_cheated_9 : decode cX11_cheated 9 = .ok (.iconst 1, 1) := by decide +kernel
theorem dX11_cheated_10 : decode cX11_cheated 10 = .ok (.invokestatic 105, 3) := by decide +kernel
theorem dX11_cheated_13 : decode cX11_cheated 13 = .ok (.ifCond .ne 7, 3) := by decide +kernel
theorem dX11_cheated_16 : decode cX11_cheated 16 = .ok (.ldc2_w 133, 3) := by decide +kernel
theorem dX11_cheated_19 : decode cX11_cheated 19 = .ok (.lreturn, 1) := by decide +kernel
theorem dX11_cheated_20 : decode cX11_cheated 20 = .ok (.iload_n 2, 1) := by decide +kernel
theorem dX11_cheated_21 : decode cX11_cheated 21 = .ok (.ifCond .ne 15, 3) := by decide +kernel
theorem dX11_cheated_24 : decode cX11_cheated 24 = .ok (.aload_n 0, 1) := by decide +kernel
theorem dX11_cheated_25 : decode cX11_cheated 25 = .ok (.getfield 68, 3) := by decide +kernel
theorem dX11_cheated_28 : decode cX11_cheated 28 = .ok (.getfield 288, 3) := by decide +kernel
theorem dX11_cheated_31 : decode cX11_cheated 31 = .ok (.iload_n 1, 1) := by decide +kernel
theorem dX11_cheated_32 : decode cX11_cheated 32 = .ok (.laload, 1) := by decide +kernel
theorem dX11_cheated_33 : decode cX11_cheated 33 = .ok (.goto 12, 3) := by decide +kernel
theorem dX11_cheated_36 : decode cX11_cheated 36 = .ok (.aload_n 0, 1) := by decide +kernel
theorem dX11_cheated_37 : decode cX11_cheated 37 = .ok (.getfield 68, 3) := by decide +kernel
theorem dX11_cheated_40 : decode cX11_cheated 40 = .ok (.getfield 292, 3) := by decide +kernel
theorem dX11_cheated_43 : decode cX11_cheated 43 = .ok (.iload_n 1, 1) := by decide +kernel
theorem dX11_cheated_44 : decode cX11_cheated 44 = .ok (.laload, 1) := by decide +kernel
theorem dX11_cheated_45 : decode cX11_cheated 45 = .ok (.lreturn, 1) := by decide +kernel
set_option maxRecDepth 20000 in
theorem ggX11_rounds_X11_within : GoodIn wsX11_rounds wsX11_within := goodIn_r _ [12] (by decide +kernel) (by decide +kernel)
set_option maxRecDepth 20000 in
theorem gX11_rounds_X11_within : GoodIn wsX11_rounds (va_wsS RX11 105 yX11_within wsX11_within) := goodIn_app (goodIn_of _ (by decide +kernel)) ggX11_rounds_X11_within
set_option maxRecDepth 20000 in
theorem ggX11_rounds_X7_price : GoodIn wsX11_rounds wsX7_price := goodIn_r _ [17, 18, 19, 20, 21, 22, 23, 24, 25, 26, 27, 16, 28, 29, 30, 31, 32, 33, 34, 35, 36, 37, 38, 39, 40, 41, 42, 43, 44, 45, 46, 47, 48, 49, 50, 51, 52, 53, 54, 55, 56, 57, 58, 59, 60, 61, 62, 63, 64, 65, 66, 67, 68, 69, 70, 71, 72, 73, 74, 75, 76, 77, 78, 79, 80, 81, 82, 83, 84, 85, 86, 136, 137, 138, 139, 140, 141, 142, 143, 144, 145, 146, 147, 148, 149, 150, 151, 152, 153, 154, 155, 156, 157, 158, 159, 160, 161, 162, 163, 164] (by decide +kernel) (by decide +kernel)
set_option maxRecDepth 20000 in
theorem gX11_rounds_X7_price : GoodIn wsX11_rounds (wsV RX11 295 RX7 yX7_price wsX7_price) := goodIn_app (goodIn_of _ (by decide +kernel)) ggX11_rounds_X7_price
set_option maxRecDepth 20000 in
theorem ggX11_rounds_X7_seek : GoodIn wsX11_rounds wsX7_seek := goodIn_r _ [90, 91, 92, 93, 94, 95, 24, 96, 97, 98, 16, 99, 100, 101, 102, 103, 18, 104, 105, 106, 107, 108, 109, 110, 111, 112, 113, 114, 115, 116, 117, 118, 119, 136, 137, 138, 139] (by decide +kernel) (by decide +kernel)
set_option maxRecDepth 20000 in
theorem gX11_rounds_X7_seek : GoodIn wsX11_rounds (wsV RX11 299 RX7 yX7_seek wsX7_seek) := goodIn_app (goodIn_of _ (by decide +kernel)) ggX11_rounds_X7_seek
theorem dX11_rounds_0 : decode cX11_rounds 0 = .ok (.iload_n 1, 1) := by decide +kernel
theorem dX11_rounds_1 : decode cX11_rounds 1 = .ok (.iconst 1, 1) := by decide +kernel
theorem dX11_rounds_2 : decode cX11_rounds 2 = .ok (.iconst 4, 1) := by decide +kernel
theorem dX11_rounds_3 : decode cX11_rounds 3 = .ok (.invokestatic 105, 3) := by decide +kernel
theorem dX11_rounds_6 : decode cX11_rounds 6 = .ok (.ifCond .eq 23, 3) := by decide +kernel
theorem dX11_rounds_9 : decode cX11_rounds 9 = .ok (.iload_n 2, 1) := by decide +kernel
theorem dX11_rounds_10 : decode cX11_rounds 10 = .ok (.iconst 1, 1) := by decide +kernel
theorem dX11_rounds_11 : decode cX11_rounds 11 = .ok (.iconst 2, 1) := by decide +kernel
theorem dX11_rounds_12 : decode cX11_rounds 12 = .ok (.invokestatic 105, 3) := by decide +kernel
theorem dX11_rounds_15 : decode cX11_rounds 15 = .ok (.ifCond .eq 14, 3) := by decide +kernel
theorem dX11_rounds_18 : decode cX11_rounds 18 = .ok (.iload_n 3, 1) := by decide +kernel
theorem dX11_rounds_19 : decode cX11_rounds 19 = .ok (.iconst (-1), 1) := by decide +kernel
theorem dX11_rounds_20 : decode cX11_rounds 20 = .ok (.iload_n 1, 1) := by decide +kernel
theorem dX11_rounds_21 : decode cX11_rounds 21 = .ok (.iconst 1, 1) := by decide +kernel
theorem dX11_rounds_22 : decode cX11_rounds 22 = .ok (.isub, 1) := by decide +kernel
theorem dX11_rounds_23 : decode cX11_rounds 23 = .ok (.invokestatic 105, 3) := by decide +kernel
theorem dX11_rounds_26 : decode cX11_rounds 26 = .ok (.ifCond .ne 7, 3) := by decide +kernel
theorem dX11_rounds_29 : decode cX11_rounds 29 = .ok (.ldc2_w 133, 3) := by decide +kernel
theorem dX11_rounds_32 : decode cX11_rounds 32 = .ok (.lreturn, 1) := by decide +kernel
theorem dX11_rounds_33 : decode cX11_rounds 33 = .ok (.aload_n 0, 1) := by decide +kernel
theorem dX11_rounds_34 : decode cX11_rounds 34 = .ok (.getfield 75, 3) := by decide +kernel
theorem dX11_rounds_37 : decode cX11_rounds 37 = .ok (.aload_n 0, 1) := by decide +kernel
theorem dX11_rounds_38 : decode cX11_rounds 38 = .ok (.getfield 68, 3) := by decide +kernel
theorem dX11_rounds_41 : decode cX11_rounds 41 = .ok (.aload_n 0, 1) := by decide +kernel
theorem dX11_rounds_42 : decode cX11_rounds 42 = .ok (.getfield 10, 3) := by decide +kernel
theorem dX11_rounds_45 : decode cX11_rounds 45 = .ok (.aload_n 0, 1) := by decide +kernel
theorem dX11_rounds_46 : decode cX11_rounds 46 = .ok (.getfield 54, 3) := by decide +kernel
theorem dX11_rounds_49 : decode cX11_rounds 49 = .ok (.aload_n 0, 1) := by decide +kernel
theorem dX11_rounds_50 : decode cX11_rounds 50 = .ok (.getfield 102, 3) := by decide +kernel
theorem dX11_rounds_53 : decode cX11_rounds 53 = .ok (.iload_n 1, 1) := by decide +kernel
theorem dX11_rounds_54 : decode cX11_rounds 54 = .ok (.invokevirtual 295, 3) := by decide +kernel
theorem dX11_rounds_57 : decode cX11_rounds 57 = .ok (.aload_n 0, 1) := by decide +kernel
theorem dX11_rounds_58 : decode cX11_rounds 58 = .ok (.getfield 75, 3) := by decide +kernel
theorem dX11_rounds_61 : decode cX11_rounds 61 = .ok (.iload_n 1, 1) := by decide +kernel
theorem dX11_rounds_62 : decode cX11_rounds 62 = .ok (.iload_n 2, 1) := by decide +kernel
theorem dX11_rounds_63 : decode cX11_rounds 63 = .ok (.invokevirtual 299, 3) := by decide +kernel
theorem dX11_rounds_66 : decode cX11_rounds 66 = .ok (.iload_n 3, 1) := by decide +kernel
theorem dX11_rounds_67 : decode cX11_rounds 67 = .ok (.iconst (-1), 1) := by decide +kernel
theorem dX11_rounds_68 : decode cX11_rounds 68 = .ok (.if_icmp .ne 13, 3) := by decide +kernel
theorem dX11_rounds_71 : decode cX11_rounds 71 = .ok (.aload_n 0, 1) := by decide +kernel
theorem dX11_rounds_72 : decode cX11_rounds 72 = .ok (.getfield 75, 3) := by decide +kernel
theorem dX11_rounds_75 : decode cX11_rounds 75 = .ok (.getfield 302, 3) := by decide +kernel
theorem dX11_rounds_78 : decode cX11_rounds 78 = .ok (.goto 13, 3) := by decide +kernel
theorem dX11_rounds_81 : decode cX11_rounds 81 = .ok (.aload_n 0, 1) := by decide +kernel
theorem dX11_rounds_82 : decode cX11_rounds 82 = .ok (.getfield 75, 3) := by decide +kernel
theorem dX11_rounds_85 : decode cX11_rounds 85 = .ok (.getfield 303, 3) := by decide +kernel
theorem dX11_rounds_88 : decode cX11_rounds 88 = .ok (.iload_n 3, 1) := by decide +kernel
theorem dX11_rounds_89 : decode cX11_rounds 89 = .ok (.iaload, 1) := by decide +kernel
theorem dX11_rounds_90 : decode cX11_rounds 90 = .ok (.i2l, 1) := by decide +kernel
theorem dX11_rounds_91 : decode cX11_rounds 91 = .ok (.lreturn, 1) := by decide +kernel
set_option maxRecDepth 20000 in
theorem ggX11_people_X11_isDistrict : GoodIn wsX11_people wsX11_isDistrict := goodIn_r _ [6, 7, 8, 5, 9] (by decide +kernel) (by decide +kernel)
set_option maxRecDepth 20000 in
theorem gX11_people_X11_isDistrict : GoodIn wsX11_people (va_wsS RX11 214 yX11_isDistrict wsX11_isDistrict) := goodIn_app (goodIn_of _ (by decide +kernel)) ggX11_people_X11_isDistrict
set_option maxRecDepth 20000 in
theorem ggX11_people_X11_within : GoodIn wsX11_people wsX11_within := goodIn_r _ [9] (by decide +kernel) (by decide +kernel)
set_option maxRecDepth 20000 in
theorem gX11_people_X11_within : GoodIn wsX11_people (va_wsS RX11 105 yX11_within wsX11_within) := goodIn_app (goodIn_of _ (by decide +kernel)) ggX11_people_X11_within
set_option maxRecDepth 20000 in
theorem ggX11_people_X1_put : GoodIn wsX11_people wsX1_put := goodIn_r _ [14, 15, 16, 17, 18, 35, 36, 37, 38] (by decide +kernel) (by decide +kernel)
set_option maxRecDepth 20000 in
theorem gX11_people_X1_put : GoodIn wsX11_people (wsV RX11 307 RX1 yX1_put wsX1_put) := goodIn_app (goodIn_of _ (by decide +kernel)) ggX11_people_X1_put
theorem dX11_people_0 : decode cX11_people 0 = .ok (.iload_n 1, 1) := by decide +kernel
theorem dX11_people_1 : decode cX11_people 1 = .ok (.invokestatic 214, 3) := by decide +kernel
theorem dX11_people_4 : decode cX11_people 4 = .ok (.ifCond .ne 5, 3) := by decide +kernel
theorem dX11_people_7 : decode cX11_people 7 = .ok (.iconst (-1), 1) := by decide +kernel
theorem dX11_people_8 : decode cX11_people 8 = .ok (.ireturn, 1) := by decide +kernel
theorem dX11_people_9 : decode cX11_people 9 = .ok (.iload_n 2, 1) := by decide +kernel
theorem dX11_people_10 : decode cX11_people 10 = .ok (.iconst 0, 1) := by decide +kernel
theorem dX11_people_11 : decode cX11_people 11 = .ok (.ldc_w 306, 3) := by decide +kernel
theorem dX11_people_14 : decode cX11_people 14 = .ok (.invokestatic 105, 3) := by decide +kernel
theorem dX11_people_17 : decode cX11_people 17 = .ok (.ifCond .eq 14, 3) := by decide +kernel
theorem dX11_people_20 : decode cX11_people 20 = .ok (.iload_n 3, 1) := by decide +kernel
theorem dX11_people_21 : decode cX11_people 21 = .ok (.iconst 0, 1) := by decide +kernel
theorem dX11_people_22 : decode cX11_people 22 = .ok (.ldc_w 306, 3) := by decide +kernel
theorem dX11_people_25 : decode cX11_people 25 = .ok (.invokestatic 105, 3) := by decide +kernel
theorem dX11_people_28 : decode cX11_people 28 = .ok (.ifCond .ne 5, 3) := by decide +kernel
theorem dX11_people_31 : decode cX11_people 31 = .ok (.iconst (-1), 1) := by decide +kernel
theorem dX11_people_32 : decode cX11_people 32 = .ok (.ireturn, 1) := by decide +kernel
theorem dX11_people_33 : decode cX11_people 33 = .ok (.iload_n 2, 1) := by decide +kernel
theorem dX11_people_34 : decode cX11_people 34 = .ok (.iload_n 3, 1) := by decide +kernel
theorem dX11_people_35 : decode cX11_people 35 = .ok (.iadd, 1) := by decide +kernel
theorem dX11_people_36 : decode cX11_people 36 = .ok (.ldc_w 306, 3) := by decide +kernel
theorem dX11_people_39 : decode cX11_people 39 = .ok (.if_icmp .le 5, 3) := by decide +kernel
theorem dX11_people_42 : decode cX11_people 42 = .ok (.iconst (-1), 1) := by decide +kernel
theorem dX11_people_43 : decode cX11_people 43 = .ok (.ireturn, 1) := by decide +kernel
theorem dX11_people_44 : decode cX11_people 44 = .ok (.iload 4, 2) := by decide +kernel
theorem dX11_people_46 : decode cX11_people 46 = .ok (.iconst 0, 1) := by decide +kernel
theorem dX11_people_47 : decode cX11_people 47 = .ok (.sipush 500, 3) := by decide +kernel
theorem dX11_people_50 : decode cX11_people 50 = .ok (.invokestatic 105, 3) := by decide +kernel
theorem dX11_people_53 : decode cX11_people 53 = .ok (.ifCond .eq 15, 3) := by decide +kernel
theorem dX11_people_56 : decode cX11_people 56 = .ok (.iload 5, 2) := by decide +kernel
theorem dX11_people_58 : decode cX11_people 58 = .ok (.iconst 0, 1) := by decide +kernel
theorem dX11_people_59 : decode cX11_people 59 = .ok (.sipush 500, 3) := by decide +kernel
theorem dX11_people_62 : decode cX11_people 62 = .ok (.invokestatic 105, 3) := by decide +kernel
theorem dX11_people_65 : decode cX11_people 65 = .ok (.ifCond .ne 5, 3) := by decide +kernel
theorem dX11_people_68 : decode cX11_people 68 = .ok (.iconst (-1), 1) := by decide +kernel
theorem dX11_people_69 : decode cX11_people 69 = .ok (.ireturn, 1) := by decide +kernel
theorem dX11_people_70 : decode cX11_people 70 = .ok (.aload_n 0, 1) := by decide +kernel
theorem dX11_people_71 : decode cX11_people 71 = .ok (.getfield 82, 3) := by decide +kernel
theorem dX11_people_74 : decode cX11_people 74 = .ok (.iload_n 1, 1) := by decide +kernel
theorem dX11_people_75 : decode cX11_people 75 = .ok (.iload_n 2, 1) := by decide +kernel
theorem dX11_people_76 : decode cX11_people 76 = .ok (.iload_n 3, 1) := by decide +kernel
theorem dX11_people_77 : decode cX11_people 77 = .ok (.iload 4, 2) := by decide +kernel
theorem dX11_people_79 : decode cX11_people 79 = .ok (.iload 5, 2) := by decide +kernel
theorem dX11_people_81 : decode cX11_people 81 = .ok (.invokevirtual 307, 3) := by decide +kernel
theorem dX11_people_84 : decode cX11_people 84 = .ok (.iconst 0, 1) := by decide +kernel
theorem dX11_people_85 : decode cX11_people 85 = .ok (.ireturn, 1) := by decide +kernel
set_option maxRecDepth 20000 in
theorem ggX11_seasons_X11_within : GoodIn wsX11_seasons wsX11_within := goodIn_r _ [5] (by decide +kernel) (by decide +kernel)
set_option maxRecDepth 20000 in
theorem gX11_seasons_X11_within : GoodIn wsX11_seasons (va_wsS RX11 105 yX11_within wsX11_within) := goodIn_app (goodIn_of _ (by decide +kernel)) ggX11_seasons_X11_within
set_option maxRecDepth 20000 in
theorem ggX11_seasons_X1_passSeason : GoodIn wsX11_seasons wsX1_passSeason := goodIn_r _ [10, 11, 12, 13, 14, 15, 9, 16, 17, 18, 39, 40, 41, 42] (by decide +kernel) (by decide +kernel)
set_option maxRecDepth 20000 in
theorem gX11_seasons_X1_passSeason : GoodIn wsX11_seasons (wsV RX11 308 RX1 yX1_passSeason wsX1_passSeason) := goodIn_app (goodIn_of _ (by decide +kernel)) ggX11_seasons_X1_passSeason
set_option maxRecDepth 20000 in
theorem ggX11_seasons_X1_allNew : GoodIn wsX11_seasons wsX1_allNew := goodIn_r _ [22, 12, 39, 40, 41, 42] (by decide +kernel) (by decide +kernel)
set_option maxRecDepth 20000 in
theorem gX11_seasons_X1_allNew : GoodIn wsX11_seasons (wsV RX11 311 RX1 yX1_allNew wsX1_allNew) := goodIn_app (goodIn_of _ (by decide +kernel)) ggX11_seasons_X1_allNew
theorem dX11_seasons_0 : decode cX11_seasons 0 = .ok (.iload_n 1, 1) := by decide +kernel
theorem dX11_seasons_1 : decode cX11_seasons 1 = .ok (.iconst 1, 1) := by decide +kernel
theorem dX11_seasons_2 : decode cX11_seasons 2 = .ok (.bipush 100, 2) := by decide +kernel
theorem dX11_seasons_4 : decode cX11_seasons 4 = .ok (.invokestatic 105, 3) := by decide +kernel
theorem dX11_seasons_7 : decode cX11_seasons 7 = .ok (.ifCond .ne 5, 3) := by decide +kernel
theorem dX11_seasons_10 : decode cX11_seasons 10 = .ok (.iconst (-1), 1) := by decide +kernel
theorem dX11_seasons_11 : decode cX11_seasons 11 = .ok (.ireturn, 1) := by decide +kernel
theorem dX11_seasons_12 : decode cX11_seasons 12 = .ok (.iconst 0, 1) := by decide +kernel
theorem dX11_seasons_13 : decode cX11_seasons 13 = .ok (.istore_n 2, 1) := by decide +kernel
theorem dX11_seasons_14 : decode cX11_seasons 14 = .ok (.iload_n 2, 1) := by decide +kernel
theorem dX11_seasons_15 : decode cX11_seasons 15 = .ok (.iload_n 1, 1) := by decide +kernel
theorem dX11_seasons_16 : decode cX11_seasons 16 = .ok (.if_icmp .ge 16, 3) := by decide +kernel
theorem dX11_seasons_19 : decode cX11_seasons 19 = .ok (.aload_n 0, 1) := by decide +kernel
theorem dX11_seasons_20 : decode cX11_seasons 20 = .ok (.getfield 82, 3) := by decide +kernel
theorem dX11_seasons_23 : decode cX11_seasons 23 = .ok (.invokevirtual 308, 3) := by decide +kernel
theorem dX11_seasons_26 : decode cX11_seasons 26 = .ok (.iinc 2 1, 3) := by decide +kernel
theorem dX11_seasons_29 : decode cX11_seasons 29 = .ok (.goto (-15), 3) := by decide +kernel
theorem dX11_seasons_32 : decode cX11_seasons 32 = .ok (.aload_n 0, 1) := by decide +kernel
theorem dX11_seasons_33 : decode cX11_seasons 33 = .ok (.getfield 82, 3) := by decide +kernel
theorem dX11_seasons_36 : decode cX11_seasons 36 = .ok (.invokevirtual 311, 3) := by decide +kernel
theorem dX11_seasons_39 : decode cX11_seasons 39 = .ok (.ireturn, 1) := by decide +kernel
set_option maxRecDepth 20000 in
theorem ggX11_uses_X11_isDistrict : GoodIn wsX11_uses wsX11_isDistrict := goodIn_r _ [7, 8, 9, 6, 10] (by decide +kernel) (by decide +kernel)
set_option maxRecDepth 20000 in
theorem gX11_uses_X11_isDistrict : GoodIn wsX11_uses (va_wsS RX11 214 yX11_isDistrict wsX11_isDistrict) := goodIn_app (goodIn_of _ (by decide +kernel)) ggX11_uses_X11_isDistrict
set_option maxRecDepth 20000 in
theorem ggX11_uses_X11_within : GoodIn wsX11_uses wsX11_within := goodIn_r _ [10] (by decide +kernel) (by decide +kernel)
set_option maxRecDepth 20000 in
theorem gX11_uses_X11_within : GoodIn wsX11_uses (va_wsS RX11 105 yX11_within wsX11_within) := goodIn_app (goodIn_of _ (by decide +kernel)) ggX11_uses_X11_within
set_option maxRecDepth 20000 in
theorem ggX11_uses_X1_seasonsTillHalf : GoodIn wsX11_uses wsX1_seasonsTillHalf := goodIn_r _ [15, 16, 17, 18, 19, 20, 14, 21, 22, 23, 40, 41, 42, 43] (by decide +kernel) (by decide +kernel)
set_option maxRecDepth 20000 in
theorem gX11_uses_X1_seasonsTillHalf : GoodIn wsX11_uses (wsV RX11 320 RX1 yX1_seasonsTillHalf wsX1_seasonsTillHalf) := goodIn_app (goodIn_of _ (by decide +kernel)) ggX11_uses_X1_seasonsTillHalf
theorem dX11_uses_0 : decode cX11_uses 0 = .ok (.iload_n 1, 1) := by decide +kernel
theorem dX11_uses_1 : decode cX11_uses 1 = .ok (.invokestatic 214, 3) := by decide +kernel
theorem dX11_uses_4 : decode cX11_uses 4 = .ok (.ifCond .eq 12, 3) := by decide +kernel
theorem dX11_uses_7 : decode cX11_uses 7 = .ok (.iload_n 2, 1) := by decide +kernel
theorem dX11_uses_8 : decode cX11_uses 8 = .ok (.iconst 0, 1) := by decide +kernel
theorem dX11_uses_9 : decode cX11_uses 9 = .ok (.iconst 2, 1) := by decide +kernel
theorem dX11_uses_10 : decode cX11_uses 10 = .ok (.invokestatic 105, 3) := by decide +kernel
theorem dX11_uses_13 : decode cX11_uses 13 = .ok (.ifCond .ne 5, 3) := by decide +kernel
theorem dX11_uses_16 : decode cX11_uses 16 = .ok (.iconst (-1), 1) := by decide +kernel
theorem dX11_uses_17 : decode cX11_uses 17 = .ok (.ireturn, 1) := by decide +kernel
theorem dX11_uses_18 : decode cX11_uses 18 = .ok (.iload_n 2, 1) := by decide +kernel
theorem dX11_uses_19 : decode cX11_uses 19 = .ok (.ifCond .ne 13, 3) := by decide +kernel
theorem dX11_uses_22 : decode cX11_uses 22 = .ok (.aload_n 0, 1) := by decide +kernel
theorem dX11_uses_23 : decode cX11_uses 23 = .ok (.getfield 82, 3) := by decide +kernel
theorem dX11_uses_26 : decode cX11_uses 26 = .ok (.getfield 314, 3) := by decide +kernel
theorem dX11_uses_29 : decode cX11_uses 29 = .ok (.iload_n 1, 1) := by decide +kernel
theorem dX11_uses_30 : decode cX11_uses 30 = .ok (.iaload, 1) := by decide +kernel
theorem dX11_uses_31 : decode cX11_uses 31 = .ok (.ireturn, 1) := by decide +kernel
theorem dX11_uses_32 : decode cX11_uses 32 = .ok (.iload_n 2, 1) := by decide +kernel
theorem dX11_uses_33 : decode cX11_uses 33 = .ok (.iconst 1, 1) := by decide +kernel
theorem dX11_uses_34 : decode cX11_uses 34 = .ok (.if_icmp .ne 13, 3) := by decide +kernel
theorem dX11_uses_37 : decode cX11_uses 37 = .ok (.aload_n 0, 1) := by decide +kernel
theorem dX11_uses_38 : decode cX11_uses 38 = .ok (.getfield 82, 3) := by decide +kernel
theorem dX11_uses_41 : decode cX11_uses 41 = .ok (.getfield 317, 3) := by decide +kernel
theorem dX11_uses_44 : decode cX11_uses 44 = .ok (.iload_n 1, 1) := by decide +kernel
theorem dX11_uses_45 : decode cX11_uses 45 = .ok (.iaload, 1) := by decide +kernel
theorem dX11_uses_46 : decode cX11_uses 46 = .ok (.ireturn, 1) := by decide +kernel
theorem dX11_uses_47 : decode cX11_uses 47 = .ok (.aload_n 0, 1) := by decide +kernel
theorem dX11_uses_48 : decode cX11_uses 48 = .ok (.getfield 82, 3) := by decide +kernel
theorem dX11_uses_51 : decode cX11_uses 51 = .ok (.iload_n 1, 1) := by decide +kernel
theorem dX11_uses_52 : decode cX11_uses 52 = .ok (.invokevirtual 320, 3) := by decide +kernel
theorem dX11_uses_55 : decode cX11_uses 55 = .ok (.ireturn, 1) := by decide +kernel
set_option maxRecDepth 20000 in
theorem ggX11_keep_X4_copyFrom : GoodIn wsX11_keep wsX4_copyFrom := goodIn_r _ [10, 11, 12, 13, 14, 15, 16, 17, 18, 19, 20, 21, 22, 23, 24, 25, 26, 27, 54, 55, 56, 57, 58, 59, 60, 61, 62, 63, 64, 65, 66] (by decide +kernel) (by decide +kernel)
set_option maxRecDepth 20000 in
theorem gX11_keep_X4_copyFrom : GoodIn wsX11_keep (wsV RX11 324 RX4 yX4_copyFrom wsX4_copyFrom) := goodIn_app (goodIn_of _ (by decide +kernel)) ggX11_keep_X4_copyFrom
set_option maxRecDepth 20000 in
theorem ggX11_keep_X1_copyFrom : GoodIn wsX11_keep wsX1_copyFrom := goodIn_r _ [32, 33, 34, 15, 16, 17, 35, 36, 37, 67, 68, 69, 70] (by decide +kernel) (by decide +kernel)
set_option maxRecDepth 20000 in
theorem gX11_keep_X1_copyFrom : GoodIn wsX11_keep (wsV RX11 328 RX1 yX1_copyFrom wsX1_copyFrom) := goodIn_app (goodIn_of _ (by decide +kernel)) ggX11_keep_X1_copyFrom
theorem dX11_keep_0 : decode cX11_keep 0 = .ok (.aload_n 0, 1) := by decide +kernel
theorem dX11_keep_1 : decode cX11_keep 1 = .ok (.getfield 98, 3) := by decide +kernel
theorem dX11_keep_4 : decode cX11_keep 4 = .ok (.iconst 2, 1) := by decide +kernel
theorem dX11_keep_5 : decode cX11_keep 5 = .ok (.if_icmp .lt 6, 3) := by decide +kernel
theorem dX11_keep_8 : decode cX11_keep 8 = .ok (.bipush (-3), 2) := by decide +kernel
theorem dX11_keep_10 : decode cX11_keep 10 = .ok (.ireturn, 1) := by decide +kernel
theorem dX11_keep_11 : decode cX11_keep 11 = .ok (.aload_n 0, 1) := by decide +kernel
theorem dX11_keep_12 : decode cX11_keep 12 = .ok (.getfield 90, 3) := by decide +kernel
theorem dX11_keep_15 : decode cX11_keep 15 = .ok (.aload_n 0, 1) := by decide +kernel
theorem dX11_keep_16 : decode cX11_keep 16 = .ok (.getfield 98, 3) := by decide +kernel
theorem dX11_keep_19 : decode cX11_keep 19 = .ok (.aaload, 1) := by decide +kernel
theorem dX11_keep_20 : decode cX11_keep 20 = .ok (.aload_n 0, 1) := by decide +kernel
theorem dX11_keep_21 : decode cX11_keep 21 = .ok (.getfield 68, 3) := by decide +kernel
theorem dX11_keep_24 : decode cX11_keep 24 = .ok (.invokevirtual 324, 3) := by decide +kernel
theorem dX11_keep_27 : decode cX11_keep 27 = .ok (.aload_n 0, 1) := by decide +kernel
theorem dX11_keep_28 : decode cX11_keep 28 = .ok (.getfield 94, 3) := by decide +kernel
theorem dX11_keep_31 : decode cX11_keep 31 = .ok (.aload_n 0, 1) := by decide +kernel
theorem dX11_keep_32 : decode cX11_keep 32 = .ok (.getfield 98, 3) := by decide +kernel
theorem dX11_keep_35 : decode cX11_keep 35 = .ok (.aaload, 1) := by decide +kernel
theorem dX11_keep_36 : decode cX11_keep 36 = .ok (.aload_n 0, 1) := by decide +kernel
theorem dX11_keep_37 : decode cX11_keep 37 = .ok (.getfield 82, 3) := by decide +kernel
theorem dX11_keep_40 : decode cX11_keep 40 = .ok (.invokevirtual 328, 3) := by decide +kernel
theorem dX11_keep_43 : decode cX11_keep 43 = .ok (.aload_n 0, 1) := by decide +kernel
theorem dX11_keep_44 : decode cX11_keep 44 = .ok (.dup, 1) := by decide +kernel
theorem dX11_keep_45 : decode cX11_keep 45 = .ok (.getfield 98, 3) := by decide +kernel
theorem dX11_keep_48 : decode cX11_keep 48 = .ok (.iconst 1, 1) := by decide +kernel
theorem dX11_keep_49 : decode cX11_keep 49 = .ok (.iadd, 1) := by decide +kernel
theorem dX11_keep_50 : decode cX11_keep 50 = .ok (.putfield 98, 3) := by decide +kernel
theorem dX11_keep_53 : decode cX11_keep 53 = .ok (.aload_n 0, 1) := by decide +kernel
theorem dX11_keep_54 : decode cX11_keep 54 = .ok (.getfield 98, 3) := by decide +kernel
theorem dX11_keep_57 : decode cX11_keep 57 = .ok (.ireturn, 1) := by decide +kernel
set_option maxRecDepth 20000 in
theorem ggX11_back_X4_copyFrom : GoodIn wsX11_back wsX4_copyFrom := goodIn_r _ [10, 11, 12, 13, 14, 15, 16, 17, 18, 19, 20, 21, 22, 23, 24, 25, 26, 27, 54, 55, 56, 57, 58, 59, 60, 61, 62, 63, 64, 65, 66] (by decide +kernel) (by decide +kernel)
set_option maxRecDepth 20000 in
theorem gX11_back_X4_copyFrom : GoodIn wsX11_back (wsV RX11 324 RX4 yX4_copyFrom wsX4_copyFrom) := goodIn_app (goodIn_of _ (by decide +kernel)) ggX11_back_X4_copyFrom
set_option maxRecDepth 20000 in
theorem ggX11_back_X1_copyFrom : GoodIn wsX11_back wsX1_copyFrom := goodIn_r _ [32, 33, 34, 15, 16, 17, 35, 36, 37, 67, 68, 69, 70] (by decide +kernel) (by decide +kernel)
set_option maxRecDepth 20000 in
theorem gX11_back_X1_copyFrom : GoodIn wsX11_back (wsV RX11 328 RX1 yX1_copyFrom wsX1_copyFrom) := goodIn_app (goodIn_of _ (by decide +kernel)) ggX11_back_X1_copyFrom
theorem dX11_back_0 : decode cX11_back 0 = .ok (.aload_n 0, 1) := by decide +kernel
theorem dX11_back_1 : decode cX11_back 1 = .ok (.getfield 98, 3) := by decide +kernel
theorem dX11_back_4 : decode cX11_back 4 = .ok (.ifCond .gt 6, 3) := by decide +kernel
theorem dX11_back_7 : decode cX11_back 7 = .ok (.bipush (-2), 2) := by decide +kernel
theorem dX11_back_9 : decode cX11_back 9 = .ok (.ireturn, 1) := by decide +kernel
theorem dX11_back_10 : decode cX11_back 10 = .ok (.aload_n 0, 1) := by decide +kernel
theorem dX11_back_11 : decode cX11_back 11 = .ok (.dup, 1) := by decide +kernel
theorem dX11_back_12 : decode cX11_back 12 = .ok (.getfield 98, 3) := by decide +kernel
theorem dX11_back_15 : decode cX11_back 15 = .ok (.iconst 1, 1) := by decide +kernel
theorem dX11_back_16 : decode cX11_back 16 = .ok (.isub, 1) := by decide +kernel
theorem dX11_back_17 : decode cX11_back 17 = .ok (.putfield 98, 3) := by decide +kernel
theorem dX11_back_20 : decode cX11_back 20 = .ok (.aload_n 0, 1) := by decide +kernel
theorem dX11_back_21 : decode cX11_back 21 = .ok (.getfield 68, 3) := by decide +kernel
theorem dX11_back_24 : decode cX11_back 24 = .ok (.aload_n 0, 1) := by decide +kernel
theorem dX11_back_25 : decode cX11_back 25 = .ok (.getfield 90, 3) := by decide +kernel
theorem dX11_back_28 : decode cX11_back 28 = .ok (.aload_n 0, 1) := by decide +kernel
theorem dX11_back_29 : decode cX11_back 29 = .ok (.getfield 98, 3) := by decide +kernel
theorem dX11_back_32 : decode cX11_back 32 = .ok (.aaload, 1) := by decide +kernel
theorem dX11_back_33 : decode cX11_back 33 = .ok (.invokevirtual 324, 3) := by decide +kernel
theorem dX11_back_36 : decode cX11_back 36 = .ok (.aload_n 0, 1) := by decide +kernel
theorem dX11_back_37 : decode cX11_back 37 = .ok (.getfield 82, 3) := by decide +kernel
theorem dX11_back_40 : decode cX11_back 40 = .ok (.aload_n 0, 1) := by decide +kernel
theorem dX11_back_41 : decode cX11_back 41 = .ok (.getfield 94, 3) := by decide +kernel
theorem dX11_back_44 : decode cX11_back 44 = .ok (.aload_n 0, 1) := by decide +kernel
theorem dX11_back_45 : decode cX11_back 45 = .ok (.getfield 98, 3) := by decide +kernel
theorem dX11_back_48 : decode cX11_back 48 = .ok (.aaload, 1) := by decide +kernel
theorem dX11_back_49 : decode cX11_back 49 = .ok (.invokevirtual 328, 3) := by decide +kernel
theorem dX11_back_52 : decode cX11_back 52 = .ok (.aload_n 0, 1) := by decide +kernel
theorem dX11_back_53 : decode cX11_back 53 = .ok (.getfield 98, 3) := by decide +kernel
theorem dX11_back_56 : decode cX11_back 56 = .ok (.ireturn, 1) := by decide +kernel
set_option maxRecDepth 20000 in
theorem ggX11_count_X4_howManySeized : GoodIn wsX11_count wsX4_howManySeized := goodIn_r _ [23, 24, 25, 87, 88, 89, 90, 91, 92, 93, 94, 95, 96, 97, 98, 99] (by decide +kernel) (by decide +kernel)
set_option maxRecDepth 20000 in
theorem gX11_count_X4_howManySeized : GoodIn wsX11_count (wsV RX11 333 RX4 yX4_howManySeized wsX4_howManySeized) := goodIn_app (goodIn_of _ (by decide +kernel)) ggX11_count_X4_howManySeized
theorem dX11_count_0 : decode cX11_count 0 = .ok (.iload_n 1, 1) := by decide +kernel
theorem dX11_count_1 : decode cX11_count 1 = .ok (.tableswitch 144 0 10 #[59, 67, 75, 83, 91, 99, 107, 115, 123, 131, 139], 59) := by decide +kernel
theorem dX11_count_60 : decode cX11_count 60 = .ok (.aload_n 0, 1) := by decide +kernel
theorem dX11_count_61 : decode cX11_count 61 = .ok (.getfield 10, 3) := by decide +kernel
theorem dX11_count_64 : decode cX11_count 64 = .ok (.getfield 110, 3) := by decide +kernel
theorem dX11_count_67 : decode cX11_count 67 = .ok (.ireturn, 1) := by decide +kernel
theorem dX11_count_68 : decode cX11_count 68 = .ok (.aload_n 0, 1) := by decide +kernel
theorem dX11_count_69 : decode cX11_count 69 = .ok (.getfield 19, 3) := by decide +kernel
theorem dX11_count_72 : decode cX11_count 72 = .ok (.getfield 331, 3) := by decide +kernel
theorem dX11_count_75 : decode cX11_count 75 = .ok (.ireturn, 1) := by decide +kernel
theorem dX11_count_76 : decode cX11_count 76 = .ok (.aload_n 0, 1) := by decide +kernel
theorem dX11_count_77 : decode cX11_count 77 = .ok (.getfield 33, 3) := by decide +kernel
theorem dX11_count_80 : decode cX11_count 80 = .ok (.getfield 164, 3) := by decide +kernel
theorem dX11_count_83 : decode cX11_count 83 = .ok (.ireturn, 1) := by decide +kernel
theorem dX11_count_84 : decode cX11_count 84 = .ok (.aload_n 0, 1) := by decide +kernel
theorem dX11_count_85 : decode cX11_count 85 = .ok (.getfield 40, 3) := by decide +kernel
theorem dX11_count_88 : decode cX11_count 88 = .ok (.getfield 175, 3) := by decide +kernel
theorem dX11_count_91 : decode cX11_count 91 = .ok (.ireturn, 1) := by decide +kernel
theorem dX11_count_92 : decode cX11_count 92 = .ok (.aload_n 0, 1) := by decide +kernel
theorem dX11_count_93 : decode cX11_count 93 = .ok (.getfield 47, 3) := by decide +kernel
theorem dX11_count_96 : decode cX11_count 96 = .ok (.getfield 199, 3) := by decide +kernel
theorem dX11_count_99 : decode cX11_count 99 = .ok (.ireturn, 1) := by decide +kernel
theorem dX11_count_100 : decode cX11_count 100 = .ok (.aload_n 0, 1) := by decide +kernel
theorem dX11_count_101 : decode cX11_count 101 = .ok (.getfield 54, 3) := by decide +kernel
theorem dX11_count_104 : decode cX11_count 104 = .ok (.getfield 332, 3) := by decide +kernel
theorem dX11_count_107 : decode cX11_count 107 = .ok (.ireturn, 1) := by decide +kernel
theorem dX11_count_108 : decode cX11_count 108 = .ok (.aload_n 0, 1) := by decide +kernel
theorem dX11_count_109 : decode cX11_count 109 = .ok (.getfield 61, 3) := by decide +kernel
theorem dX11_count_112 : decode cX11_count 112 = .ok (.getfield 242, 3) := by decide +kernel
theorem dX11_count_115 : decode cX11_count 115 = .ok (.ireturn, 1) := by decide +kernel
theorem dX11_count_116 : decode cX11_count 116 = .ok (.aload_n 0, 1) := by decide +kernel
theorem dX11_count_117 : decode cX11_count 117 = .ok (.getfield 68, 3) := by decide +kernel
theorem dX11_count_120 : decode cX11_count 120 = .ok (.getfield 259, 3) := by decide +kernel
theorem dX11_count_123 : decode cX11_count 123 = .ok (.ireturn, 1) := by decide +kernel
theorem dX11_count_124 : decode cX11_count 124 = .ok (.aload_n 0, 1) := by decide +kernel
theorem dX11_count_125 : decode cX11_count 125 = .ok (.getfield 68, 3) := by decide +kernel
theorem dX11_count_128 : decode cX11_count 128 = .ok (.getfield 261, 3) := by decide +kernel
theorem dX11_count_131 : decode cX11_count 131 = .ok (.ireturn, 1) := by decide +kernel
theorem dX11_count_132 : decode cX11_count 132 = .ok (.aload_n 0, 1) := by decide +kernel
theorem dX11_count_133 : decode cX11_count 133 = .ok (.getfield 68, 3) := by decide +kernel
theorem dX11_count_136 : decode cX11_count 136 = .ok (.invokevirtual 333, 3) := by decide +kernel
theorem dX11_count_139 : decode cX11_count 139 = .ok (.ireturn, 1) := by decide +kernel
theorem dX11_count_140 : decode cX11_count 140 = .ok (.aload_n 0, 1) := by decide +kernel
theorem dX11_count_141 : decode cX11_count 141 = .ok (.getfield 98, 3) := by decide +kernel
theorem dX11_count_144 : decode cX11_count 144 = .ok (.ireturn, 1) := by decide +kernel
theorem dX11_count_145 : decode cX11_count 145 = .ok (.iconst (-1), 1) := by decide +kernel
theorem dX11_count_146 : decode cX11_count 146 = .ok (.ireturn, 1) := by decide +kernel
theorem dJ6_bitCount_0f7a4_0 : decode cJ6_bitCount_0f7a4 0 = .ok (.iload_n 0, 1) := by decide +kernel
theorem dJ6_bitCount_0f7a4_1 : decode cJ6_bitCount_0f7a4 1 = .ok (.iload_n 0, 1) := by decide +kernel
theorem dJ6_bitCount_0f7a4_2 : decode cJ6_bitCount_0f7a4 2 = .ok (.iconst 1, 1) := by decide +kernel
theorem dJ6_bitCount_0f7a4_3 : decode cJ6_bitCount_0f7a4 3 = .ok (.iushr, 1) := by decide +kernel
theorem dJ6_bitCount_0f7a4_4 : decode cJ6_bitCount_0f7a4 4 = .ok (.ldc_w 265, 3) := by decide +kernel
theorem dJ6_bitCount_0f7a4_7 : decode cJ6_bitCount_0f7a4 7 = .ok (.iand, 1) := by decide +kernel
theorem dJ6_bitCount_0f7a4_8 : decode cJ6_bitCount_0f7a4 8 = .ok (.isub, 1) := by decide +kernel
theorem dJ6_bitCount_0f7a4_9 : decode cJ6_bitCount_0f7a4 9 = .ok (.istore_n 0, 1) := by decide +kernel
theorem dJ6_bitCount_0f7a4_10 : decode cJ6_bitCount_0f7a4 10 = .ok (.iload_n 0, 1) := by decide +kernel
theorem dJ6_bitCount_0f7a4_11 : decode cJ6_bitCount_0f7a4 11 = .ok (.ldc_w 266, 3) := by decide +kernel
theorem dJ6_bitCount_0f7a4_14 : decode cJ6_bitCount_0f7a4 14 = .ok (.iand, 1) := by decide +kernel
theorem dJ6_bitCount_0f7a4_15 : decode cJ6_bitCount_0f7a4 15 = .ok (.iload_n 0, 1) := by decide +kernel
theorem dJ6_bitCount_0f7a4_16 : decode cJ6_bitCount_0f7a4 16 = .ok (.iconst 2, 1) := by decide +kernel
theorem dJ6_bitCount_0f7a4_17 : decode cJ6_bitCount_0f7a4 17 = .ok (.iushr, 1) := by decide +kernel
theorem dJ6_bitCount_0f7a4_18 : decode cJ6_bitCount_0f7a4 18 = .ok (.ldc_w 266, 3) := by decide +kernel
theorem dJ6_bitCount_0f7a4_21 : decode cJ6_bitCount_0f7a4 21 = .ok (.iand, 1) := by decide +kernel
theorem dJ6_bitCount_0f7a4_22 : decode cJ6_bitCount_0f7a4 22 = .ok (.iadd, 1) := by decide +kernel
theorem dJ6_bitCount_0f7a4_23 : decode cJ6_bitCount_0f7a4 23 = .ok (.istore_n 0, 1) := by decide +kernel
theorem dJ6_bitCount_0f7a4_24 : decode cJ6_bitCount_0f7a4 24 = .ok (.iload_n 0, 1) := by decide +kernel
theorem dJ6_bitCount_0f7a4_25 : decode cJ6_bitCount_0f7a4 25 = .ok (.iload_n 0, 1) := by decide +kernel
theorem dJ6_bitCount_0f7a4_26 : decode cJ6_bitCount_0f7a4 26 = .ok (.iconst 4, 1) := by decide +kernel
theorem dJ6_bitCount_0f7a4_27 : decode cJ6_bitCount_0f7a4 27 = .ok (.iushr, 1) := by decide +kernel
theorem dJ6_bitCount_0f7a4_28 : decode cJ6_bitCount_0f7a4 28 = .ok (.iadd, 1) := by decide +kernel
theorem dJ6_bitCount_0f7a4_29 : decode cJ6_bitCount_0f7a4 29 = .ok (.ldc_w 267, 3) := by decide +kernel
theorem dJ6_bitCount_0f7a4_32 : decode cJ6_bitCount_0f7a4 32 = .ok (.iand, 1) := by decide +kernel
theorem dJ6_bitCount_0f7a4_33 : decode cJ6_bitCount_0f7a4 33 = .ok (.istore_n 0, 1) := by decide +kernel
theorem dJ6_bitCount_0f7a4_34 : decode cJ6_bitCount_0f7a4 34 = .ok (.iload_n 0, 1) := by decide +kernel
theorem dJ6_bitCount_0f7a4_35 : decode cJ6_bitCount_0f7a4 35 = .ok (.iload_n 0, 1) := by decide +kernel
theorem dJ6_bitCount_0f7a4_36 : decode cJ6_bitCount_0f7a4 36 = .ok (.bipush 8, 2) := by decide +kernel
theorem dJ6_bitCount_0f7a4_38 : decode cJ6_bitCount_0f7a4 38 = .ok (.iushr, 1) := by decide +kernel
theorem dJ6_bitCount_0f7a4_39 : decode cJ6_bitCount_0f7a4 39 = .ok (.iadd, 1) := by decide +kernel
theorem dJ6_bitCount_0f7a4_40 : decode cJ6_bitCount_0f7a4 40 = .ok (.istore_n 0, 1) := by decide +kernel
theorem dJ6_bitCount_0f7a4_41 : decode cJ6_bitCount_0f7a4 41 = .ok (.iload_n 0, 1) := by decide +kernel
theorem dJ6_bitCount_0f7a4_42 : decode cJ6_bitCount_0f7a4 42 = .ok (.iload_n 0, 1) := by decide +kernel
theorem dJ6_bitCount_0f7a4_43 : decode cJ6_bitCount_0f7a4 43 = .ok (.bipush 16, 2) := by decide +kernel
theorem dJ6_bitCount_0f7a4_45 : decode cJ6_bitCount_0f7a4 45 = .ok (.iushr, 1) := by decide +kernel
theorem dJ6_bitCount_0f7a4_46 : decode cJ6_bitCount_0f7a4 46 = .ok (.iadd, 1) := by decide +kernel
theorem dJ6_bitCount_0f7a4_47 : decode cJ6_bitCount_0f7a4 47 = .ok (.istore_n 0, 1) := by decide +kernel
theorem dJ6_bitCount_0f7a4_48 : decode cJ6_bitCount_0f7a4 48 = .ok (.iload_n 0, 1) := by decide +kernel
theorem dJ6_bitCount_0f7a4_49 : decode cJ6_bitCount_0f7a4 49 = .ok (.bipush 63, 2) := by decide +kernel
