def f_Ref_people (P0 : PI) (x1 : Int32) (x2 : Int32) (x3 : Int32) (x4 : Int32) (x5 : Int32) : Option (Int32 × PI) := mb_bd1 (f_Ref_in ((x1).toInt64) (0 : Int64) (5 : Int64)) (fun (r_1 : Int32) => (if r_1 = 0 then some ((-1 : Int32), P0) else mb_bd1 (f_Ref_in ((x2).toInt64) (0 : Int64) (100000 : Int64)) (fun (r_2 : Int32) => (if r_2 = 0 then some ((-1 : Int32), P0) else mb_bd1 (f_Ref_in ((x3).toInt64) (0 : Int64) ((((100000 : Int32) - x2)).toInt64)) (fun (r_3 : Int32) => (if r_3 = 0 then some ((-1 : Int32), P0) else mb_bd1 (f_Ref_in ((x4).toInt64) (0 : Int64) (500 : Int64)) (fun (r_4 : Int32) => (if r_4 = 0 then some ((-1 : Int32), P0) else mb_bd1 (f_Ref_in ((x5).toInt64) (0 : Int64) (500 : Int64)) (fun (r_5 : Int32) => (if r_5 = 0 then some ((-1 : Int32), P0) else mb_chk ((4 : Int32) * x1) 72 (mb_let (mb_u2 P0 23 ((4 : Int32) * x1).toNatClampNeg x2) (fun (P0_6 : PI) => mb_chk (((4 : Int32) * x1) + (1 : Int32)) 72 (mb_let (mb_u2 P0_6 23 (((4 : Int32) * x1) + (1 : Int32)).toNatClampNeg x3) (fun (P0_8 : PI) => mb_chk (((4 : Int32) * x1) + (2 : Int32)) 72 (mb_let (mb_u2 P0_8 23 (((4 : Int32) * x1) + (2 : Int32)).toNatClampNeg x4) (fun (P0_10 : PI) => mb_chk (((4 : Int32) * x1) + (3 : Int32)) 72 (mb_let (mb_u2 P0_10 23 (((4 : Int32) * x1) + (3 : Int32)).toNatClampNeg x5) (fun (P0_12 : PI) => some ((0 : Int32), P0_12)))))))))))))))))))
def rm_Ref_people : Room := { frames := 1, cells := 0, slots := 0, locals := 25 }
set_option maxHeartbeats 4000000 in
set_option maxRecDepth 100000 in
theorem c_Ref_people (l : Launch) (D : va_G) (k : Nat → ClassId) (sz : Nat) (b0 : Nat → Nat) (P0 : PI) (L0 : PL) (x1 : Int32) (x2 : Int32) (x3 : Int32) (x4 : Int32) (x5 : Int32) (z : Int32 × PI) (hf : f_Ref_people P0 x1 x2 x3 x4 x5 = some z) : Met l yX12_people wsX12_people rm_Ref_people (va_Pc [.ref (b0 0), .int x1, .int x2, .int x3, .int x4, .int x5] (gw_pre D vwCl (tyL k) (wC_Ref k b0 P0 L0) sz)) (va_Qi (fun (r : Int32) (_ : Unit) => r = z.1) (gw_b D vwCl (tyL k) (va_A (wC_Ref k b0 P0 L0) sz) (wC_Ref k b0 z.2 L0)) (va_A (wC_Ref k b0 P0 L0) sz)) 0 0 (va_A (wC_Ref k b0 P0 L0) sz) := by
  refine gm_i (cc := cX12_people) (maxL := 6) (by decide) rfl (Nat.le_of_ble_eq_true rfl) ?_
  intro p e s m args below meth c A Q ls H locs hx hb hml hown hts hK hN hA hP hD hS hl hret
  have hown : s.vm.findClass RX12 = some m.cls := hown
  have hl : lv_has ls 6 [(0, .ref (b0 0)), (1, .int x1), (2, .int x2), (3, .int x3), (4, .int x4), (5, .int x5)] := hl
  have iw_Ref : ∀ w ∈ u_ws RX12 TX12 42, w ∈ wsX12_people := by decide +kernel
  have fl_62 := hts (.fieldLink RX12 62 "OneMeasureModel" "folk" "[I") (by decide +kernel)
  have lc_200 := hts (.constantLong RX12 200 (5)) (by decide +kernel)
  have lc_286 := hts (.constantLong RX12 286 (100000)) (by decide +kernel)
  have lc_288 := hts (.constant RX12 288 (100000)) (by decide +kernel)
  have lc_289 := hts (.constantLong RX12 289 (500)) (by decide +kernel)
  unfold f_Ref_people at hf
  refine lv_iload_n hx hb dX12_people_0 rfl (lv_at hl 1 rfl) ?_
  refine lv_i2l hx hb dX12_people_1 rfl ?_
  refine lv_lconst (v := 0) hx hb dX12_people_2 (by decide) ?_
  refine lv_ldc2 (v := (5)) hx hb hown lc_200 dX12_people_3 ?_
  obtain ⟨r_1, hz, hf⟩ := mb_bd1_s hf
  refine gc_i (r0 := r_1) (ws' := (wC_Ref k b0 P0 L0)) (wr := (wC_Ref k b0 P0 L0)) (va_runS (As := [.long (x1).toInt64, .long (0 : Int64), .long (5 : Int64)]) (rest := []) ⟨hx, hb, hml, hown, hts⟩ (c_Ref_in l D k H.size ((x1).toInt64) (0 : Int64) (5 : Int64) r_1 hz) (cwS 3 hts gX12_people_X12_in rfl rfl rfl (by decide +kernel) ⟨Nat.le_of_ble_eq_true rfl, Nat.le_of_ble_eq_true rfl⟩) (gp_S hP hD hK hN [] (by decide +kernel) rfl) rfl rfl hl.1 rfl (lv_room (Nat.le_of_ble_eq_true rfl)) dX12_people_6 ⟨Nat.zero_le _, Nat.zero_le _⟩) hP hD hS hA [] [0, 1, 2, 3, 4, 5, 6, 7, 8, 9, 10, 11, 12, 13, 14, 15, 16, 17, 18, 19, 20, 21, 22, 23, 24, 25] rfl rfl (by decide +kernel) (by decide +kernel) [0, 1, 2, 3, 4, 5, 6, 7, 8, 9, 10, 11, 12, 13, 14, 15, 16, 17, 18, 19, 20, 21, 22, 23, 24, 25] (by decide +kernel) rfl (fun H locs hP hD hS => ?_)
  clear hz
  refine lv_if_eq (tgt := 65) hx hb dX12_people_9 (by decide) (fun c_18 => ?_) (fun c_18 => ?_)
  · have hf := mb_if_t c_18 hf
    refine lv_iconst (v := (-1)) hx hb dX12_people_65 (by decide) ?_
    have hz := Option.some.inj hf
    subst hz
    exact hret _ _ _ _ dX12_people_66 hP hD hS
  · have hf := mb_if_f c_18 hf
    refine lv_iload_n hx hb dX12_people_12 rfl (lv_at hl 2 rfl) ?_
    refine lv_i2l hx hb dX12_people_13 rfl ?_
    refine lv_lconst (v := 0) hx hb dX12_people_14 (by decide) ?_
    refine lv_ldc2 (v := (100000)) hx hb hown lc_286 dX12_people_15 ?_
    obtain ⟨r_2, hz, hf⟩ := mb_bd1_s hf
    refine gc_i (r0 := r_2) (ws' := (wC_Ref k b0 P0 L0)) (wr := (wC_Ref k b0 P0 L0)) (va_runS (As := [.long (x2).toInt64, .long (0 : Int64), .long (100000 : Int64)]) (rest := []) ⟨hx, hb, hml, hown, hts⟩ (c_Ref_in l D k H.size ((x2).toInt64) (0 : Int64) (100000 : Int64) r_2 hz) (cwS 3 hts gX12_people_X12_in rfl rfl rfl (by decide +kernel) ⟨Nat.le_of_ble_eq_true rfl, Nat.le_of_ble_eq_true rfl⟩) (gp_S hP hD hK hN [] (by decide +kernel) rfl) rfl rfl hl.1 rfl (lv_room (Nat.le_of_ble_eq_true rfl)) dX12_people_18 ⟨Nat.zero_le _, Nat.zero_le _⟩) hP hD hS hA [] [0, 1, 2, 3, 4, 5, 6, 7, 8, 9, 10, 11, 12, 13, 14, 15, 16, 17, 18, 19, 20, 21, 22, 23, 24, 25] rfl rfl (by decide +kernel) (by decide +kernel) [0, 1, 2, 3, 4, 5, 6, 7, 8, 9, 10, 11, 12, 13, 14, 15, 16, 17, 18, 19, 20, 21, 22, 23, 24, 25] (by decide +kernel) rfl (fun H locs hP hD hS => ?_)
    clear hz
    refine lv_if_eq (tgt := 65) hx hb dX12_people_21 (by decide) (fun c_17 => ?_) (fun c_17 => ?_)
    · have hf := mb_if_t c_17 hf
      refine lv_iconst (v := (-1)) hx hb dX12_people_65 (by decide) ?_
      have hz := Option.some.inj hf
      subst hz
      exact hret _ _ _ _ dX12_people_66 hP hD hS
    · have hf := mb_if_f c_17 hf
      refine lv_iload_n hx hb dX12_people_24 rfl (lv_at hl 3 rfl) ?_
      refine lv_i2l hx hb dX12_people_25 rfl ?_
      refine lv_lconst (v := 0) hx hb dX12_people_26 (by decide) ?_
      refine lv_ldcw (v := (100000)) hx hb hown lc_288 dX12_people_27 ?_
      refine lv_iload_n hx hb dX12_people_30 rfl (lv_at hl 2 rfl) ?_
      refine lv_isub hx hb dX12_people_31 ?_
      refine lv_i2l hx hb dX12_people_32 rfl ?_
      obtain ⟨r_3, hz, hf⟩ := mb_bd1_s hf
      refine gc_i (r0 := r_3) (ws' := (wC_Ref k b0 P0 L0)) (wr := (wC_Ref k b0 P0 L0)) (va_runS (As := [.long (x3).toInt64, .long (0 : Int64), .long (((100000 : Int32) - x2)).toInt64]) (rest := []) ⟨hx, hb, hml, hown, hts⟩ (c_Ref_in l D k H.size ((x3).toInt64) (0 : Int64) ((((100000 : Int32) - x2)).toInt64) r_3 hz) (cwS 3 hts gX12_people_X12_in rfl rfl rfl (by decide +kernel) ⟨Nat.le_of_ble_eq_true rfl, Nat.le_of_ble_eq_true rfl⟩) (gp_S hP hD hK hN [] (by decide +kernel) rfl) rfl rfl hl.1 rfl (lv_room (Nat.le_of_ble_eq_true rfl)) dX12_people_33 ⟨Nat.zero_le _, Nat.zero_le _⟩) hP hD hS hA [] [0, 1, 2, 3, 4, 5, 6, 7, 8, 9, 10, 11, 12, 13, 14, 15, 16, 17, 18, 19, 20, 21, 22, 23, 24, 25] rfl rfl (by decide +kernel) (by decide +kernel) [0, 1, 2, 3, 4, 5, 6, 7, 8, 9, 10, 11, 12, 13, 14, 15, 16, 17, 18, 19, 20, 21, 22, 23, 24, 25] (by decide +kernel) rfl (fun H locs hP hD hS => ?_)
      clear hz
      refine lv_if_eq (tgt := 65) hx hb dX12_people_36 (by decide) (fun c_16 => ?_) (fun c_16 => ?_)
      · have hf := mb_if_t c_16 hf
        refine lv_iconst (v := (-1)) hx hb dX12_people_65 (by decide) ?_
        have hz := Option.some.inj hf
        subst hz
        exact hret _ _ _ _ dX12_people_66 hP hD hS
      · have hf := mb_if_f c_16 hf
        refine lv_iload hx hb dX12_people_39 (lv_at hl 4 rfl) ?_
        refine lv_i2l hx hb dX12_people_41 rfl ?_
        refine lv_lconst (v := 0) hx hb dX12_people_42 (by decide) ?_
        refine lv_ldc2 (v := (500)) hx hb hown lc_289 dX12_people_43 ?_
        obtain ⟨r_4, hz, hf⟩ := mb_bd1_s hf
        refine gc_i (r0 := r_4) (ws' := (wC_Ref k b0 P0 L0)) (wr := (wC_Ref k b0 P0 L0)) (va_runS (As := [.long (x4).toInt64, .long (0 : Int64), .long (500 : Int64)]) (rest := []) ⟨hx, hb, hml, hown, hts⟩ (c_Ref_in l D k H.size ((x4).toInt64) (0 : Int64) (500 : Int64) r_4 hz) (cwS 3 hts gX12_people_X12_in rfl rfl rfl (by decide +kernel) ⟨Nat.le_of_ble_eq_true rfl, Nat.le_of_ble_eq_true rfl⟩) (gp_S hP hD hK hN [] (by decide +kernel) rfl) rfl rfl hl.1 rfl (lv_room (Nat.le_of_ble_eq_true rfl)) dX12_people_46 ⟨Nat.zero_le _, Nat.zero_le _⟩) hP hD hS hA [] [0, 1, 2, 3, 4, 5, 6, 7, 8, 9, 10, 11, 12, 13, 14, 15, 16, 17, 18, 19, 20, 21, 22, 23, 24, 25] rfl rfl (by decide +kernel) (by decide +kernel) [0, 1, 2, 3, 4, 5, 6, 7, 8, 9, 10, 11, 12, 13, 14, 15, 16, 17, 18, 19, 20, 21, 22, 23, 24, 25] (by decide +kernel) rfl (fun H locs hP hD hS => ?_)
        clear hz
        refine lv_if_eq (tgt := 65) hx hb dX12_people_49 (by decide) (fun c_15 => ?_) (fun c_15 => ?_)
        · have hf := mb_if_t c_15 hf
          refine lv_iconst (v := (-1)) hx hb dX12_people_65 (by decide) ?_
          have hz := Option.some.inj hf
          subst hz
          exact hret _ _ _ _ dX12_people_66 hP hD hS
        · have hf := mb_if_f c_15 hf
          refine lv_iload hx hb dX12_people_52 (lv_at hl 5 rfl) ?_
          refine lv_i2l hx hb dX12_people_54 rfl ?_
          refine lv_lconst (v := 0) hx hb dX12_people_55 (by decide) ?_
          refine lv_ldc2 (v := (500)) hx hb hown lc_289 dX12_people_56 ?_
          obtain ⟨r_5, hz, hf⟩ := mb_bd1_s hf
          refine gc_i (r0 := r_5) (ws' := (wC_Ref k b0 P0 L0)) (wr := (wC_Ref k b0 P0 L0)) (va_runS (As := [.long (x5).toInt64, .long (0 : Int64), .long (500 : Int64)]) (rest := []) ⟨hx, hb, hml, hown, hts⟩ (c_Ref_in l D k H.size ((x5).toInt64) (0 : Int64) (500 : Int64) r_5 hz) (cwS 3 hts gX12_people_X12_in rfl rfl rfl (by decide +kernel) ⟨Nat.le_of_ble_eq_true rfl, Nat.le_of_ble_eq_true rfl⟩) (gp_S hP hD hK hN [] (by decide +kernel) rfl) rfl rfl hl.1 rfl (lv_room (Nat.le_of_ble_eq_true rfl)) dX12_people_59 ⟨Nat.zero_le _, Nat.zero_le _⟩) hP hD hS hA [] [0, 1, 2, 3, 4, 5, 6, 7, 8, 9, 10, 11, 12, 13, 14, 15, 16, 17, 18, 19, 20, 21, 22, 23, 24, 25] rfl rfl (by decide +kernel) (by decide +kernel) [0, 1, 2, 3, 4, 5, 6, 7, 8, 9, 10, 11, 12, 13, 14, 15, 16, 17, 18, 19, 20, 21, 22, 23, 24, 25] (by decide +kernel) rfl (fun H locs hP hD hS => ?_)
          clear hz
          refine lv_if_ne (tgt := 67) hx hb dX12_people_62 (by decide) (fun c_14 => ?_) (fun c_14 => ?_)
          · have hf := mb_if_f c_14 hf
            refine lv_aload_n hx hb dX12_people_67 rfl (lv_at hl 0 rfl) ?_
            refine va_get (D := D) (ci := 12) (v := .ref (b0 23)) (C := RX12) (T := TX12) (N := 42) hx hb hts iw_Ref hown hK hP 0 rfl rfl 22 (by decide) fl_62 (fun _ h9 => h9) rfl dX12_people_68 ?_
            refine lv_iconst (v := 4) hx hb dX12_people_71 (by decide) ?_
            refine lv_iload_n hx hb dX12_people_72 rfl (lv_at hl 1 rfl) ?_
            refine lv_imul hx hb dX12_people_73 ?_
            refine lv_iload_n hx hb dX12_people_74 rfl (lv_at hl 2 rfl) ?_
            obtain ⟨h_7, hf⟩ := mb_chk_s hf
            obtain ⟨P0_6, e_, hf⟩ := mb_let_s hf
            refine va_iast hx hb hK hP hD hS 18 0 rfl rfl h_7 dX12_people_75 (fun H locs hP hD hS => ?_)
            have hP : va_P D vwCl (wC_Ref k b0 P0_6 L0) H := by rw [e_]; exact hP
            have hD : va_D A (wC_Ref k b0 P0_6 L0) := by rw [e_]; exact hD
            clear e_
            refine lv_aload_n hx hb dX12_people_76 rfl (lv_at hl 0 rfl) ?_
            refine va_get (D := D) (ci := 12) (v := .ref (b0 23)) (C := RX12) (T := TX12) (N := 42) hx hb hts iw_Ref hown hK hP 0 rfl rfl 22 (by decide) fl_62 (fun _ h9 => h9) rfl dX12_people_77 ?_
            refine lv_iconst (v := 4) hx hb dX12_people_80 (by decide) ?_
            refine lv_iload_n hx hb dX12_people_81 rfl (lv_at hl 1 rfl) ?_
            refine lv_imul hx hb dX12_people_82 ?_
            refine lv_iconst (v := 1) hx hb dX12_people_83 (by decide) ?_
            refine lv_iadd hx hb dX12_people_84 ?_
            refine lv_iload_n hx hb dX12_people_85 rfl (lv_at hl 3 rfl) ?_
            obtain ⟨h_9, hf⟩ := mb_chk_s hf
            obtain ⟨P0_8, e_, hf⟩ := mb_let_s hf
            refine va_iast hx hb hK hP hD hS 18 0 rfl rfl h_9 dX12_people_86 (fun H locs hP hD hS => ?_)
            have hP : va_P D vwCl (wC_Ref k b0 P0_8 L0) H := by rw [e_]; exact hP
            have hD : va_D A (wC_Ref k b0 P0_8 L0) := by rw [e_]; exact hD
            clear e_
            refine lv_aload_n hx hb dX12_people_87 rfl (lv_at hl 0 rfl) ?_
            refine va_get (D := D) (ci := 12) (v := .ref (b0 23)) (C := RX12) (T := TX12) (N := 42) hx hb hts iw_Ref hown hK hP 0 rfl rfl 22 (by decide) fl_62 (fun _ h9 => h9) rfl dX12_people_88 ?_
            refine lv_iconst (v := 4) hx hb dX12_people_91 (by decide) ?_
            refine lv_iload_n hx hb dX12_people_92 rfl (lv_at hl 1 rfl) ?_
            refine lv_imul hx hb dX12_people_93 ?_
            refine lv_iconst (v := 2) hx hb dX12_people_94 (by decide) ?_
            refine lv_iadd hx hb dX12_people_95 ?_
            refine lv_iload hx hb dX12_people_96 (lv_at hl 4 rfl) ?_
            obtain ⟨h_11, hf⟩ := mb_chk_s hf
            obtain ⟨P0_10, e_, hf⟩ := mb_let_s hf
            refine va_iast hx hb hK hP hD hS 18 0 rfl rfl h_11 dX12_people_98 (fun H locs hP hD hS => ?_)
            have hP : va_P D vwCl (wC_Ref k b0 P0_10 L0) H := by rw [e_]; exact hP
            have hD : va_D A (wC_Ref k b0 P0_10 L0) := by rw [e_]; exact hD
            clear e_
            refine lv_aload_n hx hb dX12_people_99 rfl (lv_at hl 0 rfl) ?_
            refine va_get (D := D) (ci := 12) (v := .ref (b0 23)) (C := RX12) (T := TX12) (N := 42) hx hb hts iw_Ref hown hK hP 0 rfl rfl 22 (by decide) fl_62 (fun _ h9 => h9) rfl dX12_people_100 ?_
            refine lv_iconst (v := 4) hx hb dX12_people_103 (by decide) ?_
            refine lv_iload_n hx hb dX12_people_104 rfl (lv_at hl 1 rfl) ?_
            refine lv_imul hx hb dX12_people_105 ?_
            refine lv_iconst (v := 3) hx hb dX12_people_106 (by decide) ?_
            refine lv_iadd hx hb dX12_people_107 ?_
            refine lv_iload hx hb dX12_people_108 (lv_at hl 5 rfl) ?_
            obtain ⟨h_13, hf⟩ := mb_chk_s hf
            obtain ⟨P0_12, e_, hf⟩ := mb_let_s hf
            refine va_iast hx hb hK hP hD hS 18 0 rfl rfl h_13 dX12_people_110 (fun H locs hP hD hS => ?_)
            have hP : va_P D vwCl (wC_Ref k b0 P0_12 L0) H := by rw [e_]; exact hP
            have hD : va_D A (wC_Ref k b0 P0_12 L0) := by rw [e_]; exact hD
            clear e_
            refine lv_iconst (v := 0) hx hb dX12_people_111 (by decide) ?_
            have hz := Option.some.inj hf
            subst hz
            exact hret _ _ _ _ dX12_people_112 hP hD hS
          · have hf := mb_if_t c_14 hf
            refine lv_iconst (v := (-1)) hx hb dX12_people_65 (by decide) ?_
            have hz := Option.some.inj hf
            subst hz
            exact hret _ _ _ _ dX12_people_66 hP hD hS
def f_Ref_season (P0 : PI) (x1 : Int32) : Option (PI) := mb_chk (((4 : Int32) * x1) + (2 : Int32)) 72 (mb_chk (((4 : Int32) * x1) + (3 : Int32)) 72 (mb_dvi (1000 : Int32) (mb_let (((P0 0 40) * ((P0 23 (((4 : Int32) * x1) + (2 : Int32)).toNatClampNeg) + (P0 23 (((4 : Int32) * x1) + (3 : Int32)).toNatClampNeg))) / (1000 : Int32)) (fun (x2_4 : Int32) => mb_let (mb_uo P0 40 ((P0 0 40) - x2_4)) (fun (P0_5 : PI) => mb_let (mb_uo P0_5 41 ((P0_5 0 41) + x2_4)) (fun (P0_6 : PI) => (if (P0_6 0 40) ≤ (P0_6 0 41) then some P0_6 else mb_dvi (1000 : Int32) (mb_let (((P0_6 0 41) * (5 : Int32)) / (1000 : Int32)) (fun (x3_8 : Int32) => mb_let (mb_uo P0_6 41 ((P0_6 0 41) - x3_8)) (fun (P0_9 : PI) => mb_let (mb_uo P0_9 40 ((P0_9 0 40) + x3_8)) (fun (P0_10 : PI) => some P0_10)))))))))))
def rm_Ref_season : Room := { frames := 0, cells := 0, slots := 0, locals := 0 }
set_option maxHeartbeats 4000000 in
set_option maxRecDepth 100000 in
theorem c_Ref_season (l : Launch) (D : va_G) (k : Nat → ClassId) (sz : Nat) (b0 : Nat → Nat) (P0 : PI) (L0 : PL) (x1 : Int32) (z : PI) (hf : f_Ref_season P0 x1 = some z) : Met l yX12_season wsX12_season rm_Ref_season (va_Pc [.ref (b0 0), .int x1] (gw_pre D vwCl (tyL k) (wC_Ref k b0 P0 L0) sz)) (va_Qv (fun (_ : Unit) => True) (gw_b D vwCl (tyL k) (va_A (wC_Ref k b0 P0 L0) sz) (wC_Ref k b0 z L0)) (va_A (wC_Ref k b0 P0 L0) sz)) 0 0 (va_A (wC_Ref k b0 P0 L0) sz) := by
  refine gm_v (cc := cX12_season) (maxL := 4) (by decide) rfl (Nat.le_of_ble_eq_true rfl) ?_
  intro p e s m args below meth c A Q ls H locs hx hb hml hown hts hK hN hA hP hD hS hl hret
  have hown : s.vm.findClass RX12 = some m.cls := hown
  have hl : lv_has ls 4 [(0, .ref (b0 0)), (1, .int x1)] := hl
  have iw_Ref : ∀ w ∈ u_ws RX12 TX12 42, w ∈ wsX12_season := by decide +kernel
  have fl_62 := hts (.fieldLink RX12 62 "OneMeasureModel" "folk" "[I") (by decide +kernel)
  have fl_291 := hts (.fieldLink RX12 291 "OneMeasureModel" "old" "I") (by decide +kernel)
  have fl_294 := hts (.fieldLink RX12 294 "OneMeasureModel" "fresh" "I") (by decide +kernel)
  unfold f_Ref_season at hf
  refine lv_aload_n hx hb dX12_season_0 rfl (lv_at hl 0 rfl) ?_
  refine va_get (D := D) (ci := 12) (v := .int (P0 0 40)) (C := RX12) (T := TX12) (N := 42) hx hb hts iw_Ref hown hK hP 0 rfl rfl 40 (by decide) fl_291 (fun _ h9 => h9) rfl dX12_season_1 ?_
  refine lv_aload_n hx hb dX12_season_4 rfl (lv_at hl 0 rfl) ?_
  refine va_get (D := D) (ci := 12) (v := .ref (b0 23)) (C := RX12) (T := TX12) (N := 42) hx hb hts iw_Ref hown hK hP 0 rfl rfl 22 (by decide) fl_62 (fun _ h9 => h9) rfl dX12_season_5 ?_
  refine lv_iconst (v := 4) hx hb dX12_season_8 (by decide) ?_
  refine lv_iload_n hx hb dX12_season_9 rfl (lv_at hl 1 rfl) ?_
  refine lv_imul hx hb dX12_season_10 ?_
  refine lv_iconst (v := 2) hx hb dX12_season_11 (by decide) ?_
  refine lv_iadd hx hb dX12_season_12 ?_
  obtain ⟨h_1, hf⟩ := mb_chk_s hf
  refine va_iald hx hb hK hP 18 0 rfl rfl h_1 dX12_season_13 ?_
  refine lv_aload_n hx hb dX12_season_14 rfl (lv_at hl 0 rfl) ?_
  refine va_get (D := D) (ci := 12) (v := .ref (b0 23)) (C := RX12) (T := TX12) (N := 42) hx hb hts iw_Ref hown hK hP 0 rfl rfl 22 (by decide) fl_62 (fun _ h9 => h9) rfl dX12_season_15 ?_
  refine lv_iconst (v := 4) hx hb dX12_season_18 (by decide) ?_
  refine lv_iload_n hx hb dX12_season_19 rfl (lv_at hl 1 rfl) ?_
  refine lv_imul hx hb dX12_season_20 ?_
  refine lv_iconst (v := 3) hx hb dX12_season_21 (by decide) ?_
  refine lv_iadd hx hb dX12_season_22 ?_
  obtain ⟨h_2, hf⟩ := mb_chk_s hf
  refine va_iald hx hb hK hP 18 0 rfl rfl h_2 dX12_season_23 ?_
  refine lv_iadd hx hb dX12_season_24 ?_
  refine lv_imul hx hb dX12_season_25 ?_
  refine lv_sipush (v := 1000) hx hb dX12_season_26 (by decide) ?_
  obtain ⟨h_3, hf⟩ := mb_dvi_s hf
  refine lv_idiv hx hb dX12_season_29 h_3 ?_
  obtain ⟨x2_4, e_, hf⟩ := mb_let_s hf
  refine mb_topi e_ ?_
  clear e_
  refine lv_istore_n (lv' := [(2, .int x2_4), (0, .ref (b0 0)), (1, .int x1)]) hx hb dX12_season_30 rfl hl (by decide) rfl (fun ls hl => ?_)
  refine lv_aload_n hx hb dX12_season_31 rfl (lv_at hl 1 rfl) ?_
  refine lv_dup hx hb dX12_season_32 rfl ?_
  refine va_get (D := D) (ci := 12) (v := .int (P0 0 40)) (C := RX12) (T := TX12) (N := 42) hx hb hts iw_Ref hown hK hP 0 rfl rfl 40 (by decide) fl_291 (fun _ h9 => h9) rfl dX12_season_33 ?_
  refine lv_iload_n hx hb dX12_season_36 rfl (lv_at hl 0 rfl) ?_
  refine lv_isub hx hb dX12_season_37 ?_
  obtain ⟨P0_5, e_, hf⟩ := mb_let_s hf
  refine va_put (D := D) (ci := 12) (v := .int ((P0 0 40) - x2_4)) (ty := .int) (C := RX12) (T := TX12) (N := 42) hx hb hts iw_Ref tyX12 tyX12_ok nmX12 hown hK hP hD hS 0 rfl rfl 40 (by decide) fl_291 (fun _ h9 => h9) rfl (by decide +kernel) rfl rfl (Nat.le_of_ble_eq_true rfl) dX12_season_38 (fun H locs hP hD hS => ?_)
  have hP : va_P D vwCl (wC_Ref k b0 P0_5 L0) H := by rw [e_]; exact hP
  have hD : va_D A (wC_Ref k b0 P0_5 L0) := by rw [e_]; exact hD
  clear e_
  refine lv_aload_n hx hb dX12_season_41 rfl (lv_at hl 1 rfl) ?_
  refine lv_dup hx hb dX12_season_42 rfl ?_
  refine va_get (D := D) (ci := 12) (v := .int (P0_5 0 41)) (C := RX12) (T := TX12) (N := 42) hx hb hts iw_Ref hown hK hP 0 rfl rfl 41 (by decide) fl_294 (fun _ h9 => h9) rfl dX12_season_43 ?_
  refine lv_iload_n hx hb dX12_season_46 rfl (lv_at hl 0 rfl) ?_
  refine lv_iadd hx hb dX12_season_47 ?_
  obtain ⟨P0_6, e_, hf⟩ := mb_let_s hf
  refine va_put (D := D) (ci := 12) (v := .int ((P0_5 0 41) + x2_4)) (ty := .int) (C := RX12) (T := TX12) (N := 42) hx hb hts iw_Ref tyX12 tyX12_ok nmX12 hown hK hP hD hS 0 rfl rfl 41 (by decide) fl_294 (fun _ h9 => h9) rfl (by decide +kernel) rfl rfl (Nat.le_of_ble_eq_true rfl) dX12_season_48 (fun H locs hP hD hS => ?_)
  have hP : va_P D vwCl (wC_Ref k b0 P0_6 L0) H := by rw [e_]; exact hP
  have hD : va_D A (wC_Ref k b0 P0_6 L0) := by rw [e_]; exact hD
  clear e_
  refine lv_aload_n hx hb dX12_season_51 rfl (lv_at hl 1 rfl) ?_
  refine va_get (D := D) (ci := 12) (v := .int (P0_6 0 41)) (C := RX12) (T := TX12) (N := 42) hx hb hts iw_Ref hown hK hP 0 rfl rfl 41 (by decide) fl_294 (fun _ h9 => h9) rfl dX12_season_52 ?_
  refine lv_aload_n hx hb dX12_season_55 rfl (lv_at hl 1 rfl) ?_
  refine va_get (D := D) (ci := 12) (v := .int (P0_6 0 40)) (C := RX12) (T := TX12) (N := 42) hx hb hts iw_Ref hown hK hP 0 rfl rfl 40 (by decide) fl_291 (fun _ h9 => h9) rfl dX12_season_56 ?_
  refine lv_icmp_ge (tgt := 93) hx hb dX12_season_59 (by decide) (fun c_11 => ?_) (fun c_11 => ?_)
  · have hf := mb_if_t c_11 hf
    have hz := Option.some.inj hf
    subst hz
    exact hret _ _ _ _ dX12_season_93 hP hD hS
  · have hf := mb_if_f c_11 hf
    refine lv_aload_n hx hb dX12_season_62 rfl (lv_at hl 1 rfl) ?_
    refine va_get (D := D) (ci := 12) (v := .int (P0_6 0 41)) (C := RX12) (T := TX12) (N := 42) hx hb hts iw_Ref hown hK hP 0 rfl rfl 41 (by decide) fl_294 (fun _ h9 => h9) rfl dX12_season_63 ?_
    refine lv_iconst (v := 5) hx hb dX12_season_66 (by decide) ?_
    refine lv_imul hx hb dX12_season_67 ?_
    refine lv_sipush (v := 1000) hx hb dX12_season_68 (by decide) ?_
    obtain ⟨h_7, hf⟩ := mb_dvi_s hf
    refine lv_idiv hx hb dX12_season_71 h_7 ?_
    obtain ⟨x3_8, e_, hf⟩ := mb_let_s hf
    refine mb_topi e_ ?_
    clear e_
    refine lv_istore_n (lv' := [(3, .int x3_8), (2, .int x2_4), (0, .ref (b0 0)), (1, .int x1)]) hx hb dX12_season_72 rfl hl (by decide) rfl (fun ls hl => ?_)
    refine lv_aload_n hx hb dX12_season_73 rfl (lv_at hl 2 rfl) ?_
    refine lv_dup hx hb dX12_season_74 rfl ?_
    refine va_get (D := D) (ci := 12) (v := .int (P0_6 0 41)) (C := RX12) (T := TX12) (N := 42) hx hb hts iw_Ref hown hK hP 0 rfl rfl 41 (by decide) fl_294 (fun _ h9 => h9) rfl dX12_season_75 ?_
    refine lv_iload_n hx hb dX12_season_78 rfl (lv_at hl 0 rfl) ?_
    refine lv_isub hx hb dX12_season_79 ?_
    obtain ⟨P0_9, e_, hf⟩ := mb_let_s hf
    refine va_put (D := D) (ci := 12) (v := .int ((P0_6 0 41) - x3_8)) (ty := .int) (C := RX12) (T := TX12) (N := 42) hx hb hts iw_Ref tyX12 tyX12_ok nmX12 hown hK hP hD hS 0 rfl rfl 41 (by decide) fl_294 (fun _ h9 => h9) rfl (by decide +kernel) rfl rfl (Nat.le_of_ble_eq_true rfl) dX12_season_80 (fun H locs hP hD hS => ?_)
    have hP : va_P D vwCl (wC_Ref k b0 P0_9 L0) H := by rw [e_]; exact hP
    have hD : va_D A (wC_Ref k b0 P0_9 L0) := by rw [e_]; exact hD
    clear e_
    refine lv_aload_n hx hb dX12_season_83 rfl (lv_at hl 2 rfl) ?_
    refine lv_dup hx hb dX12_season_84 rfl ?_
    refine va_get (D := D) (ci := 12) (v := .int (P0_9 0 40)) (C := RX12) (T := TX12) (N := 42) hx hb hts iw_Ref hown hK hP 0 rfl rfl 40 (by decide) fl_291 (fun _ h9 => h9) rfl dX12_season_85 ?_
    refine lv_iload_n hx hb dX12_season_88 rfl (lv_at hl 0 rfl) ?_
    refine lv_iadd hx hb dX12_season_89 ?_
    obtain ⟨P0_10, e_, hf⟩ := mb_let_s hf
    refine va_put (D := D) (ci := 12) (v := .int ((P0_9 0 40) + x3_8)) (ty := .int) (C := RX12) (T := TX12) (N := 42) hx hb hts iw_Ref tyX12 tyX12_ok nmX12 hown hK hP hD hS 0 rfl rfl 40 (by decide) fl_291 (fun _ h9 => h9) rfl (by decide +kernel) rfl rfl (Nat.le_of_ble_eq_true rfl) dX12_season_90 (fun H locs hP hD hS => ?_)
    have hP : va_P D vwCl (wC_Ref k b0 P0_10 L0) H := by rw [e_]; exact hP
    have hD : va_D A (wC_Ref k b0 P0_10 L0) := by rw [e_]; exact hD
    clear e_
    have hz := Option.some.inj hf
    subst hz
    exact hret _ _ _ _ dX12_season_93 hP hD hS
def f_Ref_seasons_53_b (x1 : Int32) (x3_7 : Int32) (K70_16 : PI → Option (Int32 × PI)) (self_28 : Int32 → PI → Option (Int32 × PI)) (x4_26 : Int32) (P0_27 : PI) : Option (Int32 × PI) := (if x1 ≤ x4_26 then K70_16 P0_27 else mb_bd1 (f_Ref_season P0_27 x3_7) (fun (P0_29 : PI) => mb_let (x4_26 + (1 : Int32)) (fun (x4_30 : Int32) => self_28 x4_30 P0_29)))
def f_Ref_seasons_53 (x1 : Int32) (x3_7 : Int32) (K70_16 : PI → Option (Int32 × PI)) : Nat → Int32 → PI → Option (Int32 × PI)
  | 0, _, _ => none
  | n + 1, x4_26, P0_27 => f_Ref_seasons_53_b x1 x3_7 K70_16 (f_Ref_seasons_53 x1 x3_7 K70_16 n) x4_26 P0_27
def f_Ref_seasons_18_b (x1 : Int32) (self_9 : Int32 → Int32 → PI → Option (Int32 × PI)) (x2_6 : Int32) (x3_7 : Int32) (P0_8 : PI) : Option (Int32 × PI) := (if (6 : Int32) ≤ x3_7 then some (x2_6, P0_8) else mb_chk ((4 : Int32) * x3_7) 72 (mb_let (mb_uo P0_8 40 (P0_8 23 ((4 : Int32) * x3_7).toNatClampNeg)) (fun (P0_11 : PI) => mb_chk (((4 : Int32) * x3_7) + (1 : Int32)) 72 (mb_let (mb_uo P0_11 41 (P0_11 23 (((4 : Int32) * x3_7) + (1 : Int32)).toNatClampNeg)) (fun (P0_13 : PI) => mb_let (0 : Int32) (fun (x4_14 : Int32) => mb_jn (fun (P0_15 : PI) => mb_chk ((4 : Int32) * x3_7) 72 (mb_let (mb_u2 P0_15 23 ((4 : Int32) * x3_7).toNatClampNeg (P0_15 0 40)) (fun (P0_18 : PI) => mb_chk (((4 : Int32) * x3_7) + (1 : Int32)) 72 (mb_let (mb_u2 P0_18 23 (((4 : Int32) * x3_7) + (1 : Int32)).toNatClampNeg (P0_18 0 41)) (fun (P0_20 : PI) => mb_let (x2_6 + (P0_20 0 41)) (fun (x2_22 : Int32) => mb_let (x3_7 + (1 : Int32)) (fun (x3_23 : Int32) => self_9 x2_22 x3_23 P0_20))))))) (fun K70_16 => f_Ref_seasons_53 x1 x3_7 K70_16 mb_fu x4_14 P0_13)))))))
def f_Ref_seasons_18 (x1 : Int32) : Nat → Int32 → Int32 → PI → Option (Int32 × PI)
  | 0, _, _, _ => none
  | n + 1, x2_6, x3_7, P0_8 => f_Ref_seasons_18_b x1 (f_Ref_seasons_18 x1 n) x2_6 x3_7 P0_8
def f_Ref_seasons (P0 : PI) (x1 : Int32) : Option (Int32 × PI) := mb_bd1 (f_Ref_in ((x1).toInt64) (1 : Int64) (100 : Int64)) (fun (r_1 : Int32) => (if r_1 = 0 then some ((-1 : Int32), P0) else mb_let (0 : Int32) (fun (x2_2 : Int32) => mb_let (0 : Int32) (fun (x3_3 : Int32) => f_Ref_seasons_18 x1 mb_fu x2_2 x3_3 P0))))
def rm_Ref_seasons : Room := { frames := 1, cells := 0, slots := 0, locals := 25 }
set_option maxHeartbeats 4000000 in
set_option maxRecDepth 100000 in
theorem c_Ref_seasons (l : Launch) (D : va_G) (k : Nat → ClassId) (sz : Nat) (b0 : Nat → Nat) (P0 : PI) (L0 : PL) (x1 : Int32) (z : Int32 × PI) (hf : f_Ref_seasons P0 x1 = some z) : Met l yX12_seasons wsX12_seasons rm_Ref_seasons (va_Pc [.ref (b0 0), .int x1] (gw_pre D vwCl (tyL k) (wC_Ref k b0 P0 L0) sz)) (va_Qi (fun (r : Int32) (_ : Unit) => r = z.1) (gw_b D vwCl (tyL k) (va_A (wC_Ref k b0 P0 L0) sz) (wC_Ref k b0 z.2 L0)) (va_A (wC_Ref k b0 P0 L0) sz)) 0 0 (va_A (wC_Ref k b0 P0 L0) sz) := by
  refine gm_i (cc := cX12_seasons) (maxL := 5) (by decide) rfl (Nat.le_of_ble_eq_true rfl) ?_
  intro p e s m args below meth c A Q ls H locs hx hb hml hown hts hK hN hA hP hD hS hl hret
  have hown : s.vm.findClass RX12 = some m.cls := hown
  have hl : lv_has ls 5 [(0, .ref (b0 0)), (1, .int x1)] := hl
  have iw_Ref : ∀ w ∈ u_ws RX12 TX12 42, w ∈ wsX12_seasons := by decide +kernel
  have fl_62 := hts (.fieldLink RX12 62 "OneMeasureModel" "folk" "[I") (by decide +kernel)
  have fl_291 := hts (.fieldLink RX12 291 "OneMeasureModel" "old" "I") (by decide +kernel)
  have fl_294 := hts (.fieldLink RX12 294 "OneMeasureModel" "fresh" "I") (by decide +kernel)
  have lc_99 := hts (.constantLong RX12 99 (100)) (by decide +kernel)
  unfold f_Ref_seasons at hf
  refine lv_iload_n hx hb dX12_seasons_0 rfl (lv_at hl 1 rfl) ?_
  refine lv_i2l hx hb dX12_seasons_1 rfl ?_
  refine lv_lconst (v := 1) hx hb dX12_seasons_2 (by decide) ?_
  refine lv_ldc2 (v := (100)) hx hb hown lc_99 dX12_seasons_3 ?_
  obtain ⟨r_1, hz, hf⟩ := mb_bd1_s hf
  refine gc_i (r0 := r_1) (ws' := (wC_Ref k b0 P0 L0)) (wr := (wC_Ref k b0 P0 L0)) (va_runS (As := [.long (x1).toInt64, .long (1 : Int64), .long (100 : Int64)]) (rest := []) ⟨hx, hb, hml, hown, hts⟩ (c_Ref_in l D k H.size ((x1).toInt64) (1 : Int64) (100 : Int64) r_1 hz) (cwS 3 hts gX12_seasons_X12_in rfl rfl rfl (by decide +kernel) ⟨Nat.le_of_ble_eq_true rfl, Nat.le_of_ble_eq_true rfl⟩) (gp_S hP hD hK hN [] (by decide +kernel) rfl) rfl rfl hl.1 rfl (lv_room (Nat.le_of_ble_eq_true rfl)) dX12_seasons_6 ⟨Nat.zero_le _, Nat.zero_le _⟩) hP hD hS hA [] [0, 1, 2, 3, 4, 5, 6, 7, 8, 9, 10, 11, 12, 13, 14, 15, 16, 17, 18, 19, 20, 21, 22, 23, 24, 25] rfl rfl (by decide +kernel) (by decide +kernel) [0, 1, 2, 3, 4, 5, 6, 7, 8, 9, 10, 11, 12, 13, 14, 15, 16, 17, 18, 19, 20, 21, 22, 23, 24, 25] (by decide +kernel) rfl (fun H locs hP hD hS => ?_)
  clear hz
  refine lv_if_ne (tgt := 14) hx hb dX12_seasons_9 (by decide) (fun c_33 => ?_) (fun c_33 => ?_)
  · have hf := mb_if_f c_33 hf
    refine lv_iconst (v := 0) hx hb dX12_seasons_14 (by decide) ?_
    obtain ⟨x2_2, e_, hf⟩ := mb_let_s hf
    refine mb_topi e_ ?_
    clear e_
    refine lv_istore_n (lv' := [(2, .int x2_2), (0, .ref (b0 0)), (1, .int x1)]) hx hb dX12_seasons_15 rfl hl (by decide) rfl (fun ls hl => ?_)
    refine lv_iconst (v := 0) hx hb dX12_seasons_16 (by decide) ?_
    obtain ⟨x3_3, e_, hf⟩ := mb_let_s hf
    refine mb_topi e_ ?_
    clear e_
    refine lv_istore_n (lv' := [(3, .int x3_3), (2, .int x2_2), (0, .ref (b0 0)), (1, .int x1)]) hx hb dX12_seasons_17 rfl hl (by decide) rfl (fun ls hl => ?_)
    have lp18_4 : ∀ (n : Nat) (x2_6 : Int32) (x3_7 : Int32) (P0_8 : PI) (H : Heap) (locs : List Loc) (ls : Array Slot), f_Ref_seasons_18 x1 n x2_6 x3_7 P0_8 = some z → va_P D vwCl (wC_Ref k b0 P0_8 L0) H → va_D A (wC_Ref k b0 P0_8 L0) → va_S A s.heap H locs → lv_has ls 5 [(0, .ref (b0 0)), (1, .int x1), (2, .int x2_6), (3, .int x3_7)] → W p l e rm_Ref_seasons s m args below meth c H locs 0 0 Q (F0 m 18 ls []) := by
      intro n
      induction n with
      | zero =>
        intro x2_6 x3_7 P0_8 H locs ls hf
        exact nomatch (show (none : Option (Int32 × PI)) = some z from hf)
      | succ n ih_5 =>
        intro x2_6 x3_7 P0_8 H locs ls hf hP hD hS hl
        have hf : f_Ref_seasons_18_b x1 (f_Ref_seasons_18 x1 n) x2_6 x3_7 P0_8 = some z := hf
        unfold f_Ref_seasons_18_b at hf
        refine lv_iload_n hx hb dX12_seasons_18 rfl (lv_at hl 3 rfl) ?_
        refine lv_bipush (v := 6) hx hb dX12_seasons_19 (by decide) ?_
        refine lv_icmp_ge (tgt := 109) hx hb dX12_seasons_21 (by decide) (fun c_32 => ?_) (fun c_32 => ?_)
        · have hf := mb_if_t c_32 hf
          refine lv_iload_n hx hb dX12_seasons_109 rfl (lv_at hl 2 rfl) ?_
          have hz := Option.some.inj hf
          subst hz
          exact hret _ _ _ _ dX12_seasons_110 hP hD hS
        · have hf := mb_if_f c_32 hf
          refine lv_aload_n hx hb dX12_seasons_24 rfl (lv_at hl 0 rfl) ?_
          refine lv_aload_n hx hb dX12_seasons_25 rfl (lv_at hl 0 rfl) ?_
          refine va_get (D := D) (ci := 12) (v := .ref (b0 23)) (C := RX12) (T := TX12) (N := 42) hx hb hts iw_Ref hown hK hP 0 rfl rfl 22 (by decide) fl_62 (fun _ h9 => h9) rfl dX12_seasons_26 ?_
          refine lv_iconst (v := 4) hx hb dX12_seasons_29 (by decide) ?_
          refine lv_iload_n hx hb dX12_seasons_30 rfl (lv_at hl 3 rfl) ?_
          refine lv_imul hx hb dX12_seasons_31 ?_
          obtain ⟨h_10, hf⟩ := mb_chk_s hf
          refine va_iald hx hb hK hP 18 0 rfl rfl h_10 dX12_seasons_32 ?_
          obtain ⟨P0_11, e_, hf⟩ := mb_let_s hf
          refine va_put (D := D) (ci := 12) (v := .int (P0_8 23 ((4 : Int32) * x3_7).toNatClampNeg)) (ty := .int) (C := RX12) (T := TX12) (N := 42) hx hb hts iw_Ref tyX12 tyX12_ok nmX12 hown hK hP hD hS 0 rfl rfl 40 (by decide) fl_291 (fun _ h9 => h9) rfl (by decide +kernel) rfl rfl (Nat.le_of_ble_eq_true rfl) dX12_seasons_33 (fun H locs hP hD hS => ?_)
          have hP : va_P D vwCl (wC_Ref k b0 P0_11 L0) H := by rw [e_]; exact hP
          have hD : va_D A (wC_Ref k b0 P0_11 L0) := by rw [e_]; exact hD
          clear e_
          refine lv_aload_n hx hb dX12_seasons_36 rfl (lv_at hl 0 rfl) ?_
          refine lv_aload_n hx hb dX12_seasons_37 rfl (lv_at hl 0 rfl) ?_
          refine va_get (D := D) (ci := 12) (v := .ref (b0 23)) (C := RX12) (T := TX12) (N := 42) hx hb hts iw_Ref hown hK hP 0 rfl rfl 22 (by decide) fl_62 (fun _ h9 => h9) rfl dX12_seasons_38 ?_
          refine lv_iconst (v := 4) hx hb dX12_seasons_41 (by decide) ?_
          refine lv_iload_n hx hb dX12_seasons_42 rfl (lv_at hl 3 rfl) ?_
          refine lv_imul hx hb dX12_seasons_43 ?_
          refine lv_iconst (v := 1) hx hb dX12_seasons_44 (by decide) ?_
          refine lv_iadd hx hb dX12_seasons_45 ?_
          obtain ⟨h_12, hf⟩ := mb_chk_s hf
          refine va_iald hx hb hK hP 18 0 rfl rfl h_12 dX12_seasons_46 ?_
          obtain ⟨P0_13, e_, hf⟩ := mb_let_s hf
          refine va_put (D := D) (ci := 12) (v := .int (P0_11 23 (((4 : Int32) * x3_7) + (1 : Int32)).toNatClampNeg)) (ty := .int) (C := RX12) (T := TX12) (N := 42) hx hb hts iw_Ref tyX12 tyX12_ok nmX12 hown hK hP hD hS 0 rfl rfl 41 (by decide) fl_294 (fun _ h9 => h9) rfl (by decide +kernel) rfl rfl (Nat.le_of_ble_eq_true rfl) dX12_seasons_47 (fun H locs hP hD hS => ?_)
          have hP : va_P D vwCl (wC_Ref k b0 P0_13 L0) H := by rw [e_]; exact hP
          have hD : va_D A (wC_Ref k b0 P0_13 L0) := by rw [e_]; exact hD
          clear e_
          refine lv_iconst (v := 0) hx hb dX12_seasons_50 (by decide) ?_
          obtain ⟨x4_14, e_, hf⟩ := mb_let_s hf
          refine mb_topi e_ ?_
          clear e_
          refine lv_istore (lv' := [(4, .int x4_14), (0, .ref (b0 0)), (1, .int x1), (2, .int x2_6), (3, .int x3_7)]) hx hb dX12_seasons_51 hl (by decide) rfl (fun ls hl => ?_)
          obtain ⟨K70_16, eK70_16, hf⟩ := mb_jn_s hf
          have k70_17 : ∀ (P0_15 : PI) (H : Heap) (locs : List Loc) (ls : Array Slot), K70_16 P0_15 = some z → va_P D vwCl (wC_Ref k b0 P0_15 L0) H → va_D A (wC_Ref k b0 P0_15 L0) → va_S A s.heap H locs → lv_has ls 5 [(0, .ref (b0 0)), (1, .int x1), (2, .int x2_6), (3, .int x3_7)] → W p l e rm_Ref_seasons s m args below meth c H locs 0 0 Q (F0 m 70 ls []) := by
            intro P0_15 H locs ls hf hP hD hS hl
            have hf := mb_j1 eK70_16 hf
            refine lv_aload_n hx hb dX12_seasons_70 rfl (lv_at hl 0 rfl) ?_
            refine va_get (D := D) (ci := 12) (v := .ref (b0 23)) (C := RX12) (T := TX12) (N := 42) hx hb hts iw_Ref hown hK hP 0 rfl rfl 22 (by decide) fl_62 (fun _ h9 => h9) rfl dX12_seasons_71 ?_
            refine lv_iconst (v := 4) hx hb dX12_seasons_74 (by decide) ?_
            refine lv_iload_n hx hb dX12_seasons_75 rfl (lv_at hl 3 rfl) ?_
            refine lv_imul hx hb dX12_seasons_76 ?_
            refine lv_aload_n hx hb dX12_seasons_77 rfl (lv_at hl 0 rfl) ?_
            refine va_get (D := D) (ci := 12) (v := .int (P0_15 0 40)) (C := RX12) (T := TX12) (N := 42) hx hb hts iw_Ref hown hK hP 0 rfl rfl 40 (by decide) fl_291 (fun _ h9 => h9) rfl dX12_seasons_78 ?_
            obtain ⟨h_19, hf⟩ := mb_chk_s hf
            obtain ⟨P0_18, e_, hf⟩ := mb_let_s hf
            refine va_iast hx hb hK hP hD hS 18 0 rfl rfl h_19 dX12_seasons_81 (fun H locs hP hD hS => ?_)
            have hP : va_P D vwCl (wC_Ref k b0 P0_18 L0) H := by rw [e_]; exact hP
            have hD : va_D A (wC_Ref k b0 P0_18 L0) := by rw [e_]; exact hD
            clear e_
            refine lv_aload_n hx hb dX12_seasons_82 rfl (lv_at hl 0 rfl) ?_
            refine va_get (D := D) (ci := 12) (v := .ref (b0 23)) (C := RX12) (T := TX12) (N := 42) hx hb hts iw_Ref hown hK hP 0 rfl rfl 22 (by decide) fl_62 (fun _ h9 => h9) rfl dX12_seasons_83 ?_
            refine lv_iconst (v := 4) hx hb dX12_seasons_86 (by decide) ?_
            refine lv_iload_n hx hb dX12_seasons_87 rfl (lv_at hl 3 rfl) ?_
            refine lv_imul hx hb dX12_seasons_88 ?_
            refine lv_iconst (v := 1) hx hb dX12_seasons_89 (by decide) ?_
            refine lv_iadd hx hb dX12_seasons_90 ?_
            refine lv_aload_n hx hb dX12_seasons_91 rfl (lv_at hl 0 rfl) ?_
            refine va_get (D := D) (ci := 12) (v := .int (P0_18 0 41)) (C := RX12) (T := TX12) (N := 42) hx hb hts iw_Ref hown hK hP 0 rfl rfl 41 (by decide) fl_294 (fun _ h9 => h9) rfl dX12_seasons_92 ?_
            obtain ⟨h_21, hf⟩ := mb_chk_s hf
            obtain ⟨P0_20, e_, hf⟩ := mb_let_s hf
            refine va_iast hx hb hK hP hD hS 18 0 rfl rfl h_21 dX12_seasons_95 (fun H locs hP hD hS => ?_)
            have hP : va_P D vwCl (wC_Ref k b0 P0_20 L0) H := by rw [e_]; exact hP
            have hD : va_D A (wC_Ref k b0 P0_20 L0) := by rw [e_]; exact hD
            clear e_
            refine lv_iload_n hx hb dX12_seasons_96 rfl (lv_at hl 2 rfl) ?_
            refine lv_aload_n hx hb dX12_seasons_97 rfl (lv_at hl 0 rfl) ?_
            refine va_get (D := D) (ci := 12) (v := .int (P0_20 0 41)) (C := RX12) (T := TX12) (N := 42) hx hb hts iw_Ref hown hK hP 0 rfl rfl 41 (by decide) fl_294 (fun _ h9 => h9) rfl dX12_seasons_98 ?_
            refine lv_iadd hx hb dX12_seasons_101 ?_
            obtain ⟨x2_22, e_, hf⟩ := mb_let_s hf
            refine mb_topi e_ ?_
            clear e_
            refine lv_istore_n (lv' := [(2, .int x2_22), (0, .ref (b0 0)), (1, .int x1), (3, .int x3_7)]) hx hb dX12_seasons_102 rfl hl (by decide) rfl (fun ls hl => ?_)
            obtain ⟨x3_23, e_, hf⟩ := mb_let_s hf
            refine lv_iinc (v := x3_23) (lv' := [(3, .int x3_23), (2, .int x2_22), (0, .ref (b0 0)), (1, .int x1)]) hx hb dX12_seasons_103 hl (k := 3) rfl (by rw [e_]; rfl) (by decide) rfl (fun ls hl => ?_)
            clear e_
            refine lv_goto (tgt := 18) hx hb dX12_seasons_106 (by decide) ?_
            exact ih_5 x2_22 x3_23 P0_20 _ _ _ hf hP hD hS (lv_sub hl [2, 3, 1, 0] rfl)
          have lp53_24 : ∀ (n : Nat) (x4_26 : Int32) (P0_27 : PI) (H : Heap) (locs : List Loc) (ls : Array Slot), f_Ref_seasons_53 x1 x3_7 K70_16 n x4_26 P0_27 = some z → va_P D vwCl (wC_Ref k b0 P0_27 L0) H → va_D A (wC_Ref k b0 P0_27 L0) → va_S A s.heap H locs → lv_has ls 5 [(0, .ref (b0 0)), (1, .int x1), (2, .int x2_6), (3, .int x3_7), (4, .int x4_26)] → W p l e rm_Ref_seasons s m args below meth c H locs 0 0 Q (F0 m 53 ls []) := by
            intro n
            induction n with
            | zero =>
              intro x4_26 P0_27 H locs ls hf
              exact nomatch (show (none : Option (Int32 × PI)) = some z from hf)
            | succ n ih_25 =>
              intro x4_26 P0_27 H locs ls hf hP hD hS hl
              have hf : f_Ref_seasons_53_b x1 x3_7 K70_16 (f_Ref_seasons_53 x1 x3_7 K70_16 n) x4_26 P0_27 = some z := hf
              unfold f_Ref_seasons_53_b at hf
              refine lv_iload hx hb dX12_seasons_53 (lv_at hl 4 rfl) ?_
              refine lv_iload_n hx hb dX12_seasons_55 rfl (lv_at hl 1 rfl) ?_
              refine lv_icmp_ge (tgt := 70) hx hb dX12_seasons_56 (by decide) (fun c_31 => ?_) (fun c_31 => ?_)
              · have hf := mb_if_t c_31 hf
                exact k70_17 P0_27 _ _ _ hf hP hD hS (lv_sub hl [0, 1, 2, 3] rfl)
              · have hf := mb_if_f c_31 hf
                refine lv_aload_n hx hb dX12_seasons_59 rfl (lv_at hl 0 rfl) ?_
                refine lv_iload_n hx hb dX12_seasons_60 rfl (lv_at hl 3 rfl) ?_
                obtain ⟨P0_29, hz, hf⟩ := mb_bd1_s hf
                refine gc_v (ws' := (wC_Ref k b0 P0_29 L0)) (wr := ([] : va_W)) (va_runV (As := [.int x3_7]) (rest := []) ⟨hx, hb, hml, hown, hts⟩ (c_Ref_season l D k H.size b0 P0_27 L0 x3_7 P0_29 hz) (cwV 1 hts gX12_seasons_X12_season rfl rfl rfl (by decide +kernel) ⟨Nat.le_of_ble_eq_true rfl, Nat.le_of_ble_eq_true rfl⟩) (gp_V (ci := 12) (q0 := 0) (q := (RX12, TX12, 42)) hP hD hK hN [0, 1, 2, 3, 4, 5, 6, 7, 8, 9, 10, 11, 12, 13, 14, 15, 16, 17, 18, 19, 20, 21, 22, 23, 24, 25] (by decide +kernel) rfl rfl rfl) rfl rfl hl.1 rfl (lv_room (Nat.le_of_ble_eq_true rfl)) dX12_seasons_61 ⟨Nat.zero_le _, Nat.zero_le _⟩) hP hD hS hA [0, 1, 2, 3, 4, 5, 6, 7, 8, 9, 10, 11, 12, 13, 14, 15, 16, 17, 18, 19, 20, 21, 22, 23, 24, 25] [] rfl rfl (by decide +kernel) (by decide +kernel) [0, 1, 2, 3, 4, 5, 6, 7, 8, 9, 10, 11, 12, 13, 14, 15, 16, 17, 18, 19, 20, 21, 22, 23, 24, 25] (by decide +kernel) rfl (fun H locs hP hD hS => ?_)
                clear hz
                obtain ⟨x4_30, e_, hf⟩ := mb_let_s hf
                refine lv_iinc (v := x4_30) (lv' := [(4, .int x4_30), (0, .ref (b0 0)), (1, .int x1), (2, .int x2_6), (3, .int x3_7)]) hx hb dX12_seasons_64 hl (k := 4) rfl (by rw [e_]; rfl) (by decide) rfl (fun ls hl => ?_)
                clear e_
                refine lv_goto (tgt := 53) hx hb dX12_seasons_67 (by decide) ?_
                exact ih_25 x4_30 P0_29 _ _ _ hf hP hD hS (lv_sub hl [1, 2, 3, 4, 0] rfl)
          exact lp53_24 mb_fu x4_14 P0_13 _ _ _ hf hP hD hS (lv_sub hl [1, 2, 3, 4, 0] rfl)
    exact lp18_4 mb_fu x2_2 x3_3 P0 _ _ _ hf hP hD hS (lv_sub hl [2, 3, 1, 0] rfl)
  · have hf := mb_if_t c_33 hf
    refine lv_iconst (v := (-1)) hx hb dX12_seasons_12 (by decide) ?_
    have hz := Option.some.inj hf
    subst hz
    exact hret _ _ _ _ dX12_seasons_13 hP hD hS
def f_Ref_uses_75_b (x1 : Int32) (self_12 : Int32 → PI → Option (Int32 × PI)) (x3_10 : Int32) (P0_11 : PI) : Option (Int32 × PI) := (if (400 : Int32) < x3_10 then some ((-4 : Int32), P0_11) else (if (P0_11 0 41) < (P0_11 0 40) then mb_bd1 (f_Ref_season P0_11 x1) (fun (P0_13 : PI) => mb_let (x3_10 + (1 : Int32)) (fun (x3_14 : Int32) => self_12 x3_14 P0_13)) else some (x3_10, P0_11)))
def f_Ref_uses_75 (x1 : Int32) : Nat → Int32 → PI → Option (Int32 × PI)
  | 0, _, _ => none
  | n + 1, x3_10, P0_11 => f_Ref_uses_75_b x1 (f_Ref_uses_75 x1 n) x3_10 P0_11
def f_Ref_uses (P0 : PI) (x1 : Int32) (x2 : Int32) : Option (Int32 × PI) := mb_bd1 (f_Ref_in ((x1).toInt64) (0 : Int64) (5 : Int64)) (fun (r_1 : Int32) => (if r_1 = 0 then some ((-1 : Int32), P0) else mb_bd1 (f_Ref_in ((x2).toInt64) (0 : Int64) (2 : Int64)) (fun (r_2 : Int32) => (if r_2 = 0 then some ((-1 : Int32), P0) else mb_chk ((4 : Int32) * x1) 72 (mb_let (mb_uo P0 40 (P0 23 ((4 : Int32) * x1).toNatClampNeg)) (fun (P0_4 : PI) => mb_chk (((4 : Int32) * x1) + (1 : Int32)) 72 (mb_let (mb_uo P0_4 41 (P0_4 23 (((4 : Int32) * x1) + (1 : Int32)).toNatClampNeg)) (fun (P0_6 : PI) => (if (2 : Int32) ≤ x2 then mb_let (0 : Int32) (fun (x3_7 : Int32) => f_Ref_uses_75 x1 mb_fu x3_7 P0_6) else (if x2 = 0 then some ((P0_6 0 40), P0_6) else some ((P0_6 0 41), P0_6)))))))))))
def rm_Ref_uses : Room := { frames := 1, cells := 0, slots := 0, locals := 25 }
set_option maxHeartbeats 4000000 in
set_option maxRecDepth 100000 in
theorem c_Ref_uses (l : Launch) (D : va_G) (k : Nat → ClassId) (sz : Nat) (b0 : Nat → Nat) (P0 : PI) (L0 : PL) (x1 : Int32) (x2 : Int32) (z : Int32 × PI) (hf : f_Ref_uses P0 x1 x2 = some z) : Met l yX12_uses wsX12_uses rm_Ref_uses (va_Pc [.ref (b0 0), .int x1, .int x2] (gw_pre D vwCl (tyL k) (wC_Ref k b0 P0 L0) sz)) (va_Qi (fun (r : Int32) (_ : Unit) => r = z.1) (gw_b D vwCl (tyL k) (va_A (wC_Ref k b0 P0 L0) sz) (wC_Ref k b0 z.2 L0)) (va_A (wC_Ref k b0 P0 L0) sz)) 0 0 (va_A (wC_Ref k b0 P0 L0) sz) := by
  refine gm_i (cc := cX12_uses) (maxL := 4) (by decide) rfl (Nat.le_of_ble_eq_true rfl) ?_
  intro p e s m args below meth c A Q ls H locs hx hb hml hown hts hK hN hA hP hD hS hl hret
  have hown : s.vm.findClass RX12 = some m.cls := hown
  have hl : lv_has ls 4 [(0, .ref (b0 0)), (1, .int x1), (2, .int x2)] := hl
  have iw_Ref : ∀ w ∈ u_ws RX12 TX12 42, w ∈ wsX12_uses := by decide +kernel
  have fl_62 := hts (.fieldLink RX12 62 "OneMeasureModel" "folk" "[I") (by decide +kernel)
  have fl_291 := hts (.fieldLink RX12 291 "OneMeasureModel" "old" "I") (by decide +kernel)
  have fl_294 := hts (.fieldLink RX12 294 "OneMeasureModel" "fresh" "I") (by decide +kernel)
  have lc_200 := hts (.constantLong RX12 200 (5)) (by decide +kernel)
  have lc_230 := hts (.constantLong RX12 230 (2)) (by decide +kernel)
  unfold f_Ref_uses at hf
  refine lv_iload_n hx hb dX12_uses_0 rfl (lv_at hl 1 rfl) ?_
  refine lv_i2l hx hb dX12_uses_1 rfl ?_
  refine lv_lconst (v := 0) hx hb dX12_uses_2 (by decide) ?_
  refine lv_ldc2 (v := (5)) hx hb hown lc_200 dX12_uses_3 ?_
  obtain ⟨r_1, hz, hf⟩ := mb_bd1_s hf
  refine gc_i (r0 := r_1) (ws' := (wC_Ref k b0 P0 L0)) (wr := (wC_Ref k b0 P0 L0)) (va_runS (As := [.long (x1).toInt64, .long (0 : Int64), .long (5 : Int64)]) (rest := []) ⟨hx, hb, hml, hown, hts⟩ (c_Ref_in l D k H.size ((x1).toInt64) (0 : Int64) (5 : Int64) r_1 hz) (cwS 3 hts gX12_uses_X12_in rfl rfl rfl (by decide +kernel) ⟨Nat.le_of_ble_eq_true rfl, Nat.le_of_ble_eq_true rfl⟩) (gp_S hP hD hK hN [] (by decide +kernel) rfl) rfl rfl hl.1 rfl (lv_room (Nat.le_of_ble_eq_true rfl)) dX12_uses_6 ⟨Nat.zero_le _, Nat.zero_le _⟩) hP hD hS hA [] [0, 1, 2, 3, 4, 5, 6, 7, 8, 9, 10, 11, 12, 13, 14, 15, 16, 17, 18, 19, 20, 21, 22, 23, 24, 25] rfl rfl (by decide +kernel) (by decide +kernel) [0, 1, 2, 3, 4, 5, 6, 7, 8, 9, 10, 11, 12, 13, 14, 15, 16, 17, 18, 19, 20, 21, 22, 23, 24, 25] (by decide +kernel) rfl (fun H locs hP hD hS => ?_)
  clear hz
  refine lv_if_eq (tgt := 24) hx hb dX12_uses_9 (by decide) (fun c_20 => ?_) (fun c_20 => ?_)
  · have hf := mb_if_t c_20 hf
    refine lv_iconst (v := (-1)) hx hb dX12_uses_24 (by decide) ?_
    have hz := Option.some.inj hf
    subst hz
    exact hret _ _ _ _ dX12_uses_25 hP hD hS
  · have hf := mb_if_f c_20 hf
    refine lv_iload_n hx hb dX12_uses_12 rfl (lv_at hl 2 rfl) ?_
    refine lv_i2l hx hb dX12_uses_13 rfl ?_
    refine lv_lconst (v := 0) hx hb dX12_uses_14 (by decide) ?_
    refine lv_ldc2 (v := (2)) hx hb hown lc_230 dX12_uses_15 ?_
    obtain ⟨r_2, hz, hf⟩ := mb_bd1_s hf
    refine gc_i (r0 := r_2) (ws' := (wC_Ref k b0 P0 L0)) (wr := (wC_Ref k b0 P0 L0)) (va_runS (As := [.long (x2).toInt64, .long (0 : Int64), .long (2 : Int64)]) (rest := []) ⟨hx, hb, hml, hown, hts⟩ (c_Ref_in l D k H.size ((x2).toInt64) (0 : Int64) (2 : Int64) r_2 hz) (cwS 3 hts gX12_uses_X12_in rfl rfl rfl (by decide +kernel) ⟨Nat.le_of_ble_eq_true rfl, Nat.le_of_ble_eq_true rfl⟩) (gp_S hP hD hK hN [] (by decide +kernel) rfl) rfl rfl hl.1 rfl (lv_room (Nat.le_of_ble_eq_true rfl)) dX12_uses_18 ⟨Nat.zero_le _, Nat.zero_le _⟩) hP hD hS hA [] [0, 1, 2, 3, 4, 5, 6, 7, 8, 9, 10, 11, 12, 13, 14, 15, 16, 17, 18, 19, 20, 21, 22, 23, 24, 25] rfl rfl (by decide +kernel) (by decide +kernel) [0, 1, 2, 3, 4, 5, 6, 7, 8, 9, 10, 11, 12, 13, 14, 15, 16, 17, 18, 19, 20, 21, 22, 23, 24, 25] (by decide +kernel) rfl (fun H locs hP hD hS => ?_)
    clear hz
    refine lv_if_ne (tgt := 26) hx hb dX12_uses_21 (by decide) (fun c_19 => ?_) (fun c_19 => ?_)
    · have hf := mb_if_f c_19 hf
      refine lv_aload_n hx hb dX12_uses_26 rfl (lv_at hl 0 rfl) ?_
      refine lv_aload_n hx hb dX12_uses_27 rfl (lv_at hl 0 rfl) ?_
      refine va_get (D := D) (ci := 12) (v := .ref (b0 23)) (C := RX12) (T := TX12) (N := 42) hx hb hts iw_Ref hown hK hP 0 rfl rfl 22 (by decide) fl_62 (fun _ h9 => h9) rfl dX12_uses_28 ?_
      refine lv_iconst (v := 4) hx hb dX12_uses_31 (by decide) ?_
      refine lv_iload_n hx hb dX12_uses_32 rfl (lv_at hl 1 rfl) ?_
      refine lv_imul hx hb dX12_uses_33 ?_
      obtain ⟨h_3, hf⟩ := mb_chk_s hf
      refine va_iald hx hb hK hP 18 0 rfl rfl h_3 dX12_uses_34 ?_
      obtain ⟨P0_4, e_, hf⟩ := mb_let_s hf
      refine va_put (D := D) (ci := 12) (v := .int (P0 23 ((4 : Int32) * x1).toNatClampNeg)) (ty := .int) (C := RX12) (T := TX12) (N := 42) hx hb hts iw_Ref tyX12 tyX12_ok nmX12 hown hK hP hD hS 0 rfl rfl 40 (by decide) fl_291 (fun _ h9 => h9) rfl (by decide +kernel) rfl rfl (Nat.le_of_ble_eq_true rfl) dX12_uses_35 (fun H locs hP hD hS => ?_)
      have hP : va_P D vwCl (wC_Ref k b0 P0_4 L0) H := by rw [e_]; exact hP
      have hD : va_D A (wC_Ref k b0 P0_4 L0) := by rw [e_]; exact hD
      clear e_
      refine lv_aload_n hx hb dX12_uses_38 rfl (lv_at hl 0 rfl) ?_
      refine lv_aload_n hx hb dX12_uses_39 rfl (lv_at hl 0 rfl) ?_
      refine va_get (D := D) (ci := 12) (v := .ref (b0 23)) (C := RX12) (T := TX12) (N := 42) hx hb hts iw_Ref hown hK hP 0 rfl rfl 22 (by decide) fl_62 (fun _ h9 => h9) rfl dX12_uses_40 ?_
      refine lv_iconst (v := 4) hx hb dX12_uses_43 (by decide) ?_
      refine lv_iload_n hx hb dX12_uses_44 rfl (lv_at hl 1 rfl) ?_
      refine lv_imul hx hb dX12_uses_45 ?_
      refine lv_iconst (v := 1) hx hb dX12_uses_46 (by decide) ?_
      refine lv_iadd hx hb dX12_uses_47 ?_
      obtain ⟨h_5, hf⟩ := mb_chk_s hf
      refine va_iald hx hb hK hP 18 0 rfl rfl h_5 dX12_uses_48 ?_
      obtain ⟨P0_6, e_, hf⟩ := mb_let_s hf
      refine va_put (D := D) (ci := 12) (v := .int (P0_4 23 (((4 : Int32) * x1) + (1 : Int32)).toNatClampNeg)) (ty := .int) (C := RX12) (T := TX12) (N := 42) hx hb hts iw_Ref tyX12 tyX12_ok nmX12 hown hK hP hD hS 0 rfl rfl 41 (by decide) fl_294 (fun _ h9 => h9) rfl (by decide +kernel) rfl rfl (Nat.le_of_ble_eq_true rfl) dX12_uses_49 (fun H locs hP hD hS => ?_)
      have hP : va_P D vwCl (wC_Ref k b0 P0_6 L0) H := by rw [e_]; exact hP
      have hD : va_D A (wC_Ref k b0 P0_6 L0) := by rw [e_]; exact hD
      clear e_
      refine lv_iload_n hx hb dX12_uses_52 rfl (lv_at hl 2 rfl) ?_
      refine lv_iconst (v := 2) hx hb dX12_uses_53 (by decide) ?_
      refine lv_icmp_ge (tgt := 73) hx hb dX12_uses_54 (by decide) (fun c_18 => ?_) (fun c_18 => ?_)
      · have hf := mb_if_t c_18 hf
        refine lv_iconst (v := 0) hx hb dX12_uses_73 (by decide) ?_
        obtain ⟨x3_7, e_, hf⟩ := mb_let_s hf
        refine mb_topi e_ ?_
        clear e_
        refine lv_istore_n (lv' := [(3, .int x3_7), (0, .ref (b0 0)), (1, .int x1), (2, .int x2)]) hx hb dX12_uses_74 rfl hl (by decide) rfl (fun ls hl => ?_)
        have lp75_8 : ∀ (n : Nat) (x3_10 : Int32) (P0_11 : PI) (H : Heap) (locs : List Loc) (ls : Array Slot), f_Ref_uses_75 x1 n x3_10 P0_11 = some z → va_P D vwCl (wC_Ref k b0 P0_11 L0) H → va_D A (wC_Ref k b0 P0_11 L0) → va_S A s.heap H locs → lv_has ls 4 [(0, .ref (b0 0)), (1, .int x1), (3, .int x3_10)] → W p l e rm_Ref_uses s m args below meth c H locs 0 0 Q (F0 m 75 ls []) := by
          intro n
          induction n with
          | zero =>
            intro x3_10 P0_11 H locs ls hf
            exact nomatch (show (none : Option (Int32 × PI)) = some z from hf)
          | succ n ih_9 =>
            intro x3_10 P0_11 H locs ls hf hP hD hS hl
            have hf : f_Ref_uses_75_b x1 (f_Ref_uses_75 x1 n) x3_10 P0_11 = some z := hf
            unfold f_Ref_uses_75_b at hf
            refine lv_iload_n hx hb dX12_uses_75 rfl (lv_at hl 2 rfl) ?_
            refine lv_sipush (v := 400) hx hb dX12_uses_76 (by decide) ?_
            refine lv_icmp_gt (tgt := 106) hx hb dX12_uses_79 (by decide) (fun c_16 => ?_) (fun c_16 => ?_)
            · have hf := mb_if_t c_16 hf
              refine lv_bipush (v := (-4)) hx hb dX12_uses_106 (by decide) ?_
              have hz := Option.some.inj hf
              subst hz
              exact hret _ _ _ _ dX12_uses_108 hP hD hS
            · have hf := mb_if_f c_16 hf
              refine lv_aload_n hx hb dX12_uses_82 rfl (lv_at hl 0 rfl) ?_
              refine va_get (D := D) (ci := 12) (v := .int (P0_11 0 41)) (C := RX12) (T := TX12) (N := 42) hx hb hts iw_Ref hown hK hP 0 rfl rfl 41 (by decide) fl_294 (fun _ h9 => h9) rfl dX12_uses_83 ?_
              refine lv_aload_n hx hb dX12_uses_86 rfl (lv_at hl 0 rfl) ?_
              refine va_get (D := D) (ci := 12) (v := .int (P0_11 0 40)) (C := RX12) (T := TX12) (N := 42) hx hb hts iw_Ref hown hK hP 0 rfl rfl 40 (by decide) fl_291 (fun _ h9 => h9) rfl dX12_uses_87 ?_
              refine lv_icmp_lt (tgt := 95) hx hb dX12_uses_90 (by decide) (fun c_15 => ?_) (fun c_15 => ?_)
              · have hf := mb_if_t c_15 hf
                refine lv_aload_n hx hb dX12_uses_95 rfl (lv_at hl 0 rfl) ?_
                refine lv_iload_n hx hb dX12_uses_96 rfl (lv_at hl 1 rfl) ?_
                obtain ⟨P0_13, hz, hf⟩ := mb_bd1_s hf
                refine gc_v (ws' := (wC_Ref k b0 P0_13 L0)) (wr := ([] : va_W)) (va_runV (As := [.int x1]) (rest := []) ⟨hx, hb, hml, hown, hts⟩ (c_Ref_season l D k H.size b0 P0_11 L0 x1 P0_13 hz) (cwV 1 hts gX12_uses_X12_season rfl rfl rfl (by decide +kernel) ⟨Nat.le_of_ble_eq_true rfl, Nat.le_of_ble_eq_true rfl⟩) (gp_V (ci := 12) (q0 := 0) (q := (RX12, TX12, 42)) hP hD hK hN [0, 1, 2, 3, 4, 5, 6, 7, 8, 9, 10, 11, 12, 13, 14, 15, 16, 17, 18, 19, 20, 21, 22, 23, 24, 25] (by decide +kernel) rfl rfl rfl) rfl rfl hl.1 rfl (lv_room (Nat.le_of_ble_eq_true rfl)) dX12_uses_97 ⟨Nat.zero_le _, Nat.zero_le _⟩) hP hD hS hA [0, 1, 2, 3, 4, 5, 6, 7, 8, 9, 10, 11, 12, 13, 14, 15, 16, 17, 18, 19, 20, 21, 22, 23, 24, 25] [] rfl rfl (by decide +kernel) (by decide +kernel) [0, 1, 2, 3, 4, 5, 6, 7, 8, 9, 10, 11, 12, 13, 14, 15, 16, 17, 18, 19, 20, 21, 22, 23, 24, 25] (by decide +kernel) rfl (fun H locs hP hD hS => ?_)
                clear hz
                obtain ⟨x3_14, e_, hf⟩ := mb_let_s hf
                refine lv_iinc (v := x3_14) (lv' := [(3, .int x3_14), (0, .ref (b0 0)), (1, .int x1)]) hx hb dX12_uses_100 hl (k := 2) rfl (by rw [e_]; rfl) (by decide) rfl (fun ls hl => ?_)
                clear e_
                refine lv_goto (tgt := 75) hx hb dX12_uses_103 (by decide) ?_
                exact ih_9 x3_14 P0_13 _ _ _ hf hP hD hS (lv_sub hl [1, 2, 0] rfl)
              · have hf := mb_if_f c_15 hf
                refine lv_iload_n hx hb dX12_uses_93 rfl (lv_at hl 2 rfl) ?_
                have hz := Option.some.inj hf
                subst hz
                exact hret _ _ _ _ dX12_uses_94 hP hD hS
        exact lp75_8 mb_fu x3_7 P0_6 _ _ _ hf hP hD hS (lv_sub hl [1, 2, 0] rfl)
      · have hf := mb_if_f c_18 hf
        refine lv_iload_n hx hb dX12_uses_57 rfl (lv_at hl 2 rfl) ?_
        refine lv_if_ne (tgt := 68) hx hb dX12_uses_58 (by decide) (fun c_17 => ?_) (fun c_17 => ?_)
        · have hf := mb_if_f c_17 hf
          refine lv_aload_n hx hb dX12_uses_68 rfl (lv_at hl 0 rfl) ?_
          refine va_get (D := D) (ci := 12) (v := .int (P0_6 0 41)) (C := RX12) (T := TX12) (N := 42) hx hb hts iw_Ref hown hK hP 0 rfl rfl 41 (by decide) fl_294 (fun _ h9 => h9) rfl dX12_uses_69 ?_
          have hz := Option.some.inj hf
          subst hz
          exact hret _ _ _ _ dX12_uses_72 hP hD hS
        · have hf := mb_if_t c_17 hf
          refine lv_aload_n hx hb dX12_uses_61 rfl (lv_at hl 0 rfl) ?_
          refine va_get (D := D) (ci := 12) (v := .int (P0_6 0 40)) (C := RX12) (T := TX12) (N := 42) hx hb hts iw_Ref hown hK hP 0 rfl rfl 40 (by decide) fl_291 (fun _ h9 => h9) rfl dX12_uses_62 ?_
          refine lv_goto (tgt := 72) hx hb dX12_uses_65 (by decide) ?_
          have hz := Option.some.inj hf
          subst hz
          exact hret _ _ _ _ dX12_uses_72 hP hD hS
    · have hf := mb_if_t c_19 hf
      refine lv_iconst (v := (-1)) hx hb dX12_uses_24 (by decide) ?_
      have hz := Option.some.inj hf
      subst hz
      exact hret _ _ _ _ dX12_uses_25 hP hD hS
def f_Ref_copy_120_b (L0_12 : PL) (x1 : Int32) (x2 : Int32) (self_20 : Int32 → PI → Option (PI × PL)) (x3_18 : Int32) (P0_19 : PI) : Option (PI × PL) := (if (24 : Int32) ≤ x3_18 then some (P0_19, L0_12) else mb_chk (((24 : Int32) * x1) + x3_18) 72 (mb_chk (((24 : Int32) * x2) + x3_18) 72 (mb_let (mb_u2 P0_19 23 (((24 : Int32) * x2) + x3_18).toNatClampNeg (P0_19 23 (((24 : Int32) * x1) + x3_18).toNatClampNeg)) (fun (P0_22 : PI) => mb_let (x3_18 + (1 : Int32)) (fun (x3_24 : Int32) => self_20 x3_24 P0_22)))))
def f_Ref_copy_120 (L0_12 : PL) (x1 : Int32) (x2 : Int32) : Nat → Int32 → PI → Option (PI × PL)
  | 0, _, _ => none
  | n + 1, x3_18, P0_19 => f_Ref_copy_120_b L0_12 x1 x2 (f_Ref_copy_120 L0_12 x1 x2 n) x3_18 P0_19
def f_Ref_copy_62_b (x1 : Int32) (x2 : Int32) (K118_13 : PL → Option (PI × PL)) (self_30 : Int32 → PL → Option (PI × PL)) (x3_28 : Int32) (L0_29 : PL) : Option (PI × PL) := (if (6 : Int32) ≤ x3_28 then K118_13 L0_29 else mb_chk (((6 : Int32) * x1) + x3_28) 18 (mb_chk (((6 : Int32) * x2) + x3_28) 18 (mb_let (mb_u2L L0_29 21 (((6 : Int32) * x2) + x3_28).toNatClampNeg (L0_29 21 (((6 : Int32) * x1) + x3_28).toNatClampNeg)) (fun (L0_32 : PL) => mb_chk (((6 : Int32) * x1) + x3_28) 18 (mb_chk (((6 : Int32) * x2) + x3_28) 18 (mb_let (mb_u2L L0_32 22 (((6 : Int32) * x2) + x3_28).toNatClampNeg (L0_32 22 (((6 : Int32) * x1) + x3_28).toNatClampNeg)) (fun (L0_35 : PL) => mb_let (x3_28 + (1 : Int32)) (fun (x3_37 : Int32) => self_30 x3_37 L0_35))))))))
def f_Ref_copy_62 (x1 : Int32) (x2 : Int32) (K118_13 : PL → Option (PI × PL)) : Nat → Int32 → PL → Option (PI × PL)
  | 0, _, _ => none
  | n + 1, x3_28, L0_29 => f_Ref_copy_62_b x1 x2 K118_13 (f_Ref_copy_62 x1 x2 K118_13 n) x3_28 L0_29
def f_Ref_copy_26_b (x1 : Int32) (x2 : Int32) (K60_9 : PI → Option (PI × PL)) (self_43 : Int32 → PI → Option (PI × PL)) (x3_41 : Int32) (P0_42 : PI) : Option (PI × PL) := (if (96 : Int32) ≤ x3_41 then K60_9 P0_42 else mb_chk (((96 : Int32) * x1) + x3_41) 288 (mb_chk (((96 : Int32) * x2) + x3_41) 288 (mb_let (mb_u2 P0_42 19 (((96 : Int32) * x2) + x3_41).toNatClampNeg (P0_42 19 (((96 : Int32) * x1) + x3_41).toNatClampNeg)) (fun (P0_45 : PI) => mb_let (x3_41 + (1 : Int32)) (fun (x3_47 : Int32) => self_43 x3_47 P0_45)))))
def f_Ref_copy_26 (x1 : Int32) (x2 : Int32) (K60_9 : PI → Option (PI × PL)) : Nat → Int32 → PI → Option (PI × PL)
  | 0, _, _ => none
  | n + 1, x3_41, P0_42 => f_Ref_copy_26_b x1 x2 K60_9 (f_Ref_copy_26 x1 x2 K60_9 n) x3_41 P0_42
def f_Ref_copy (P0 : PI) (L0 : PL) (x1 : Int32) (x2 : Int32) : Option (PI × PL) := mb_chk x1 3 (mb_chk x2 3 (mb_let (mb_u2 P0 18 x2.toNatClampNeg (P0 18 x1.toNatClampNeg)) (fun (P0_2 : PI) => mb_chk x1 3 (mb_chk x2 3 (mb_let (mb_u2 P0_2 20 x2.toNatClampNeg (P0_2 20 x1.toNatClampNeg)) (fun (P0_5 : PI) => mb_let (0 : Int32) (fun (x3_7 : Int32) => mb_jn (fun (P0_8 : PI) => mb_let (0 : Int32) (fun (x3_11 : Int32) => mb_jn (fun (L0_12 : PL) => mb_let (0 : Int32) (fun (x3_15 : Int32) => f_Ref_copy_120 L0_12 x1 x2 mb_fu x3_15 P0_8)) (fun K118_13 => f_Ref_copy_62 x1 x2 K118_13 mb_fu x3_11 L0))) (fun K60_9 => f_Ref_copy_26 x1 x2 K60_9 mb_fu x3_7 P0_5))))))))
def rm_Ref_copy : Room := { frames := 0, cells := 0, slots := 0, locals := 0 }
set_option maxHeartbeats 4000000 in
set_option maxRecDepth 100000 in
theorem c_Ref_copy (l : Launch) (D : va_G) (k : Nat → ClassId) (sz : Nat) (b0 : Nat → Nat) (P0 : PI) (L0 : PL) (x1 : Int32) (x2 : Int32) (z : PI × PL) (hf : f_Ref_copy P0 L0 x1 x2 = some z) : Met l yX12_copy wsX12_copy rm_Ref_copy (va_Pc [.ref (b0 0), .int x1, .int x2] (gw_pre D vwCl (tyL k) (wC_Ref k b0 P0 L0) sz)) (va_Qv (fun (_ : Unit) => True) (gw_b D vwCl (tyL k) (va_A (wC_Ref k b0 P0 L0) sz) (wC_Ref k b0 z.1 z.2)) (va_A (wC_Ref k b0 P0 L0) sz)) 0 0 (va_A (wC_Ref k b0 P0 L0) sz) := by
  refine gm_v (cc := cX12_copy) (maxL := 4) (by decide) rfl (Nat.le_of_ble_eq_true rfl) ?_
  intro p e s m args below meth c A Q ls H locs hx hb hml hown hts hK hN hA hP hD hS hl hret
  have hown : s.vm.findClass RX12 = some m.cls := hown
  have hl : lv_has ls 4 [(0, .ref (b0 0)), (1, .int x1), (2, .int x2)] := hl
  have iw_Ref : ∀ w ∈ u_ws RX12 TX12 42, w ∈ wsX12_copy := by decide +kernel
  have fl_47 := hts (.fieldLink RX12 47 "OneMeasureModel" "rodMany" "[I") (by decide +kernel)
  have fl_50 := hts (.fieldLink RX12 50 "OneMeasureModel" "rods" "[I") (by decide +kernel)
  have fl_53 := hts (.fieldLink RX12 53 "OneMeasureModel" "week" "[I") (by decide +kernel)
  have fl_56 := hts (.fieldLink RX12 56 "OneMeasureModel" "cheats" "[J") (by decide +kernel)
  have fl_59 := hts (.fieldLink RX12 59 "OneMeasureModel" "wins" "[J") (by decide +kernel)
  have fl_62 := hts (.fieldLink RX12 62 "OneMeasureModel" "folk" "[I") (by decide +kernel)
  unfold f_Ref_copy at hf
  refine lv_aload_n hx hb dX12_copy_0 rfl (lv_at hl 0 rfl) ?_
  refine va_get (D := D) (ci := 12) (v := .ref (b0 18)) (C := RX12) (T := TX12) (N := 42) hx hb hts iw_Ref hown hK hP 0 rfl rfl 17 (by decide) fl_47 (fun _ h9 => h9) rfl dX12_copy_1 ?_
  refine lv_iload_n hx hb dX12_copy_4 rfl (lv_at hl 2 rfl) ?_
  refine lv_aload_n hx hb dX12_copy_5 rfl (lv_at hl 0 rfl) ?_
  refine va_get (D := D) (ci := 12) (v := .ref (b0 18)) (C := RX12) (T := TX12) (N := 42) hx hb hts iw_Ref hown hK hP 0 rfl rfl 17 (by decide) fl_47 (fun _ h9 => h9) rfl dX12_copy_6 ?_
  refine lv_iload_n hx hb dX12_copy_9 rfl (lv_at hl 1 rfl) ?_
  obtain ⟨h_1, hf⟩ := mb_chk_s hf
  refine va_iald hx hb hK hP 13 0 rfl rfl h_1 dX12_copy_10 ?_
  obtain ⟨h_3, hf⟩ := mb_chk_s hf
  obtain ⟨P0_2, e_, hf⟩ := mb_let_s hf
  refine va_iast hx hb hK hP hD hS 13 0 rfl rfl h_3 dX12_copy_11 (fun H locs hP hD hS => ?_)
  have hP : va_P D vwCl (wC_Ref k b0 P0_2 L0) H := by rw [e_]; exact hP
  have hD : va_D A (wC_Ref k b0 P0_2 L0) := by rw [e_]; exact hD
  clear e_
  refine lv_aload_n hx hb dX12_copy_12 rfl (lv_at hl 0 rfl) ?_
  refine va_get (D := D) (ci := 12) (v := .ref (b0 20)) (C := RX12) (T := TX12) (N := 42) hx hb hts iw_Ref hown hK hP 0 rfl rfl 19 (by decide) fl_53 (fun _ h9 => h9) rfl dX12_copy_13 ?_
  refine lv_iload_n hx hb dX12_copy_16 rfl (lv_at hl 2 rfl) ?_
  refine lv_aload_n hx hb dX12_copy_17 rfl (lv_at hl 0 rfl) ?_
  refine va_get (D := D) (ci := 12) (v := .ref (b0 20)) (C := RX12) (T := TX12) (N := 42) hx hb hts iw_Ref hown hK hP 0 rfl rfl 19 (by decide) fl_53 (fun _ h9 => h9) rfl dX12_copy_18 ?_
  refine lv_iload_n hx hb dX12_copy_21 rfl (lv_at hl 1 rfl) ?_
  obtain ⟨h_4, hf⟩ := mb_chk_s hf
  refine va_iald hx hb hK hP 15 0 rfl rfl h_4 dX12_copy_22 ?_
  obtain ⟨h_6, hf⟩ := mb_chk_s hf
  obtain ⟨P0_5, e_, hf⟩ := mb_let_s hf
  refine va_iast hx hb hK hP hD hS 15 0 rfl rfl h_6 dX12_copy_23 (fun H locs hP hD hS => ?_)
  have hP : va_P D vwCl (wC_Ref k b0 P0_5 L0) H := by rw [e_]; exact hP
  have hD : va_D A (wC_Ref k b0 P0_5 L0) := by rw [e_]; exact hD
  clear e_
  refine lv_iconst (v := 0) hx hb dX12_copy_24 (by decide) ?_
  obtain ⟨x3_7, e_, hf⟩ := mb_let_s hf
  refine mb_topi e_ ?_
  clear e_
  refine lv_istore_n (lv' := [(3, .int x3_7), (0, .ref (b0 0)), (1, .int x1), (2, .int x2)]) hx hb dX12_copy_25 rfl hl (by decide) rfl (fun ls hl => ?_)
  obtain ⟨K60_9, eK60_9, hf⟩ := mb_jn_s hf
  have k60_10 : ∀ (P0_8 : PI) (H : Heap) (locs : List Loc) (ls : Array Slot), K60_9 P0_8 = some z → va_P D vwCl (wC_Ref k b0 P0_8 L0) H → va_D A (wC_Ref k b0 P0_8 L0) → va_S A s.heap H locs → lv_has ls 4 [(0, .ref (b0 0)), (1, .int x1), (2, .int x2)] → W p l e rm_Ref_copy s m args below meth c H locs 0 0 Q (F0 m 60 ls []) := by
    intro P0_8 H locs ls hf hP hD hS hl
    have hf := mb_j1 eK60_9 hf
    refine lv_iconst (v := 0) hx hb dX12_copy_60 (by decide) ?_
    obtain ⟨x3_11, e_, hf⟩ := mb_let_s hf
    refine mb_topi e_ ?_
    clear e_
    refine lv_istore_n (lv' := [(3, .int x3_11), (0, .ref (b0 0)), (1, .int x1), (2, .int x2)]) hx hb dX12_copy_61 rfl hl (by decide) rfl (fun ls hl => ?_)
    obtain ⟨K118_13, eK118_13, hf⟩ := mb_jn_s hf
    have k118_14 : ∀ (L0_12 : PL) (H : Heap) (locs : List Loc) (ls : Array Slot), K118_13 L0_12 = some z → va_P D vwCl (wC_Ref k b0 P0_8 L0_12) H → va_D A (wC_Ref k b0 P0_8 L0_12) → va_S A s.heap H locs → lv_has ls 4 [(0, .ref (b0 0)), (1, .int x1), (2, .int x2)] → W p l e rm_Ref_copy s m args below meth c H locs 0 0 Q (F0 m 118 ls []) := by
      intro L0_12 H locs ls hf hP hD hS hl
      have hf := mb_j1 eK118_13 hf
      refine lv_iconst (v := 0) hx hb dX12_copy_118 (by decide) ?_
      obtain ⟨x3_15, e_, hf⟩ := mb_let_s hf
      refine mb_topi e_ ?_
      clear e_
      refine lv_istore_n (lv' := [(3, .int x3_15), (0, .ref (b0 0)), (1, .int x1), (2, .int x2)]) hx hb dX12_copy_119 rfl hl (by decide) rfl (fun ls hl => ?_)
      have lp120_16 : ∀ (n : Nat) (x3_18 : Int32) (P0_19 : PI) (H : Heap) (locs : List Loc) (ls : Array Slot), f_Ref_copy_120 L0_12 x1 x2 n x3_18 P0_19 = some z → va_P D vwCl (wC_Ref k b0 P0_19 L0_12) H → va_D A (wC_Ref k b0 P0_19 L0_12) → va_S A s.heap H locs → lv_has ls 4 [(0, .ref (b0 0)), (1, .int x1), (2, .int x2), (3, .int x3_18)] → W p l e rm_Ref_copy s m args below meth c H locs 0 0 Q (F0 m 120 ls []) := by
        intro n
        induction n with
        | zero =>
          intro x3_18 P0_19 H locs ls hf
          exact nomatch (show (none : Option (PI × PL)) = some z from hf)
        | succ n ih_17 =>
          intro x3_18 P0_19 H locs ls hf hP hD hS hl
          have hf : f_Ref_copy_120_b L0_12 x1 x2 (f_Ref_copy_120 L0_12 x1 x2 n) x3_18 P0_19 = some z := hf
          unfold f_Ref_copy_120_b at hf
          refine lv_iload_n hx hb dX12_copy_120 rfl (lv_at hl 3 rfl) ?_
          refine lv_bipush (v := 24) hx hb dX12_copy_121 (by decide) ?_
          refine lv_icmp_ge (tgt := 154) hx hb dX12_copy_123 (by decide) (fun c_25 => ?_) (fun c_25 => ?_)
          · have hf := mb_if_t c_25 hf
            have hz := Option.some.inj hf
            subst hz
            exact hret _ _ _ _ dX12_copy_154 hP hD hS
          · have hf := mb_if_f c_25 hf
            refine lv_aload_n hx hb dX12_copy_126 rfl (lv_at hl 0 rfl) ?_
            refine va_get (D := D) (ci := 12) (v := .ref (b0 23)) (C := RX12) (T := TX12) (N := 42) hx hb hts iw_Ref hown hK hP 0 rfl rfl 22 (by decide) fl_62 (fun _ h9 => h9) rfl dX12_copy_127 ?_
            refine lv_bipush (v := 24) hx hb dX12_copy_130 (by decide) ?_
            refine lv_iload_n hx hb dX12_copy_132 rfl (lv_at hl 2 rfl) ?_
            refine lv_imul hx hb dX12_copy_133 ?_
            refine lv_iload_n hx hb dX12_copy_134 rfl (lv_at hl 3 rfl) ?_
            refine lv_iadd hx hb dX12_copy_135 ?_
            refine lv_aload_n hx hb dX12_copy_136 rfl (lv_at hl 0 rfl) ?_
            refine va_get (D := D) (ci := 12) (v := .ref (b0 23)) (C := RX12) (T := TX12) (N := 42) hx hb hts iw_Ref hown hK hP 0 rfl rfl 22 (by decide) fl_62 (fun _ h9 => h9) rfl dX12_copy_137 ?_
            refine lv_bipush (v := 24) hx hb dX12_copy_140 (by decide) ?_
            refine lv_iload_n hx hb dX12_copy_142 rfl (lv_at hl 1 rfl) ?_
            refine lv_imul hx hb dX12_copy_143 ?_
            refine lv_iload_n hx hb dX12_copy_144 rfl (lv_at hl 3 rfl) ?_
            refine lv_iadd hx hb dX12_copy_145 ?_
            obtain ⟨h_21, hf⟩ := mb_chk_s hf
            refine va_iald hx hb hK hP 18 0 rfl rfl h_21 dX12_copy_146 ?_
            obtain ⟨h_23, hf⟩ := mb_chk_s hf
            obtain ⟨P0_22, e_, hf⟩ := mb_let_s hf
            refine va_iast hx hb hK hP hD hS 18 0 rfl rfl h_23 dX12_copy_147 (fun H locs hP hD hS => ?_)
            have hP : va_P D vwCl (wC_Ref k b0 P0_22 L0_12) H := by rw [e_]; exact hP
            have hD : va_D A (wC_Ref k b0 P0_22 L0_12) := by rw [e_]; exact hD
            clear e_
            obtain ⟨x3_24, e_, hf⟩ := mb_let_s hf
            refine lv_iinc (v := x3_24) (lv' := [(3, .int x3_24), (0, .ref (b0 0)), (1, .int x1), (2, .int x2)]) hx hb dX12_copy_148 hl (k := 3) rfl (by rw [e_]; rfl) (by decide) rfl (fun ls hl => ?_)
            clear e_
            refine lv_goto (tgt := 120) hx hb dX12_copy_151 (by decide) ?_
            exact ih_17 x3_24 P0_22 _ _ _ hf hP hD hS (lv_sub hl [1, 2, 3, 0] rfl)
      exact lp120_16 mb_fu x3_15 P0_8 _ _ _ hf hP hD hS (lv_sub hl [1, 2, 3, 0] rfl)
    have lp62_26 : ∀ (n : Nat) (x3_28 : Int32) (L0_29 : PL) (H : Heap) (locs : List Loc) (ls : Array Slot), f_Ref_copy_62 x1 x2 K118_13 n x3_28 L0_29 = some z → va_P D vwCl (wC_Ref k b0 P0_8 L0_29) H → va_D A (wC_Ref k b0 P0_8 L0_29) → va_S A s.heap H locs → lv_has ls 4 [(0, .ref (b0 0)), (1, .int x1), (2, .int x2), (3, .int x3_28)] → W p l e rm_Ref_copy s m args below meth c H locs 0 0 Q (F0 m 62 ls []) := by
      intro n
      induction n with
      | zero =>
        intro x3_28 L0_29 H locs ls hf
        exact nomatch (show (none : Option (PI × PL)) = some z from hf)
      | succ n ih_27 =>
        intro x3_28 L0_29 H locs ls hf hP hD hS hl
        have hf : f_Ref_copy_62_b x1 x2 K118_13 (f_Ref_copy_62 x1 x2 K118_13 n) x3_28 L0_29 = some z := hf
        unfold f_Ref_copy_62_b at hf
        refine lv_iload_n hx hb dX12_copy_62 rfl (lv_at hl 3 rfl) ?_
        refine lv_bipush (v := 6) hx hb dX12_copy_63 (by decide) ?_
        refine lv_icmp_ge (tgt := 118) hx hb dX12_copy_65 (by decide) (fun c_38 => ?_) (fun c_38 => ?_)
        · have hf := mb_if_t c_38 hf
          exact k118_14 L0_29 _ _ _ hf hP hD hS (lv_sub hl [0, 1, 2] rfl)
        · have hf := mb_if_f c_38 hf
          refine lv_aload_n hx hb dX12_copy_68 rfl (lv_at hl 0 rfl) ?_
          refine va_get (D := D) (ci := 12) (v := .ref (b0 21)) (C := RX12) (T := TX12) (N := 42) hx hb hts iw_Ref hown hK hP 0 rfl rfl 20 (by decide) fl_56 (fun _ h9 => h9) rfl dX12_copy_69 ?_
          refine lv_bipush (v := 6) hx hb dX12_copy_72 (by decide) ?_
          refine lv_iload_n hx hb dX12_copy_74 rfl (lv_at hl 2 rfl) ?_
          refine lv_imul hx hb dX12_copy_75 ?_
          refine lv_iload_n hx hb dX12_copy_76 rfl (lv_at hl 3 rfl) ?_
          refine lv_iadd hx hb dX12_copy_77 ?_
          refine lv_aload_n hx hb dX12_copy_78 rfl (lv_at hl 0 rfl) ?_
          refine va_get (D := D) (ci := 12) (v := .ref (b0 21)) (C := RX12) (T := TX12) (N := 42) hx hb hts iw_Ref hown hK hP 0 rfl rfl 20 (by decide) fl_56 (fun _ h9 => h9) rfl dX12_copy_79 ?_
          refine lv_bipush (v := 6) hx hb dX12_copy_82 (by decide) ?_
          refine lv_iload_n hx hb dX12_copy_84 rfl (lv_at hl 1 rfl) ?_
          refine lv_imul hx hb dX12_copy_85 ?_
          refine lv_iload_n hx hb dX12_copy_86 rfl (lv_at hl 3 rfl) ?_
          refine lv_iadd hx hb dX12_copy_87 ?_
          obtain ⟨h_31, hf⟩ := mb_chk_s hf
          refine va_lald hx hb hK hP 16 1 rfl rfl h_31 dX12_copy_88 ?_
          obtain ⟨h_33, hf⟩ := mb_chk_s hf
          obtain ⟨L0_32, e_, hf⟩ := mb_let_s hf
          refine va_last hx hb hK hP hD hS 16 1 rfl rfl h_33 dX12_copy_89 (fun H locs hP hD hS => ?_)
          have hP : va_P D vwCl (wC_Ref k b0 P0_8 L0_32) H := by rw [e_]; exact hP
          have hD : va_D A (wC_Ref k b0 P0_8 L0_32) := by rw [e_]; exact hD
          clear e_
          refine lv_aload_n hx hb dX12_copy_90 rfl (lv_at hl 0 rfl) ?_
          refine va_get (D := D) (ci := 12) (v := .ref (b0 22)) (C := RX12) (T := TX12) (N := 42) hx hb hts iw_Ref hown hK hP 0 rfl rfl 21 (by decide) fl_59 (fun _ h9 => h9) rfl dX12_copy_91 ?_
          refine lv_bipush (v := 6) hx hb dX12_copy_94 (by decide) ?_
          refine lv_iload_n hx hb dX12_copy_96 rfl (lv_at hl 2 rfl) ?_
          refine lv_imul hx hb dX12_copy_97 ?_
          refine lv_iload_n hx hb dX12_copy_98 rfl (lv_at hl 3 rfl) ?_
          refine lv_iadd hx hb dX12_copy_99 ?_
          refine lv_aload_n hx hb dX12_copy_100 rfl (lv_at hl 0 rfl) ?_
          refine va_get (D := D) (ci := 12) (v := .ref (b0 22)) (C := RX12) (T := TX12) (N := 42) hx hb hts iw_Ref hown hK hP 0 rfl rfl 21 (by decide) fl_59 (fun _ h9 => h9) rfl dX12_copy_101 ?_
          refine lv_bipush (v := 6) hx hb dX12_copy_104 (by decide) ?_
          refine lv_iload_n hx hb dX12_copy_106 rfl (lv_at hl 1 rfl) ?_
          refine lv_imul hx hb dX12_copy_107 ?_
          refine lv_iload_n hx hb dX12_copy_108 rfl (lv_at hl 3 rfl) ?_
          refine lv_iadd hx hb dX12_copy_109 ?_
          obtain ⟨h_34, hf⟩ := mb_chk_s hf
          refine va_lald hx hb hK hP 17 1 rfl rfl h_34 dX12_copy_110 ?_
          obtain ⟨h_36, hf⟩ := mb_chk_s hf
          obtain ⟨L0_35, e_, hf⟩ := mb_let_s hf
          refine va_last hx hb hK hP hD hS 17 1 rfl rfl h_36 dX12_copy_111 (fun H locs hP hD hS => ?_)
          have hP : va_P D vwCl (wC_Ref k b0 P0_8 L0_35) H := by rw [e_]; exact hP
          have hD : va_D A (wC_Ref k b0 P0_8 L0_35) := by rw [e_]; exact hD
          clear e_
          obtain ⟨x3_37, e_, hf⟩ := mb_let_s hf
          refine lv_iinc (v := x3_37) (lv' := [(3, .int x3_37), (0, .ref (b0 0)), (1, .int x1), (2, .int x2)]) hx hb dX12_copy_112 hl (k := 3) rfl (by rw [e_]; rfl) (by decide) rfl (fun ls hl => ?_)
          clear e_
          refine lv_goto (tgt := 62) hx hb dX12_copy_115 (by decide) ?_
          exact ih_27 x3_37 L0_35 _ _ _ hf hP hD hS (lv_sub hl [1, 2, 3, 0] rfl)
    exact lp62_26 mb_fu x3_11 L0 _ _ _ hf hP hD hS (lv_sub hl [1, 2, 3, 0] rfl)
  have lp26_39 : ∀ (n : Nat) (x3_41 : Int32) (P0_42 : PI) (H : Heap) (locs : List Loc) (ls : Array Slot), f_Ref_copy_26 x1 x2 K60_9 n x3_41 P0_42 = some z → va_P D vwCl (wC_Ref k b0 P0_42 L0) H → va_D A (wC_Ref k b0 P0_42 L0) → va_S A s.heap H locs → lv_has ls 4 [(0, .ref (b0 0)), (1, .int x1), (2, .int x2), (3, .int x3_41)] → W p l e rm_Ref_copy s m args below meth c H locs 0 0 Q (F0 m 26 ls []) := by
    intro n
    induction n with
    | zero =>
      intro x3_41 P0_42 H locs ls hf
      exact nomatch (show (none : Option (PI × PL)) = some z from hf)
    | succ n ih_40 =>
      intro x3_41 P0_42 H locs ls hf hP hD hS hl
      have hf : f_Ref_copy_26_b x1 x2 K60_9 (f_Ref_copy_26 x1 x2 K60_9 n) x3_41 P0_42 = some z := hf
      unfold f_Ref_copy_26_b at hf
      refine lv_iload_n hx hb dX12_copy_26 rfl (lv_at hl 3 rfl) ?_
      refine lv_bipush (v := 96) hx hb dX12_copy_27 (by decide) ?_
      refine lv_icmp_ge (tgt := 60) hx hb dX12_copy_29 (by decide) (fun c_48 => ?_) (fun c_48 => ?_)
      · have hf := mb_if_t c_48 hf
        exact k60_10 P0_42 _ _ _ hf hP hD hS (lv_sub hl [0, 1, 2] rfl)
      · have hf := mb_if_f c_48 hf
        refine lv_aload_n hx hb dX12_copy_32 rfl (lv_at hl 0 rfl) ?_
        refine va_get (D := D) (ci := 12) (v := .ref (b0 19)) (C := RX12) (T := TX12) (N := 42) hx hb hts iw_Ref hown hK hP 0 rfl rfl 18 (by decide) fl_50 (fun _ h9 => h9) rfl dX12_copy_33 ?_
        refine lv_bipush (v := 96) hx hb dX12_copy_36 (by decide) ?_
        refine lv_iload_n hx hb dX12_copy_38 rfl (lv_at hl 2 rfl) ?_
        refine lv_imul hx hb dX12_copy_39 ?_
        refine lv_iload_n hx hb dX12_copy_40 rfl (lv_at hl 3 rfl) ?_
        refine lv_iadd hx hb dX12_copy_41 ?_
        refine lv_aload_n hx hb dX12_copy_42 rfl (lv_at hl 0 rfl) ?_
        refine va_get (D := D) (ci := 12) (v := .ref (b0 19)) (C := RX12) (T := TX12) (N := 42) hx hb hts iw_Ref hown hK hP 0 rfl rfl 18 (by decide) fl_50 (fun _ h9 => h9) rfl dX12_copy_43 ?_
        refine lv_bipush (v := 96) hx hb dX12_copy_46 (by decide) ?_
        refine lv_iload_n hx hb dX12_copy_48 rfl (lv_at hl 1 rfl) ?_
        refine lv_imul hx hb dX12_copy_49 ?_
        refine lv_iload_n hx hb dX12_copy_50 rfl (lv_at hl 3 rfl) ?_
        refine lv_iadd hx hb dX12_copy_51 ?_
        obtain ⟨h_44, hf⟩ := mb_chk_s hf
        refine va_iald hx hb hK hP 14 0 rfl rfl h_44 dX12_copy_52 ?_
        obtain ⟨h_46, hf⟩ := mb_chk_s hf
        obtain ⟨P0_45, e_, hf⟩ := mb_let_s hf
        refine va_iast hx hb hK hP hD hS 14 0 rfl rfl h_46 dX12_copy_53 (fun H locs hP hD hS => ?_)
        have hP : va_P D vwCl (wC_Ref k b0 P0_45 L0) H := by rw [e_]; exact hP
        have hD : va_D A (wC_Ref k b0 P0_45 L0) := by rw [e_]; exact hD
        clear e_
        obtain ⟨x3_47, e_, hf⟩ := mb_let_s hf
        refine lv_iinc (v := x3_47) (lv' := [(3, .int x3_47), (0, .ref (b0 0)), (1, .int x1), (2, .int x2)]) hx hb dX12_copy_54 hl (k := 3) rfl (by rw [e_]; rfl) (by decide) rfl (fun ls hl => ?_)
        clear e_
        refine lv_goto (tgt := 26) hx hb dX12_copy_57 (by decide) ?_
        exact ih_40 x3_47 P0_45 _ _ _ hf hP hD hS (lv_sub hl [1, 2, 3, 0] rfl)
  exact lp26_39 mb_fu x3_7 P0_5 _ _ _ hf hP hD hS (lv_sub hl [1, 2, 3, 0] rfl)
def f_Ref_keep (P0 : PI) (L0 : PL) : Option (Int32 × PI × PL) := (if (P0 0 23) = (2 : Int32) then some ((-3 : Int32), P0, L0) else mb_bd2 (f_Ref_copy P0 L0 (0 : Int32) ((1 : Int32) + (P0 0 23))) (fun (P0_1 : PI) (L0_2 : PL) => mb_let (mb_uo P0_1 23 ((P0_1 0 23) + (1 : Int32))) (fun (P0_3 : PI) => some ((P0_3 0 23), P0_3, L0_2))))
def rm_Ref_keep : Room := { frames := 1, cells := 0, slots := 0, locals := 23 }
set_option maxHeartbeats 4000000 in
set_option maxRecDepth 100000 in
theorem c_Ref_keep (l : Launch) (D : va_G) (k : Nat → ClassId) (sz : Nat) (b0 : Nat → Nat) (P0 : PI) (L0 : PL) (z : Int32 × PI × PL) (hf : f_Ref_keep P0 L0 = some z) : Met l yX12_keep wsX12_keep rm_Ref_keep (va_Pc [.ref (b0 0)] (gw_pre D vwCl (tyL k) (wC_Ref k b0 P0 L0) sz)) (va_Qi (fun (r : Int32) (_ : Unit) => r = z.1) (gw_b D vwCl (tyL k) (va_A (wC_Ref k b0 P0 L0) sz) (wC_Ref k b0 z.2.1 z.2.2)) (va_A (wC_Ref k b0 P0 L0) sz)) 0 0 (va_A (wC_Ref k b0 P0 L0) sz) := by
  refine gm_i (cc := cX12_keep) (maxL := 1) (by decide) rfl (Nat.le_of_ble_eq_true rfl) ?_
  intro p e s m args below meth c A Q ls H locs hx hb hml hown hts hK hN hA hP hD hS hl hret
  have hown : s.vm.findClass RX12 = some m.cls := hown
  have hl : lv_has ls 1 [(0, .ref (b0 0))] := hl
  have iw_Ref : ∀ w ∈ u_ws RX12 TX12 42, w ∈ wsX12_keep := by decide +kernel
  have fl_300 := hts (.fieldLink RX12 300 "OneMeasureModel" "keptMany" "I") (by decide +kernel)
  unfold f_Ref_keep at hf
  refine lv_aload_n hx hb dX12_keep_0 rfl (lv_at hl 0 rfl) ?_
  refine va_get (D := D) (ci := 12) (v := .int (P0 0 23)) (C := RX12) (T := TX12) (N := 42) hx hb hts iw_Ref hown hK hP 0 rfl rfl 23 (by decide) fl_300 (fun _ h9 => h9) rfl dX12_keep_1 ?_
  refine lv_iconst (v := 2) hx hb dX12_keep_4 (by decide) ?_
  refine lv_icmp_ne (tgt := 11) hx hb dX12_keep_5 (by decide) (fun c_4 => ?_) (fun c_4 => ?_)
  · have hf := mb_if_f c_4 hf
    refine lv_aload_n hx hb dX12_keep_11 rfl (lv_at hl 0 rfl) ?_
    refine lv_iconst (v := 0) hx hb dX12_keep_12 (by decide) ?_
    refine lv_iconst (v := 1) hx hb dX12_keep_13 (by decide) ?_
    refine lv_aload_n hx hb dX12_keep_14 rfl (lv_at hl 0 rfl) ?_
    refine va_get (D := D) (ci := 12) (v := .int (P0 0 23)) (C := RX12) (T := TX12) (N := 42) hx hb hts iw_Ref hown hK hP 0 rfl rfl 23 (by decide) fl_300 (fun _ h9 => h9) rfl dX12_keep_15 ?_
    refine lv_iadd hx hb dX12_keep_18 ?_
    obtain ⟨P0_1, L0_2, hz, hf⟩ := mb_bd2_s hf
    refine gc_v (ws' := (wC_Ref k b0 P0_1 L0_2)) (wr := ([] : va_W)) (va_runV (As := [.int (0 : Int32), .int ((1 : Int32) + (P0 0 23))]) (rest := []) ⟨hx, hb, hml, hown, hts⟩ (c_Ref_copy l D k H.size b0 P0 L0 (0 : Int32) ((1 : Int32) + (P0 0 23)) (P0_1, L0_2) hz) (cwV 2 hts gX12_keep_X12_copy rfl rfl rfl (by decide +kernel) ⟨Nat.le_of_ble_eq_true rfl, Nat.le_of_ble_eq_true rfl⟩) (gp_V (ci := 12) (q0 := 0) (q := (RX12, TX12, 42)) hP hD hK hN [0, 1, 2, 3, 4, 5, 6, 7, 8, 9, 10, 11, 12, 13, 14, 15, 16, 17, 18, 19, 20, 21, 22, 23, 24, 25] (by decide +kernel) rfl rfl rfl) rfl rfl hl.1 rfl (lv_room (Nat.le_of_ble_eq_true rfl)) dX12_keep_19 ⟨Nat.zero_le _, Nat.zero_le _⟩) hP hD hS hA [0, 1, 2, 3, 4, 5, 6, 7, 8, 9, 10, 11, 12, 13, 14, 15, 16, 17, 18, 19, 20, 21, 22, 23, 24, 25] [] rfl rfl (by decide +kernel) (by decide +kernel) [0, 1, 2, 3, 4, 5, 6, 7, 8, 9, 10, 11, 12, 13, 14, 15, 16, 17, 18, 19, 20, 21, 22, 23, 24, 25] (by decide +kernel) rfl (fun H locs hP hD hS => ?_)
    clear hz
    refine lv_aload_n hx hb dX12_keep_22 rfl (lv_at hl 0 rfl) ?_
    refine lv_dup hx hb dX12_keep_23 rfl ?_
    refine va_get (D := D) (ci := 12) (v := .int (P0_1 0 23)) (C := RX12) (T := TX12) (N := 42) hx hb hts iw_Ref hown hK hP 0 rfl rfl 23 (by decide) fl_300 (fun _ h9 => h9) rfl dX12_keep_24 ?_
    refine lv_iconst (v := 1) hx hb dX12_keep_27 (by decide) ?_
    refine lv_iadd hx hb dX12_keep_28 ?_
    obtain ⟨P0_3, e_, hf⟩ := mb_let_s hf
    refine va_put (D := D) (ci := 12) (v := .int ((P0_1 0 23) + (1 : Int32))) (ty := .int) (C := RX12) (T := TX12) (N := 42) hx hb hts iw_Ref tyX12 tyX12_ok nmX12 hown hK hP hD hS 0 rfl rfl 23 (by decide) fl_300 (fun _ h9 => h9) rfl (by decide +kernel) rfl rfl (Nat.le_of_ble_eq_true rfl) dX12_keep_29 (fun H locs hP hD hS => ?_)
    have hP : va_P D vwCl (wC_Ref k b0 P0_3 L0_2) H := by rw [e_]; exact hP
    have hD : va_D A (wC_Ref k b0 P0_3 L0_2) := by rw [e_]; exact hD
    clear e_
    refine lv_aload_n hx hb dX12_keep_32 rfl (lv_at hl 0 rfl) ?_
    refine va_get (D := D) (ci := 12) (v := .int (P0_3 0 23)) (C := RX12) (T := TX12) (N := 42) hx hb hts iw_Ref hown hK hP 0 rfl rfl 23 (by decide) fl_300 (fun _ h9 => h9) rfl dX12_keep_33 ?_
    have hz := Option.some.inj hf
    subst hz
    exact hret _ _ _ _ dX12_keep_36 hP hD hS
  · have hf := mb_if_t c_4 hf
    refine lv_bipush (v := (-3)) hx hb dX12_keep_8 (by decide) ?_
    have hz := Option.some.inj hf
    subst hz
    exact hret _ _ _ _ dX12_keep_10 hP hD hS
def f_Ref_back (P0 : PI) (L0 : PL) : Option (Int32 × PI × PL) := (if (P0 0 23) = 0 then some ((-2 : Int32), P0, L0) else mb_let (mb_uo P0 23 ((P0 0 23) - (1 : Int32))) (fun (P0_1 : PI) => mb_bd2 (f_Ref_copy P0_1 L0 ((1 : Int32) + (P0_1 0 23)) (0 : Int32)) (fun (P0_2 : PI) (L0_3 : PL) => some ((P0_2 0 23), P0_2, L0_3))))
def rm_Ref_back : Room := { frames := 1, cells := 0, slots := 0, locals := 23 }
set_option maxHeartbeats 4000000 in
set_option maxRecDepth 100000 in
theorem c_Ref_back (l : Launch) (D : va_G) (k : Nat → ClassId) (sz : Nat) (b0 : Nat → Nat) (P0 : PI) (L0 : PL) (z : Int32 × PI × PL) (hf : f_Ref_back P0 L0 = some z) : Met l yX12_back wsX12_back rm_Ref_back (va_Pc [.ref (b0 0)] (gw_pre D vwCl (tyL k) (wC_Ref k b0 P0 L0) sz)) (va_Qi (fun (r : Int32) (_ : Unit) => r = z.1) (gw_b D vwCl (tyL k) (va_A (wC_Ref k b0 P0 L0) sz) (wC_Ref k b0 z.2.1 z.2.2)) (va_A (wC_Ref k b0 P0 L0) sz)) 0 0 (va_A (wC_Ref k b0 P0 L0) sz) := by
  refine gm_i (cc := cX12_back) (maxL := 1) (by decide) rfl (Nat.le_of_ble_eq_true rfl) ?_
  intro p e s m args below meth c A Q ls H locs hx hb hml hown hts hK hN hA hP hD hS hl hret
  have hown : s.vm.findClass RX12 = some m.cls := hown
  have hl : lv_has ls 1 [(0, .ref (b0 0))] := hl
  have iw_Ref : ∀ w ∈ u_ws RX12 TX12 42, w ∈ wsX12_back := by decide +kernel
  have fl_300 := hts (.fieldLink RX12 300 "OneMeasureModel" "keptMany" "I") (by decide +kernel)
  unfold f_Ref_back at hf
  refine lv_aload_n hx hb dX12_back_0 rfl (lv_at hl 0 rfl) ?_
  refine va_get (D := D) (ci := 12) (v := .int (P0 0 23)) (C := RX12) (T := TX12) (N := 42) hx hb hts iw_Ref hown hK hP 0 rfl rfl 23 (by decide) fl_300 (fun _ h9 => h9) rfl dX12_back_1 ?_
  refine lv_if_ne (tgt := 10) hx hb dX12_back_4 (by decide) (fun c_4 => ?_) (fun c_4 => ?_)
  · have hf := mb_if_f c_4 hf
    refine lv_aload_n hx hb dX12_back_10 rfl (lv_at hl 0 rfl) ?_
    refine lv_dup hx hb dX12_back_11 rfl ?_
    refine va_get (D := D) (ci := 12) (v := .int (P0 0 23)) (C := RX12) (T := TX12) (N := 42) hx hb hts iw_Ref hown hK hP 0 rfl rfl 23 (by decide) fl_300 (fun _ h9 => h9) rfl dX12_back_12 ?_
    refine lv_iconst (v := 1) hx hb dX12_back_15 (by decide) ?_
    refine lv_isub hx hb dX12_back_16 ?_
    obtain ⟨P0_1, e_, hf⟩ := mb_let_s hf
    refine va_put (D := D) (ci := 12) (v := .int ((P0 0 23) - (1 : Int32))) (ty := .int) (C := RX12) (T := TX12) (N := 42) hx hb hts iw_Ref tyX12 tyX12_ok nmX12 hown hK hP hD hS 0 rfl rfl 23 (by decide) fl_300 (fun _ h9 => h9) rfl (by decide +kernel) rfl rfl (Nat.le_of_ble_eq_true rfl) dX12_back_17 (fun H locs hP hD hS => ?_)
    have hP : va_P D vwCl (wC_Ref k b0 P0_1 L0) H := by rw [e_]; exact hP
    have hD : va_D A (wC_Ref k b0 P0_1 L0) := by rw [e_]; exact hD
    clear e_
    refine lv_aload_n hx hb dX12_back_20 rfl (lv_at hl 0 rfl) ?_
    refine lv_iconst (v := 1) hx hb dX12_back_21 (by decide) ?_
    refine lv_aload_n hx hb dX12_back_22 rfl (lv_at hl 0 rfl) ?_
    refine va_get (D := D) (ci := 12) (v := .int (P0_1 0 23)) (C := RX12) (T := TX12) (N := 42) hx hb hts iw_Ref hown hK hP 0 rfl rfl 23 (by decide) fl_300 (fun _ h9 => h9) rfl dX12_back_23 ?_
    refine lv_iadd hx hb dX12_back_26 ?_
    refine lv_iconst (v := 0) hx hb dX12_back_27 (by decide) ?_
    obtain ⟨P0_2, L0_3, hz, hf⟩ := mb_bd2_s hf
    refine gc_v (ws' := (wC_Ref k b0 P0_2 L0_3)) (wr := ([] : va_W)) (va_runV (As := [.int ((1 : Int32) + (P0_1 0 23)), .int (0 : Int32)]) (rest := []) ⟨hx, hb, hml, hown, hts⟩ (c_Ref_copy l D k H.size b0 P0_1 L0 ((1 : Int32) + (P0_1 0 23)) (0 : Int32) (P0_2, L0_3) hz) (cwV 2 hts gX12_back_X12_copy rfl rfl rfl (by decide +kernel) ⟨Nat.le_of_ble_eq_true rfl, Nat.le_of_ble_eq_true rfl⟩) (gp_V (ci := 12) (q0 := 0) (q := (RX12, TX12, 42)) hP hD hK hN [0, 1, 2, 3, 4, 5, 6, 7, 8, 9, 10, 11, 12, 13, 14, 15, 16, 17, 18, 19, 20, 21, 22, 23, 24, 25] (by decide +kernel) rfl rfl rfl) rfl rfl hl.1 rfl (lv_room (Nat.le_of_ble_eq_true rfl)) dX12_back_28 ⟨Nat.zero_le _, Nat.zero_le _⟩) hP hD hS hA [0, 1, 2, 3, 4, 5, 6, 7, 8, 9, 10, 11, 12, 13, 14, 15, 16, 17, 18, 19, 20, 21, 22, 23, 24, 25] [] rfl rfl (by decide +kernel) (by decide +kernel) [0, 1, 2, 3, 4, 5, 6, 7, 8, 9, 10, 11, 12, 13, 14, 15, 16, 17, 18, 19, 20, 21, 22, 23, 24, 25] (by decide +kernel) rfl (fun H locs hP hD hS => ?_)
    clear hz
    refine lv_aload_n hx hb dX12_back_31 rfl (lv_at hl 0 rfl) ?_
    refine va_get (D := D) (ci := 12) (v := .int (P0_2 0 23)) (C := RX12) (T := TX12) (N := 42) hx hb hts iw_Ref hown hK hP 0 rfl rfl 23 (by decide) fl_300 (fun _ h9 => h9) rfl dX12_back_32 ?_
    have hz := Option.some.inj hf
    subst hz
    exact hret _ _ _ _ dX12_back_35 hP hD hS
  · have hf := mb_if_t c_4 hf
    refine lv_bipush (v := (-2)) hx hb dX12_back_7 (by decide) ?_
    have hz := Option.some.inj hf
    subst hz
    exact hret _ _ _ _ dX12_back_9 hP hD hS
