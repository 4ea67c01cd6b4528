def f_Ref_table (P0 : PI) (x1 : Int32) (x2 : Int32) (x3 : Int32) (x4 : Int32) (x5 : Int32) : Option (Int32 × PI) := mb_bd1 (f_Ref_isUnit P0 x1) (fun (r_1 : Int32) => (if r_1 = 0 then some ((-1 : Int32), P0) else mb_bd1 (f_Ref_isUnit P0 x2) (fun (r_2 : Int32) => (if r_2 = 0 then some ((-1 : Int32), P0) else (if x1 = x2 then some ((-1 : Int32), P0) else mb_bd1 (f_Ref_in ((x3).toInt64) (1 : Int64) (10000 : Int64)) (fun (r_3 : Int32) => (if r_3 = 0 then some ((-1 : Int32), P0) else mb_bd1 (f_Ref_in ((x4).toInt64) (1 : Int64) (10000 : Int64)) (fun (r_4 : Int32) => (if r_4 = 0 then some ((-1 : Int32), P0) else mb_bd1 (f_Ref_in ((x5).toInt64) (0 : Int64) (3 : Int64)) (fun (r_5 : Int32) => (if r_5 = 0 then some ((-1 : Int32), P0) else mb_chk x1 16 (mb_chk x2 16 ((if (P0 2 x1.toNatClampNeg) = (P0 2 x2.toNatClampNeg) then mb_let ((3 : Int32) * (((16 : Int32) * x1) + x2)) (fun (x6_8 : Int32) => mb_chk x6_8 768 (mb_let (mb_u2 P0 5 x6_8.toNatClampNeg x3) (fun (P0_9 : PI) => mb_chk (x6_8 + (1 : Int32)) 768 (mb_let (mb_u2 P0_9 5 (x6_8 + (1 : Int32)).toNatClampNeg x4) (fun (P0_11 : PI) => mb_chk (x6_8 + (2 : Int32)) 768 (mb_let (mb_u2 P0_11 5 (x6_8 + (2 : Int32)).toNatClampNeg x5) (fun (P0_13 : PI) => some ((0 : Int32), P0_13)))))))) else some ((-2 : Int32), P0)))))))))))))))
def rm_Ref_table : Room := { frames := 2, cells := 0, slots := 0, locals := 46 }
set_option maxHeartbeats 4000000 in
set_option maxRecDepth 100000 in
theorem c_Ref_table (l : Launch) (D : va_G) (k : Nat → ClassId) (sz : Nat) (b0 : Nat → Nat) (P0 : PI) (L0 : PL) (x1 : Int32) (x2 : Int32) (x3 : Int32) (x4 : Int32) (x5 : Int32) (z : Int32 × PI) (hf : f_Ref_table P0 x1 x2 x3 x4 x5 = some z) : Met l yX12_table wsX12_table rm_Ref_table (va_Pc [.ref (b0 0), .int x1, .int x2, .int x3, .int x4, .int x5] (gw_pre D vwCl (tyL k) (wC_Ref k b0 P0 L0) sz)) (va_Qi (fun (r : Int32) (_ : Unit) => r = z.1) (gw_b D vwCl (tyL k) (va_A (wC_Ref k b0 P0 L0) sz) (wC_Ref k b0 z.2 L0)) (va_A (wC_Ref k b0 P0 L0) sz)) 0 0 (va_A (wC_Ref k b0 P0 L0) sz) := by
  refine gm_i (cc := cX12_table) (maxL := 7) (by decide) rfl (Nat.le_of_ble_eq_true rfl) ?_
  intro p e s m args below meth c A Q ls H locs hx hb hml hown hts hK hN hA hP hD hS hl hret
  have hown : s.vm.findClass RX12 = some m.cls := hown
  have hl : lv_has ls 7 [(0, .ref (b0 0)), (1, .int x1), (2, .int x2), (3, .int x3), (4, .int x4), (5, .int x5)] := hl
  have iw_Ref : ∀ w ∈ u_ws RX12 TX12 42, w ∈ wsX12_table := by decide +kernel
  have fl_7 := hts (.fieldLink RX12 7 "OneMeasureModel" "sort" "[I") (by decide +kernel)
  have fl_19 := hts (.fieldLink RX12 19 "OneMeasureModel" "tables" "[I") (by decide +kernel)
  have lc_105 := hts (.constantLong RX12 105 (10000)) (by decide +kernel)
  have lc_107 := hts (.constantLong RX12 107 (3)) (by decide +kernel)
  unfold f_Ref_table at hf
  refine lv_aload_n hx hb dX12_table_0 rfl (lv_at hl 0 rfl) ?_
  refine lv_iload_n hx hb dX12_table_1 rfl (lv_at hl 1 rfl) ?_
  obtain ⟨r_1, hz, hf⟩ := mb_bd1_s hf
  refine gc_i (r0 := r_1) (ws' := (wC_Ref k b0 P0 L0)) (wr := ([] : va_W)) (va_runV (As := [.int x1]) (rest := []) ⟨hx, hb, hml, hown, hts⟩ (c_Ref_isUnit l D k H.size b0 P0 L0 x1 r_1 hz) (cwV 1 hts gX12_table_X12_isUnit rfl rfl rfl (by decide +kernel) ⟨Nat.le_of_ble_eq_true rfl, Nat.le_of_ble_eq_true rfl⟩) (gp_V (ci := 12) (q0 := 0) (q := (RX12, TX12, 42)) hP hD hK hN [0, 1, 2, 3, 4, 5, 6, 7, 8, 9, 10, 11, 12, 13, 14, 15, 16, 17, 18, 19, 20, 21, 22, 23, 24, 25] (by decide +kernel) rfl rfl rfl) rfl rfl hl.1 rfl (lv_room (Nat.le_of_ble_eq_true rfl)) dX12_table_2 ⟨Nat.zero_le _, Nat.zero_le _⟩) hP hD hS hA [0, 1, 2, 3, 4, 5, 6, 7, 8, 9, 10, 11, 12, 13, 14, 15, 16, 17, 18, 19, 20, 21, 22, 23, 24, 25] [] rfl rfl (by decide +kernel) (by decide +kernel) [0, 1, 2, 3, 4, 5, 6, 7, 8, 9, 10, 11, 12, 13, 14, 15, 16, 17, 18, 19, 20, 21, 22, 23, 24, 25] (by decide +kernel) rfl (fun H locs hP hD hS => ?_)
  clear hz
  refine lv_if_eq (tgt := 59) hx hb dX12_table_5 (by decide) (fun c_21 => ?_) (fun c_21 => ?_)
  · have hf := mb_if_t c_21 hf
    refine lv_iconst (v := (-1)) hx hb dX12_table_59 (by decide) ?_
    have hz := Option.some.inj hf
    subst hz
    exact hret _ _ _ _ dX12_table_60 hP hD hS
  · have hf := mb_if_f c_21 hf
    refine lv_aload_n hx hb dX12_table_8 rfl (lv_at hl 0 rfl) ?_
    refine lv_iload_n hx hb dX12_table_9 rfl (lv_at hl 2 rfl) ?_
    obtain ⟨r_2, hz, hf⟩ := mb_bd1_s hf
    refine gc_i (r0 := r_2) (ws' := (wC_Ref k b0 P0 L0)) (wr := ([] : va_W)) (va_runV (As := [.int x2]) (rest := []) ⟨hx, hb, hml, hown, hts⟩ (c_Ref_isUnit l D k H.size b0 P0 L0 x2 r_2 hz) (cwV 1 hts gX12_table_X12_isUnit rfl rfl rfl (by decide +kernel) ⟨Nat.le_of_ble_eq_true rfl, Nat.le_of_ble_eq_true rfl⟩) (gp_V (ci := 12) (q0 := 0) (q := (RX12, TX12, 42)) hP hD hK hN [0, 1, 2, 3, 4, 5, 6, 7, 8, 9, 10, 11, 12, 13, 14, 15, 16, 17, 18, 19, 20, 21, 22, 23, 24, 25] (by decide +kernel) rfl rfl rfl) rfl rfl hl.1 rfl (lv_room (Nat.le_of_ble_eq_true rfl)) dX12_table_10 ⟨Nat.zero_le _, Nat.zero_le _⟩) hP hD hS hA [0, 1, 2, 3, 4, 5, 6, 7, 8, 9, 10, 11, 12, 13, 14, 15, 16, 17, 18, 19, 20, 21, 22, 23, 24, 25] [] rfl rfl (by decide +kernel) (by decide +kernel) [0, 1, 2, 3, 4, 5, 6, 7, 8, 9, 10, 11, 12, 13, 14, 15, 16, 17, 18, 19, 20, 21, 22, 23, 24, 25] (by decide +kernel) rfl (fun H locs hP hD hS => ?_)
    clear hz
    refine lv_if_eq (tgt := 59) hx hb dX12_table_13 (by decide) (fun c_20 => ?_) (fun c_20 => ?_)
    · have hf := mb_if_t c_20 hf
      refine lv_iconst (v := (-1)) hx hb dX12_table_59 (by decide) ?_
      have hz := Option.some.inj hf
      subst hz
      exact hret _ _ _ _ dX12_table_60 hP hD hS
    · have hf := mb_if_f c_20 hf
      refine lv_iload_n hx hb dX12_table_16 rfl (lv_at hl 1 rfl) ?_
      refine lv_iload_n hx hb dX12_table_17 rfl (lv_at hl 2 rfl) ?_
      refine lv_icmp_eq (tgt := 59) hx hb dX12_table_18 (by decide) (fun c_19 => ?_) (fun c_19 => ?_)
      · have hf := mb_if_t c_19 hf
        refine lv_iconst (v := (-1)) hx hb dX12_table_59 (by decide) ?_
        have hz := Option.some.inj hf
        subst hz
        exact hret _ _ _ _ dX12_table_60 hP hD hS
      · have hf := mb_if_f c_19 hf
        refine lv_iload_n hx hb dX12_table_21 rfl (lv_at hl 3 rfl) ?_
        refine lv_i2l hx hb dX12_table_22 rfl ?_
        refine lv_lconst (v := 1) hx hb dX12_table_23 (by decide) ?_
        refine lv_ldc2 (v := (10000)) hx hb hown lc_105 dX12_table_24 ?_
        obtain ⟨r_3, hz, hf⟩ := mb_bd1_s hf
        refine gc_i (r0 := r_3) (ws' := (wC_Ref k b0 P0 L0)) (wr := (wC_Ref k b0 P0 L0)) (va_runS (As := [.long (x3).toInt64, .long (1 : Int64), .long (10000 : Int64)]) (rest := []) ⟨hx, hb, hml, hown, hts⟩ (c_Ref_in l D k H.size ((x3).toInt64) (1 : Int64) (10000 : Int64) r_3 hz) (cwS 3 hts gX12_table_X12_in rfl rfl rfl (by decide +kernel) ⟨Nat.le_of_ble_eq_true rfl, Nat.le_of_ble_eq_true rfl⟩) (gp_S hP hD hK hN [] (by decide +kernel) rfl) rfl rfl hl.1 rfl (lv_room (Nat.le_of_ble_eq_true rfl)) dX12_table_27 ⟨Nat.zero_le _, Nat.zero_le _⟩) hP hD hS hA [] [0, 1, 2, 3, 4, 5, 6, 7, 8, 9, 10, 11, 12, 13, 14, 15, 16, 17, 18, 19, 20, 21, 22, 23, 24, 25] rfl rfl (by decide +kernel) (by decide +kernel) [0, 1, 2, 3, 4, 5, 6, 7, 8, 9, 10, 11, 12, 13, 14, 15, 16, 17, 18, 19, 20, 21, 22, 23, 24, 25] (by decide +kernel) rfl (fun H locs hP hD hS => ?_)
        clear hz
        refine lv_if_eq (tgt := 59) hx hb dX12_table_30 (by decide) (fun c_18 => ?_) (fun c_18 => ?_)
        · have hf := mb_if_t c_18 hf
          refine lv_iconst (v := (-1)) hx hb dX12_table_59 (by decide) ?_
          have hz := Option.some.inj hf
          subst hz
          exact hret _ _ _ _ dX12_table_60 hP hD hS
        · have hf := mb_if_f c_18 hf
          refine lv_iload hx hb dX12_table_33 (lv_at hl 4 rfl) ?_
          refine lv_i2l hx hb dX12_table_35 rfl ?_
          refine lv_lconst (v := 1) hx hb dX12_table_36 (by decide) ?_
          refine lv_ldc2 (v := (10000)) hx hb hown lc_105 dX12_table_37 ?_
          obtain ⟨r_4, hz, hf⟩ := mb_bd1_s hf
          refine gc_i (r0 := r_4) (ws' := (wC_Ref k b0 P0 L0)) (wr := (wC_Ref k b0 P0 L0)) (va_runS (As := [.long (x4).toInt64, .long (1 : Int64), .long (10000 : Int64)]) (rest := []) ⟨hx, hb, hml, hown, hts⟩ (c_Ref_in l D k H.size ((x4).toInt64) (1 : Int64) (10000 : Int64) r_4 hz) (cwS 3 hts gX12_table_X12_in rfl rfl rfl (by decide +kernel) ⟨Nat.le_of_ble_eq_true rfl, Nat.le_of_ble_eq_true rfl⟩) (gp_S hP hD hK hN [] (by decide +kernel) rfl) rfl rfl hl.1 rfl (lv_room (Nat.le_of_ble_eq_true rfl)) dX12_table_40 ⟨Nat.zero_le _, Nat.zero_le _⟩) hP hD hS hA [] [0, 1, 2, 3, 4, 5, 6, 7, 8, 9, 10, 11, 12, 13, 14, 15, 16, 17, 18, 19, 20, 21, 22, 23, 24, 25] rfl rfl (by decide +kernel) (by decide +kernel) [0, 1, 2, 3, 4, 5, 6, 7, 8, 9, 10, 11, 12, 13, 14, 15, 16, 17, 18, 19, 20, 21, 22, 23, 24, 25] (by decide +kernel) rfl (fun H locs hP hD hS => ?_)
          clear hz
          refine lv_if_eq (tgt := 59) hx hb dX12_table_43 (by decide) (fun c_17 => ?_) (fun c_17 => ?_)
          · have hf := mb_if_t c_17 hf
            refine lv_iconst (v := (-1)) hx hb dX12_table_59 (by decide) ?_
            have hz := Option.some.inj hf
            subst hz
            exact hret _ _ _ _ dX12_table_60 hP hD hS
          · have hf := mb_if_f c_17 hf
            refine lv_iload hx hb dX12_table_46 (lv_at hl 5 rfl) ?_
            refine lv_i2l hx hb dX12_table_48 rfl ?_
            refine lv_lconst (v := 0) hx hb dX12_table_49 (by decide) ?_
            refine lv_ldc2 (v := (3)) hx hb hown lc_107 dX12_table_50 ?_
            obtain ⟨r_5, hz, hf⟩ := mb_bd1_s hf
            refine gc_i (r0 := r_5) (ws' := (wC_Ref k b0 P0 L0)) (wr := (wC_Ref k b0 P0 L0)) (va_runS (As := [.long (x5).toInt64, .long (0 : Int64), .long (3 : Int64)]) (rest := []) ⟨hx, hb, hml, hown, hts⟩ (c_Ref_in l D k H.size ((x5).toInt64) (0 : Int64) (3 : Int64) r_5 hz) (cwS 3 hts gX12_table_X12_in rfl rfl rfl (by decide +kernel) ⟨Nat.le_of_ble_eq_true rfl, Nat.le_of_ble_eq_true rfl⟩) (gp_S hP hD hK hN [] (by decide +kernel) rfl) rfl rfl hl.1 rfl (lv_room (Nat.le_of_ble_eq_true rfl)) dX12_table_53 ⟨Nat.zero_le _, Nat.zero_le _⟩) hP hD hS hA [] [0, 1, 2, 3, 4, 5, 6, 7, 8, 9, 10, 11, 12, 13, 14, 15, 16, 17, 18, 19, 20, 21, 22, 23, 24, 25] rfl rfl (by decide +kernel) (by decide +kernel) [0, 1, 2, 3, 4, 5, 6, 7, 8, 9, 10, 11, 12, 13, 14, 15, 16, 17, 18, 19, 20, 21, 22, 23, 24, 25] (by decide +kernel) rfl (fun H locs hP hD hS => ?_)
            clear hz
            refine lv_if_ne (tgt := 61) hx hb dX12_table_56 (by decide) (fun c_16 => ?_) (fun c_16 => ?_)
            · have hf := mb_if_f c_16 hf
              refine lv_aload_n hx hb dX12_table_61 rfl (lv_at hl 0 rfl) ?_
              refine va_get (D := D) (ci := 12) (v := .ref (b0 2)) (C := RX12) (T := TX12) (N := 42) hx hb hts iw_Ref hown hK hP 0 rfl rfl 1 (by decide) fl_7 (fun _ h9 => h9) rfl dX12_table_62 ?_
              refine lv_iload_n hx hb dX12_table_65 rfl (lv_at hl 1 rfl) ?_
              obtain ⟨h_6, hf⟩ := mb_chk_s hf
              refine va_iald hx hb hK hP 1 0 rfl rfl h_6 dX12_table_66 ?_
              refine lv_aload_n hx hb dX12_table_67 rfl (lv_at hl 0 rfl) ?_
              refine va_get (D := D) (ci := 12) (v := .ref (b0 2)) (C := RX12) (T := TX12) (N := 42) hx hb hts iw_Ref hown hK hP 0 rfl rfl 1 (by decide) fl_7 (fun _ h9 => h9) rfl dX12_table_68 ?_
              refine lv_iload_n hx hb dX12_table_71 rfl (lv_at hl 2 rfl) ?_
              obtain ⟨h_7, hf⟩ := mb_chk_s hf
              refine va_iald hx hb hK hP 1 0 rfl rfl h_7 dX12_table_72 ?_
              refine lv_icmp_eq (tgt := 79) hx hb dX12_table_73 (by decide) (fun c_15 => ?_) (fun c_15 => ?_)
              · have hf := mb_if_t c_15 hf
                refine lv_iconst (v := 3) hx hb dX12_table_79 (by decide) ?_
                refine lv_bipush (v := 16) hx hb dX12_table_80 (by decide) ?_
                refine lv_iload_n hx hb dX12_table_82 rfl (lv_at hl 1 rfl) ?_
                refine lv_imul hx hb dX12_table_83 ?_
                refine lv_iload_n hx hb dX12_table_84 rfl (lv_at hl 2 rfl) ?_
                refine lv_iadd hx hb dX12_table_85 ?_
                refine lv_imul hx hb dX12_table_86 ?_
                obtain ⟨x6_8, e_, hf⟩ := mb_let_s hf
                refine mb_topi e_ ?_
                clear e_
                refine lv_istore (lv' := [(6, .int x6_8), (0, .ref (b0 0)), (1, .int x1), (2, .int x2), (3, .int x3), (4, .int x4), (5, .int x5)]) hx hb dX12_table_87 hl (by decide) rfl (fun ls hl => ?_)
                refine lv_aload_n hx hb dX12_table_89 rfl (lv_at hl 1 rfl) ?_
                refine va_get (D := D) (ci := 12) (v := .ref (b0 5)) (C := RX12) (T := TX12) (N := 42) hx hb hts iw_Ref hown hK hP 0 rfl rfl 4 (by decide) fl_19 (fun _ h9 => h9) rfl dX12_table_90 ?_
                refine lv_iload hx hb dX12_table_93 (lv_at hl 0 rfl) ?_
                refine lv_iload_n hx hb dX12_table_95 rfl (lv_at hl 4 rfl) ?_
                obtain ⟨h_10, hf⟩ := mb_chk_s hf
                obtain ⟨P0_9, e_, hf⟩ := mb_let_s hf
                refine va_iast hx hb hK hP hD hS 4 0 rfl rfl h_10 dX12_table_96 (fun H locs hP hD hS => ?_)
                have hP : va_P D vwCl (wC_Ref k b0 P0_9 L0) H := by rw [e_]; exact hP
                have hD : va_D A (wC_Ref k b0 P0_9 L0) := by rw [e_]; exact hD
                clear e_
                refine lv_aload_n hx hb dX12_table_97 rfl (lv_at hl 1 rfl) ?_
                refine va_get (D := D) (ci := 12) (v := .ref (b0 5)) (C := RX12) (T := TX12) (N := 42) hx hb hts iw_Ref hown hK hP 0 rfl rfl 4 (by decide) fl_19 (fun _ h9 => h9) rfl dX12_table_98 ?_
                refine lv_iload hx hb dX12_table_101 (lv_at hl 0 rfl) ?_
                refine lv_iconst (v := 1) hx hb dX12_table_103 (by decide) ?_
                refine lv_iadd hx hb dX12_table_104 ?_
                refine lv_iload hx hb dX12_table_105 (lv_at hl 5 rfl) ?_
                obtain ⟨h_12, hf⟩ := mb_chk_s hf
                obtain ⟨P0_11, e_, hf⟩ := mb_let_s hf
                refine va_iast hx hb hK hP hD hS 4 0 rfl rfl h_12 dX12_table_107 (fun H locs hP hD hS => ?_)
                have hP : va_P D vwCl (wC_Ref k b0 P0_11 L0) H := by rw [e_]; exact hP
                have hD : va_D A (wC_Ref k b0 P0_11 L0) := by rw [e_]; exact hD
                clear e_
                refine lv_aload_n hx hb dX12_table_108 rfl (lv_at hl 1 rfl) ?_
                refine va_get (D := D) (ci := 12) (v := .ref (b0 5)) (C := RX12) (T := TX12) (N := 42) hx hb hts iw_Ref hown hK hP 0 rfl rfl 4 (by decide) fl_19 (fun _ h9 => h9) rfl dX12_table_109 ?_
                refine lv_iload hx hb dX12_table_112 (lv_at hl 0 rfl) ?_
                refine lv_iconst (v := 2) hx hb dX12_table_114 (by decide) ?_
                refine lv_iadd hx hb dX12_table_115 ?_
                refine lv_iload hx hb dX12_table_116 (lv_at hl 6 rfl) ?_
                obtain ⟨h_14, hf⟩ := mb_chk_s hf
                obtain ⟨P0_13, e_, hf⟩ := mb_let_s hf
                refine va_iast hx hb hK hP hD hS 4 0 rfl rfl h_14 dX12_table_118 (fun H locs hP hD hS => ?_)
                have hP : va_P D vwCl (wC_Ref k b0 P0_13 L0) H := by rw [e_]; exact hP
                have hD : va_D A (wC_Ref k b0 P0_13 L0) := by rw [e_]; exact hD
                clear e_
                refine lv_iconst (v := 0) hx hb dX12_table_119 (by decide) ?_
                have hz := Option.some.inj hf
                subst hz
                exact hret _ _ _ _ dX12_table_120 hP hD hS
              · have hf := mb_if_f c_15 hf
                refine lv_bipush (v := (-2)) hx hb dX12_table_76 (by decide) ?_
                have hz := Option.some.inj hf
                subst hz
                exact hret _ _ _ _ dX12_table_78 hP hD hS
            · have hf := mb_if_t c_16 hf
              refine lv_iconst (v := (-1)) hx hb dX12_table_59 (by decide) ?_
              have hz := Option.some.inj hf
              subst hz
              exact hret _ _ _ _ dX12_table_60 hP hD hS
def f_Ref_hasTable (P0 : PI) (x1 : Int32) (x2 : Int32) : Option (Int32) := mb_chk ((3 : Int32) * (((16 : Int32) * x1) + x2)) 768 ((if (P0 5 ((3 : Int32) * (((16 : Int32) * x1) + x2)).toNatClampNeg) ≤ 0 then some (0 : Int32) else some (1 : Int32)))
def rm_Ref_hasTable : Room := { frames := 0, cells := 0, slots := 0, locals := 0 }
set_option maxHeartbeats 4000000 in
set_option maxRecDepth 100000 in
theorem c_Ref_hasTable (l : Launch) (D : va_G) (k : Nat → ClassId) (sz : Nat) (b0 : Nat → Nat) (P0 : PI) (L0 : PL) (x1 : Int32) (x2 : Int32) (z : Int32) (hf : f_Ref_hasTable P0 x1 x2 = some z) : Met l yX12_hasTable wsX12_hasTable rm_Ref_hasTable (va_Pc [.ref (b0 0), .int x1, .int x2] (gw_pre D vwCl (tyL k) (wC_Ref k b0 P0 L0) sz)) (va_Qi (fun (r : Int32) (_ : Unit) => r = z) (gw_b D vwCl (tyL k) (va_A (wC_Ref k b0 P0 L0) sz) (wC_Ref k b0 P0 L0)) (va_A (wC_Ref k b0 P0 L0) sz)) 0 0 (va_A (wC_Ref k b0 P0 L0) sz) := by
  refine gm_z (cc := cX12_hasTable) (maxL := 3) (by decide) rfl (Nat.le_of_ble_eq_true rfl) ?_
  intro p e s m args below meth c A Q ls H locs hx hb hml hown hts hK hN hA hP hD hS hl hret
  have hown : s.vm.findClass RX12 = some m.cls := hown
  have hl : lv_has ls 3 [(0, .ref (b0 0)), (1, .int x1), (2, .int x2)] := hl
  have iw_Ref : ∀ w ∈ u_ws RX12 TX12 42, w ∈ wsX12_hasTable := by decide +kernel
  have fl_19 := hts (.fieldLink RX12 19 "OneMeasureModel" "tables" "[I") (by decide +kernel)
  unfold f_Ref_hasTable at hf
  refine lv_aload_n hx hb dX12_hasTable_0 rfl (lv_at hl 0 rfl) ?_
  refine va_get (D := D) (ci := 12) (v := .ref (b0 5)) (C := RX12) (T := TX12) (N := 42) hx hb hts iw_Ref hown hK hP 0 rfl rfl 4 (by decide) fl_19 (fun _ h9 => h9) rfl dX12_hasTable_1 ?_
  refine lv_iconst (v := 3) hx hb dX12_hasTable_4 (by decide) ?_
  refine lv_bipush (v := 16) hx hb dX12_hasTable_5 (by decide) ?_
  refine lv_iload_n hx hb dX12_hasTable_7 rfl (lv_at hl 1 rfl) ?_
  refine lv_imul hx hb dX12_hasTable_8 ?_
  refine lv_iload_n hx hb dX12_hasTable_9 rfl (lv_at hl 2 rfl) ?_
  refine lv_iadd hx hb dX12_hasTable_10 ?_
  refine lv_imul hx hb dX12_hasTable_11 ?_
  obtain ⟨h_1, hf⟩ := mb_chk_s hf
  refine va_iald hx hb hK hP 4 0 rfl rfl h_1 dX12_hasTable_12 ?_
  refine lv_if_le (tgt := 20) hx hb dX12_hasTable_13 (by decide) (fun c_2 => ?_) (fun c_2 => ?_)
  · have hf := mb_if_t c_2 hf
    refine lv_iconst (v := 0) hx hb dX12_hasTable_20 (by decide) ?_
    have hz := Option.some.inj hf
    subst hz
    exact hret _ _ _ _ mb_n0 dX12_hasTable_21 hP hD hS
  · have hf := mb_if_f c_2 hf
    refine lv_iconst (v := 1) hx hb dX12_hasTable_16 (by decide) ?_
    refine lv_goto (tgt := 21) hx hb dX12_hasTable_17 (by decide) ?_
    have hz := Option.some.inj hf
    subst hz
    exact hret _ _ _ _ mb_n1 dX12_hasTable_21 hP hD hS
def f_Ref_turned (P0 : PI) (x1 : Int32) (x2 : Int32) (x3 : Int64) : Option (Int64) := mb_let ((3 : Int32) * (((16 : Int32) * x1) + x2)) (fun (x5_1 : Int32) => mb_chk x5_1 768 (mb_chk (x5_1 + (1 : Int32)) 768 (mb_dvl ((P0 5 (x5_1 + (1 : Int32)).toNatClampNeg)).toInt64 (mb_let ((x3 * ((P0 5 x5_1.toNatClampNeg)).toInt64) / ((P0 5 (x5_1 + (1 : Int32)).toNatClampNeg)).toInt64) (fun (x6_5 : Int64) => mb_chk (x5_1 + (2 : Int32)) 768 (mb_let (P0 5 (x5_1 + (2 : Int32)).toNatClampNeg) (fun (x8_7 : Int32) => mb_jn (fun (y_8 : Int64) (y_9 : Int64) (y_10 : Int64) => mb_dvl y_8 (some (y_10 - (y_9 - y_9 / y_8 * y_8)))) (fun J84_11 => (if x8_7 = 0 then J84_11 (1000 : Int64) x6_5 x6_5 else (if x8_7 = (1 : Int32) then J84_11 (100 : Int64) x6_5 x6_5 else (if x8_7 = (2 : Int32) then J84_11 (10 : Int64) x6_5 x6_5 else J84_11 (1 : Int64) x6_5 x6_5)))))))))))
def rm_Ref_turned : Room := { frames := 0, cells := 0, slots := 0, locals := 0 }
set_option maxHeartbeats 4000000 in
set_option maxRecDepth 100000 in
theorem c_Ref_turned (l : Launch) (D : va_G) (k : Nat → ClassId) (sz : Nat) (b0 : Nat → Nat) (P0 : PI) (L0 : PL) (x1 : Int32) (x2 : Int32) (x3 : Int64) (z : Int64) (hf : f_Ref_turned P0 x1 x2 x3 = some z) : Met l yX12_turned wsX12_turned rm_Ref_turned (va_Pc [.ref (b0 0), .int x1, .int x2, .long x3] (gw_pre D vwCl (tyL k) (wC_Ref k b0 P0 L0) sz)) (va_Ql (fun (r : Int64) (_ : Unit) => r = z) (gw_b D vwCl (tyL k) (va_A (wC_Ref k b0 P0 L0) sz) (wC_Ref k b0 P0 L0)) (va_A (wC_Ref k b0 P0 L0) sz)) 0 0 (va_A (wC_Ref k b0 P0 L0) sz) := by
  refine gm_l (cc := cX12_turned) (maxL := 9) (by decide) rfl (Nat.le_of_ble_eq_true rfl) ?_
  intro p e s m args below meth c A Q ls H locs hx hb hml hown hts hK hN hA hP hD hS hl hret
  have hown : s.vm.findClass RX12 = some m.cls := hown
  have hl : lv_has ls 9 [(0, .ref (b0 0)), (1, .int x1), (2, .int x2), (3, .long x3)] := hl
  have iw_Ref : ∀ w ∈ u_ws RX12 TX12 42, w ∈ wsX12_turned := by decide +kernel
  have fl_19 := hts (.fieldLink RX12 19 "OneMeasureModel" "tables" "[I") (by decide +kernel)
  have lc_99 := hts (.constantLong RX12 99 (100)) (by decide +kernel)
  have lc_109 := hts (.constantLong RX12 109 (1000)) (by decide +kernel)
  have lc_111 := hts (.constantLong RX12 111 (10)) (by decide +kernel)
  unfold f_Ref_turned at hf
  refine lv_iconst (v := 3) hx hb dX12_turned_0 (by decide) ?_
  refine lv_bipush (v := 16) hx hb dX12_turned_1 (by decide) ?_
  refine lv_iload_n hx hb dX12_turned_3 rfl (lv_at hl 1 rfl) ?_
  refine lv_imul hx hb dX12_turned_4 ?_
  refine lv_iload_n hx hb dX12_turned_5 rfl (lv_at hl 2 rfl) ?_
  refine lv_iadd hx hb dX12_turned_6 ?_
  refine lv_imul hx hb dX12_turned_7 ?_
  obtain ⟨x5_1, e_, hf⟩ := mb_let_s hf
  refine mb_topi e_ ?_
  clear e_
  refine lv_istore (lv' := [(5, .int x5_1), (0, .ref (b0 0)), (1, .int x1), (2, .int x2), (3, .long x3)]) hx hb dX12_turned_8 hl (by decide) rfl (fun ls hl => ?_)
  refine lv_lload_n hx hb dX12_turned_10 rfl (lv_at hl 4 rfl) ?_
  refine lv_aload_n hx hb dX12_turned_11 rfl (lv_at hl 1 rfl) ?_
  refine va_get (D := D) (ci := 12) (v := .ref (b0 5)) (C := RX12) (T := TX12) (N := 42) hx hb hts iw_Ref hown hK hP 0 rfl rfl 4 (by decide) fl_19 (fun _ h9 => h9) rfl dX12_turned_12 ?_
  refine lv_iload hx hb dX12_turned_15 (lv_at hl 0 rfl) ?_
  obtain ⟨h_2, hf⟩ := mb_chk_s hf
  refine va_iald hx hb hK hP 4 0 rfl rfl h_2 dX12_turned_17 ?_
  refine lv_i2l hx hb dX12_turned_18 rfl ?_
  refine lv_lmul hx hb dX12_turned_19 ?_
  refine lv_aload_n hx hb dX12_turned_20 rfl (lv_at hl 1 rfl) ?_
  refine va_get (D := D) (ci := 12) (v := .ref (b0 5)) (C := RX12) (T := TX12) (N := 42) hx hb hts iw_Ref hown hK hP 0 rfl rfl 4 (by decide) fl_19 (fun _ h9 => h9) rfl dX12_turned_21 ?_
  refine lv_iload hx hb dX12_turned_24 (lv_at hl 0 rfl) ?_
  refine lv_iconst (v := 1) hx hb dX12_turned_26 (by decide) ?_
  refine lv_iadd hx hb dX12_turned_27 ?_
  obtain ⟨h_3, hf⟩ := mb_chk_s hf
  refine va_iald hx hb hK hP 4 0 rfl rfl h_3 dX12_turned_28 ?_
  refine lv_i2l hx hb dX12_turned_29 rfl ?_
  obtain ⟨h_4, hf⟩ := mb_dvl_s hf
  refine lv_ldiv hx hb dX12_turned_30 h_4 ?_
  obtain ⟨x6_5, e_, hf⟩ := mb_let_s hf
  refine mb_topl e_ ?_
  clear e_
  refine lv_lstore (lv' := [(6, .long x6_5), (5, .int x5_1), (0, .ref (b0 0)), (1, .int x1), (2, .int x2), (3, .long x3)]) hx hb dX12_turned_31 hl (by decide) rfl (fun ls hl => ?_)
  refine lv_aload_n hx hb dX12_turned_33 rfl (lv_at hl 2 rfl) ?_
  refine va_get (D := D) (ci := 12) (v := .ref (b0 5)) (C := RX12) (T := TX12) (N := 42) hx hb hts iw_Ref hown hK hP 0 rfl rfl 4 (by decide) fl_19 (fun _ h9 => h9) rfl dX12_turned_34 ?_
  refine lv_iload hx hb dX12_turned_37 (lv_at hl 1 rfl) ?_
  refine lv_iconst (v := 2) hx hb dX12_turned_39 (by decide) ?_
  refine lv_iadd hx hb dX12_turned_40 ?_
  obtain ⟨h_6, hf⟩ := mb_chk_s hf
  refine va_iald hx hb hK hP 4 0 rfl rfl h_6 dX12_turned_41 ?_
  obtain ⟨x8_7, e_, hf⟩ := mb_let_s hf
  refine mb_topi e_ ?_
  clear e_
  refine lv_istore (lv' := [(8, .int x8_7), (6, .long x6_5), (5, .int x5_1), (0, .ref (b0 0)), (1, .int x1), (2, .int x2), (3, .long x3)]) hx hb dX12_turned_42 hl (by decide) rfl (fun ls hl => ?_)
  refine lv_lload hx hb dX12_turned_44 (lv_at hl 1 rfl) ?_
  refine lv_lload hx hb dX12_turned_46 (lv_at hl 1 rfl) ?_
  refine lv_iload hx hb dX12_turned_48 (lv_at hl 0 rfl) ?_
  obtain ⟨J84_11, eJ84_11, hf⟩ := mb_jn_s hf
  have j84_12 : ∀ (y_8 : Int64) (y_9 : Int64) (y_10 : Int64) (H : Heap) (locs : List Loc) (ls : Array Slot), J84_11 y_8 y_9 y_10 = some z → va_P D vwCl (wC_Ref k b0 P0 L0) H → va_D A (wC_Ref k b0 P0 L0) → va_S A s.heap H locs → lv_has ls 9 [] → W p l e rm_Ref_turned s m args below meth c H locs 0 0 Q (F0 m 84 ls [.long y_8, .long y_9, .long y_10]) := by
    intro y_8 y_9 y_10 H locs ls hf hP hD hS hl
    have hf := mb_j3 eJ84_11 hf
    obtain ⟨h_13, hf⟩ := mb_dvl_s hf
    refine lv_lrem hx hb dX12_turned_84 h_13 ?_
    refine lv_lsub hx hb dX12_turned_85 ?_
    have hz := Option.some.inj hf
    subst hz
    exact hret _ _ _ _ dX12_turned_86 hP hD hS
  refine lv_if_ne (tgt := 59) hx hb dX12_turned_50 (by decide) (fun c_16 => ?_) (fun c_16 => ?_)
  · have hf := mb_if_f c_16 hf
    refine lv_iload hx hb dX12_turned_59 (lv_at hl 0 rfl) ?_
    refine lv_iconst (v := 1) hx hb dX12_turned_61 (by decide) ?_
    refine lv_icmp_ne (tgt := 71) hx hb dX12_turned_62 (by decide) (fun c_15 => ?_) (fun c_15 => ?_)
    · have hf := mb_if_f c_15 hf
      refine lv_iload hx hb dX12_turned_71 (lv_at hl 0 rfl) ?_
      refine lv_iconst (v := 2) hx hb dX12_turned_73 (by decide) ?_
      refine lv_icmp_ne (tgt := 83) hx hb dX12_turned_74 (by decide) (fun c_14 => ?_) (fun c_14 => ?_)
      · have hf := mb_if_f c_14 hf
        refine lv_lconst (v := 1) hx hb dX12_turned_83 (by decide) ?_
        exact j84_12 (1 : Int64) x6_5 x6_5 _ _ _ hf hP hD hS (lv_sub hl [] rfl)
      · have hf := mb_if_t c_14 hf
        refine lv_ldc2 (v := (10)) hx hb hown lc_111 dX12_turned_77 ?_
        refine lv_goto (tgt := 84) hx hb dX12_turned_80 (by decide) ?_
        exact j84_12 (10 : Int64) x6_5 x6_5 _ _ _ hf hP hD hS (lv_sub hl [] rfl)
    · have hf := mb_if_t c_15 hf
      refine lv_ldc2 (v := (100)) hx hb hown lc_99 dX12_turned_65 ?_
      refine lv_goto (tgt := 84) hx hb dX12_turned_68 (by decide) ?_
      exact j84_12 (100 : Int64) x6_5 x6_5 _ _ _ hf hP hD hS (lv_sub hl [] rfl)
  · have hf := mb_if_t c_16 hf
    refine lv_ldc2 (v := (1000)) hx hb hown lc_109 dX12_turned_53 ?_
    refine lv_goto (tgt := 84) hx hb dX12_turned_56 (by decide) ?_
    exact j84_12 (1000 : Int64) x6_5 x6_5 _ _ _ hf hP hD hS (lv_sub hl [] rfl)
def f_Ref_areAsked (P0 : PI) (x1 : Int32) (x2 : Int32) (x3 : Int32) : Option (Int32) := mb_bd1 (f_Ref_isUnit P0 x1) (fun (r_1 : Int32) => (if r_1 = 0 then some (0 : Int32) else mb_bd1 (f_Ref_isUnit P0 x2) (fun (r_2 : Int32) => (if r_2 = 0 then some (0 : Int32) else mb_bd1 (f_Ref_in ((x3).toInt64) (0 : Int64) (1000000000 : Int64)) (fun (r_3 : Int32) => (if r_3 = 0 then some (0 : Int32) else some (1 : Int32)))))))
def rm_Ref_areAsked : Room := { frames := 2, cells := 0, slots := 0, locals := 46 }
set_option maxHeartbeats 4000000 in
set_option maxRecDepth 100000 in
theorem c_Ref_areAsked (l : Launch) (D : va_G) (k : Nat → ClassId) (sz : Nat) (b0 : Nat → Nat) (P0 : PI) (L0 : PL) (x1 : Int32) (x2 : Int32) (x3 : Int32) (z : Int32) (hf : f_Ref_areAsked P0 x1 x2 x3 = some z) : Met l yX12_areAsked wsX12_areAsked rm_Ref_areAsked (va_Pc [.ref (b0 0), .int x1, .int x2, .int x3] (gw_pre D vwCl (tyL k) (wC_Ref k b0 P0 L0) sz)) (va_Qi (fun (r : Int32) (_ : Unit) => r = z) (gw_b D vwCl (tyL k) (va_A (wC_Ref k b0 P0 L0) sz) (wC_Ref k b0 P0 L0)) (va_A (wC_Ref k b0 P0 L0) sz)) 0 0 (va_A (wC_Ref k b0 P0 L0) sz) := by
  refine gm_z (cc := cX12_areAsked) (maxL := 4) (by decide) rfl (Nat.le_of_ble_eq_true rfl) ?_
  intro p e s m args below meth c A Q ls H locs hx hb hml hown hts hK hN hA hP hD hS hl hret
  have hown : s.vm.findClass RX12 = some m.cls := hown
  have hl : lv_has ls 4 [(0, .ref (b0 0)), (1, .int x1), (2, .int x2), (3, .int x3)] := hl
  have lc_113 := hts (.constantLong RX12 113 (1000000000)) (by decide +kernel)
  unfold f_Ref_areAsked at hf
  refine lv_aload_n hx hb dX12_areAsked_0 rfl (lv_at hl 0 rfl) ?_
  refine lv_iload_n hx hb dX12_areAsked_1 rfl (lv_at hl 1 rfl) ?_
  obtain ⟨r_1, hz, hf⟩ := mb_bd1_s hf
  refine gc_i (r0 := r_1) (ws' := (wC_Ref k b0 P0 L0)) (wr := ([] : va_W)) (va_runV (As := [.int x1]) (rest := []) ⟨hx, hb, hml, hown, hts⟩ (c_Ref_isUnit l D k H.size b0 P0 L0 x1 r_1 hz) (cwV 1 hts gX12_areAsked_X12_isUnit rfl rfl rfl (by decide +kernel) ⟨Nat.le_of_ble_eq_true rfl, Nat.le_of_ble_eq_true rfl⟩) (gp_V (ci := 12) (q0 := 0) (q := (RX12, TX12, 42)) hP hD hK hN [0, 1, 2, 3, 4, 5, 6, 7, 8, 9, 10, 11, 12, 13, 14, 15, 16, 17, 18, 19, 20, 21, 22, 23, 24, 25] (by decide +kernel) rfl rfl rfl) rfl rfl hl.1 rfl (lv_room (Nat.le_of_ble_eq_true rfl)) dX12_areAsked_2 ⟨Nat.zero_le _, Nat.zero_le _⟩) hP hD hS hA [0, 1, 2, 3, 4, 5, 6, 7, 8, 9, 10, 11, 12, 13, 14, 15, 16, 17, 18, 19, 20, 21, 22, 23, 24, 25] [] rfl rfl (by decide +kernel) (by decide +kernel) [0, 1, 2, 3, 4, 5, 6, 7, 8, 9, 10, 11, 12, 13, 14, 15, 16, 17, 18, 19, 20, 21, 22, 23, 24, 25] (by decide +kernel) rfl (fun H locs hP hD hS => ?_)
  clear hz
  refine lv_if_eq (tgt := 32) hx hb dX12_areAsked_5 (by decide) (fun c_6 => ?_) (fun c_6 => ?_)
  · have hf := mb_if_t c_6 hf
    refine lv_iconst (v := 0) hx hb dX12_areAsked_32 (by decide) ?_
    have hz := Option.some.inj hf
    subst hz
    exact hret _ _ _ _ mb_n0 dX12_areAsked_33 hP hD hS
  · have hf := mb_if_f c_6 hf
    refine lv_aload_n hx hb dX12_areAsked_8 rfl (lv_at hl 0 rfl) ?_
    refine lv_iload_n hx hb dX12_areAsked_9 rfl (lv_at hl 2 rfl) ?_
    obtain ⟨r_2, hz, hf⟩ := mb_bd1_s hf
    refine gc_i (r0 := r_2) (ws' := (wC_Ref k b0 P0 L0)) (wr := ([] : va_W)) (va_runV (As := [.int x2]) (rest := []) ⟨hx, hb, hml, hown, hts⟩ (c_Ref_isUnit l D k H.size b0 P0 L0 x2 r_2 hz) (cwV 1 hts gX12_areAsked_X12_isUnit rfl rfl rfl (by decide +kernel) ⟨Nat.le_of_ble_eq_true rfl, Nat.le_of_ble_eq_true rfl⟩) (gp_V (ci := 12) (q0 := 0) (q := (RX12, TX12, 42)) hP hD hK hN [0, 1, 2, 3, 4, 5, 6, 7, 8, 9, 10, 11, 12, 13, 14, 15, 16, 17, 18, 19, 20, 21, 22, 23, 24, 25] (by decide +kernel) rfl rfl rfl) rfl rfl hl.1 rfl (lv_room (Nat.le_of_ble_eq_true rfl)) dX12_areAsked_10 ⟨Nat.zero_le _, Nat.zero_le _⟩) hP hD hS hA [0, 1, 2, 3, 4, 5, 6, 7, 8, 9, 10, 11, 12, 13, 14, 15, 16, 17, 18, 19, 20, 21, 22, 23, 24, 25] [] rfl rfl (by decide +kernel) (by decide +kernel) [0, 1, 2, 3, 4, 5, 6, 7, 8, 9, 10, 11, 12, 13, 14, 15, 16, 17, 18, 19, 20, 21, 22, 23, 24, 25] (by decide +kernel) rfl (fun H locs hP hD hS => ?_)
    clear hz
    refine lv_if_eq (tgt := 32) hx hb dX12_areAsked_13 (by decide) (fun c_5 => ?_) (fun c_5 => ?_)
    · have hf := mb_if_t c_5 hf
      refine lv_iconst (v := 0) hx hb dX12_areAsked_32 (by decide) ?_
      have hz := Option.some.inj hf
      subst hz
      exact hret _ _ _ _ mb_n0 dX12_areAsked_33 hP hD hS
    · have hf := mb_if_f c_5 hf
      refine lv_iload_n hx hb dX12_areAsked_16 rfl (lv_at hl 3 rfl) ?_
      refine lv_i2l hx hb dX12_areAsked_17 rfl ?_
      refine lv_lconst (v := 0) hx hb dX12_areAsked_18 (by decide) ?_
      refine lv_ldc2 (v := (1000000000)) hx hb hown lc_113 dX12_areAsked_19 ?_
      obtain ⟨r_3, hz, hf⟩ := mb_bd1_s hf
      refine gc_i (r0 := r_3) (ws' := (wC_Ref k b0 P0 L0)) (wr := (wC_Ref k b0 P0 L0)) (va_runS (As := [.long (x3).toInt64, .long (0 : Int64), .long (1000000000 : Int64)]) (rest := []) ⟨hx, hb, hml, hown, hts⟩ (c_Ref_in l D k H.size ((x3).toInt64) (0 : Int64) (1000000000 : Int64) r_3 hz) (cwS 3 hts gX12_areAsked_X12_in rfl rfl rfl (by decide +kernel) ⟨Nat.le_of_ble_eq_true rfl, Nat.le_of_ble_eq_true rfl⟩) (gp_S hP hD hK hN [] (by decide +kernel) rfl) rfl rfl hl.1 rfl (lv_room (Nat.le_of_ble_eq_true rfl)) dX12_areAsked_22 ⟨Nat.zero_le _, Nat.zero_le _⟩) hP hD hS hA [] [0, 1, 2, 3, 4, 5, 6, 7, 8, 9, 10, 11, 12, 13, 14, 15, 16, 17, 18, 19, 20, 21, 22, 23, 24, 25] rfl rfl (by decide +kernel) (by decide +kernel) [0, 1, 2, 3, 4, 5, 6, 7, 8, 9, 10, 11, 12, 13, 14, 15, 16, 17, 18, 19, 20, 21, 22, 23, 24, 25] (by decide +kernel) rfl (fun H locs hP hD hS => ?_)
      clear hz
      refine lv_if_eq (tgt := 32) hx hb dX12_areAsked_25 (by decide) (fun c_4 => ?_) (fun c_4 => ?_)
      · have hf := mb_if_t c_4 hf
        refine lv_iconst (v := 0) hx hb dX12_areAsked_32 (by decide) ?_
        have hz := Option.some.inj hf
        subst hz
        exact hret _ _ _ _ mb_n0 dX12_areAsked_33 hP hD hS
      · have hf := mb_if_f c_4 hf
        refine lv_iconst (v := 1) hx hb dX12_areAsked_28 (by decide) ?_
        refine lv_goto (tgt := 33) hx hb dX12_areAsked_29 (by decide) ?_
        have hz := Option.some.inj hf
        subst hz
        exact hret _ _ _ _ mb_n1 dX12_areAsked_33 hP hD hS
def f_Ref_turn (P0 : PI) (x1 : Int32) (x2 : Int32) (x3 : Int32) : Option (Int64) := mb_bd1 (f_Ref_areAsked P0 x1 x2 x3) (fun (r_1 : Int32) => (if r_1 = 0 then some (-1 : Int64) else mb_bd1 (f_Ref_hasTable P0 x1 x2) (fun (r_2 : Int32) => (if r_2 = 0 then some (-2 : Int64) else mb_bd1 (f_Ref_turned P0 x1 x2 ((x3).toInt64)) (fun (r_3 : Int64) => some r_3)))))
def rm_Ref_turn : Room := { frames := 3, cells := 0, slots := 0, locals := 69 }
set_option maxHeartbeats 4000000 in
set_option maxRecDepth 100000 in
theorem c_Ref_turn (l : Launch) (D : va_G) (k : Nat → ClassId) (sz : Nat) (b0 : Nat → Nat) (P0 : PI) (L0 : PL) (x1 : Int32) (x2 : Int32) (x3 : Int32) (z : Int64) (hf : f_Ref_turn P0 x1 x2 x3 = some z) : Met l yX12_turn wsX12_turn rm_Ref_turn (va_Pc [.ref (b0 0), .int x1, .int x2, .int x3] (gw_pre D vwCl (tyL k) (wC_Ref k b0 P0 L0) sz)) (va_Ql (fun (r : Int64) (_ : Unit) => r = z) (gw_b D vwCl (tyL k) (va_A (wC_Ref k b0 P0 L0) sz) (wC_Ref k b0 P0 L0)) (va_A (wC_Ref k b0 P0 L0) sz)) 0 0 (va_A (wC_Ref k b0 P0 L0) sz) := by
  refine gm_l (cc := cX12_turn) (maxL := 4) (by decide) rfl (Nat.le_of_ble_eq_true rfl) ?_
  intro p e s m args below meth c A Q ls H locs hx hb hml hown hts hK hN hA hP hD hS hl hret
  have hown : s.vm.findClass RX12 = some m.cls := hown
  have hl : lv_has ls 4 [(0, .ref (b0 0)), (1, .int x1), (2, .int x2), (3, .int x3)] := hl
  have lc_119 := hts (.constantLong RX12 119 (-1)) (by decide +kernel)
  have lc_129 := hts (.constantLong RX12 129 (-2)) (by decide +kernel)
  unfold f_Ref_turn at hf
  refine lv_aload_n hx hb dX12_turn_0 rfl (lv_at hl 0 rfl) ?_
  refine lv_iload_n hx hb dX12_turn_1 rfl (lv_at hl 1 rfl) ?_
  refine lv_iload_n hx hb dX12_turn_2 rfl (lv_at hl 2 rfl) ?_
  refine lv_iload_n hx hb dX12_turn_3 rfl (lv_at hl 3 rfl) ?_
  obtain ⟨r_1, hz, hf⟩ := mb_bd1_s hf
  refine gc_i (r0 := r_1) (ws' := (wC_Ref k b0 P0 L0)) (wr := ([] : va_W)) (va_runV (As := [.int x1, .int x2, .int x3]) (rest := []) ⟨hx, hb, hml, hown, hts⟩ (c_Ref_areAsked l D k H.size b0 P0 L0 x1 x2 x3 r_1 hz) (cwV 3 hts gX12_turn_X12_areAsked rfl rfl rfl (by decide +kernel) ⟨Nat.le_of_ble_eq_true rfl, Nat.le_of_ble_eq_true rfl⟩) (gp_V (ci := 12) (q0 := 0) (q := (RX12, TX12, 42)) hP hD hK hN [0, 1, 2, 3, 4, 5, 6, 7, 8, 9, 10, 11, 12, 13, 14, 15, 16, 17, 18, 19, 20, 21, 22, 23, 24, 25] (by decide +kernel) rfl rfl rfl) rfl rfl hl.1 rfl (lv_room (Nat.le_of_ble_eq_true rfl)) dX12_turn_4 ⟨Nat.zero_le _, Nat.zero_le _⟩) hP hD hS hA [0, 1, 2, 3, 4, 5, 6, 7, 8, 9, 10, 11, 12, 13, 14, 15, 16, 17, 18, 19, 20, 21, 22, 23, 24, 25] [] rfl rfl (by decide +kernel) (by decide +kernel) [0, 1, 2, 3, 4, 5, 6, 7, 8, 9, 10, 11, 12, 13, 14, 15, 16, 17, 18, 19, 20, 21, 22, 23, 24, 25] (by decide +kernel) rfl (fun H locs hP hD hS => ?_)
  clear hz
  refine lv_if_ne (tgt := 14) hx hb dX12_turn_7 (by decide) (fun c_5 => ?_) (fun c_5 => ?_)
  · have hf := mb_if_f c_5 hf
    refine lv_aload_n hx hb dX12_turn_14 rfl (lv_at hl 0 rfl) ?_
    refine lv_iload_n hx hb dX12_turn_15 rfl (lv_at hl 1 rfl) ?_
    refine lv_iload_n hx hb dX12_turn_16 rfl (lv_at hl 2 rfl) ?_
    obtain ⟨r_2, hz, hf⟩ := mb_bd1_s hf
    refine gc_i (r0 := r_2) (ws' := (wC_Ref k b0 P0 L0)) (wr := ([] : va_W)) (va_runV (As := [.int x1, .int x2]) (rest := []) ⟨hx, hb, hml, hown, hts⟩ (c_Ref_hasTable l D k H.size b0 P0 L0 x1 x2 r_2 hz) (cwV 2 hts gX12_turn_X12_hasTable rfl rfl rfl (by decide +kernel) ⟨Nat.le_of_ble_eq_true rfl, Nat.le_of_ble_eq_true rfl⟩) (gp_V (ci := 12) (q0 := 0) (q := (RX12, TX12, 42)) hP hD hK hN [0, 1, 2, 3, 4, 5, 6, 7, 8, 9, 10, 11, 12, 13, 14, 15, 16, 17, 18, 19, 20, 21, 22, 23, 24, 25] (by decide +kernel) rfl rfl rfl) rfl rfl hl.1 rfl (lv_room (Nat.le_of_ble_eq_true rfl)) dX12_turn_17 ⟨Nat.zero_le _, Nat.zero_le _⟩) hP hD hS hA [0, 1, 2, 3, 4, 5, 6, 7, 8, 9, 10, 11, 12, 13, 14, 15, 16, 17, 18, 19, 20, 21, 22, 23, 24, 25] [] rfl rfl (by decide +kernel) (by decide +kernel) [0, 1, 2, 3, 4, 5, 6, 7, 8, 9, 10, 11, 12, 13, 14, 15, 16, 17, 18, 19, 20, 21, 22, 23, 24, 25] (by decide +kernel) rfl (fun H locs hP hD hS => ?_)
    clear hz
    refine lv_if_eq (tgt := 34) hx hb dX12_turn_20 (by decide) (fun c_4 => ?_) (fun c_4 => ?_)
    · have hf := mb_if_t c_4 hf
      refine lv_ldc2 (v := (-2)) hx hb hown lc_129 dX12_turn_34 ?_
      have hz := Option.some.inj hf
      subst hz
      exact hret _ _ _ _ dX12_turn_37 hP hD hS
    · have hf := mb_if_f c_4 hf
      refine lv_aload_n hx hb dX12_turn_23 rfl (lv_at hl 0 rfl) ?_
      refine lv_iload_n hx hb dX12_turn_24 rfl (lv_at hl 1 rfl) ?_
      refine lv_iload_n hx hb dX12_turn_25 rfl (lv_at hl 2 rfl) ?_
      refine lv_iload_n hx hb dX12_turn_26 rfl (lv_at hl 3 rfl) ?_
      refine lv_i2l hx hb dX12_turn_27 rfl ?_
      obtain ⟨r_3, hz, hf⟩ := mb_bd1_s hf
      refine gc_l (r0 := r_3) (ws' := (wC_Ref k b0 P0 L0)) (wr := ([] : va_W)) (va_runV (As := [.int x1, .int x2, .long (x3).toInt64]) (rest := []) ⟨hx, hb, hml, hown, hts⟩ (c_Ref_turned l D k H.size b0 P0 L0 x1 x2 ((x3).toInt64) r_3 hz) (cwV 3 hts gX12_turn_X12_turned rfl rfl rfl (by decide +kernel) ⟨Nat.le_of_ble_eq_true rfl, Nat.le_of_ble_eq_true rfl⟩) (gp_V (ci := 12) (q0 := 0) (q := (RX12, TX12, 42)) hP hD hK hN [0, 1, 2, 3, 4, 5, 6, 7, 8, 9, 10, 11, 12, 13, 14, 15, 16, 17, 18, 19, 20, 21, 22, 23, 24, 25] (by decide +kernel) rfl rfl rfl) rfl rfl hl.1 rfl (lv_room (Nat.le_of_ble_eq_true rfl)) dX12_turn_28 ⟨Nat.zero_le _, Nat.zero_le _⟩) hP hD hS hA [0, 1, 2, 3, 4, 5, 6, 7, 8, 9, 10, 11, 12, 13, 14, 15, 16, 17, 18, 19, 20, 21, 22, 23, 24, 25] [] rfl rfl (by decide +kernel) (by decide +kernel) [0, 1, 2, 3, 4, 5, 6, 7, 8, 9, 10, 11, 12, 13, 14, 15, 16, 17, 18, 19, 20, 21, 22, 23, 24, 25] (by decide +kernel) rfl (fun H locs hP hD hS => ?_)
      clear hz
      refine lv_goto (tgt := 37) hx hb dX12_turn_31 (by decide) ?_
      have hz := Option.some.inj hf
      subst hz
      exact hret _ _ _ _ dX12_turn_37 hP hD hS
  · have hf := mb_if_t c_5 hf
    refine lv_ldc2 (v := (-1)) hx hb hown lc_119 dX12_turn_10 ?_
    have hz := Option.some.inj hf
    subst hz
    exact hret _ _ _ _ dX12_turn_13 hP hD hS
def f_Ref_lost (P0 : PI) (x1 : Int32) (x2 : Int32) (x3 : Int32) : Option (Int64) := mb_bd1 (f_Ref_areAsked P0 x1 x2 x3) (fun (r_1 : Int32) => (if r_1 = 0 then some (-1000000000000 : Int64) else mb_bd1 (f_Ref_hasTable P0 x1 x2) (fun (r_2 : Int32) => (if r_2 = 0 then some (-1000000000002 : Int64) else mb_bd1 (f_Ref_hasTable P0 x2 x1) (fun (r_3 : Int32) => (if r_3 = 0 then some (-1000000000002 : Int64) else mb_bd1 (f_Ref_turned P0 x1 x2 ((x3).toInt64)) (fun (r_4 : Int64) => mb_bd1 (f_Ref_turned P0 x2 x1 r_4) (fun (r_5 : Int64) => some ((x3).toInt64 - r_5)))))))))
def rm_Ref_lost : Room := { frames := 3, cells := 0, slots := 0, locals := 69 }
set_option maxHeartbeats 4000000 in
set_option maxRecDepth 100000 in
theorem c_Ref_lost (l : Launch) (D : va_G) (k : Nat → ClassId) (sz : Nat) (b0 : Nat → Nat) (P0 : PI) (L0 : PL) (x1 : Int32) (x2 : Int32) (x3 : Int32) (z : Int64) (hf : f_Ref_lost P0 x1 x2 x3 = some z) : Met l yX12_lost wsX12_lost rm_Ref_lost (va_Pc [.ref (b0 0), .int x1, .int x2, .int x3] (gw_pre D vwCl (tyL k) (wC_Ref k b0 P0 L0) sz)) (va_Ql (fun (r : Int64) (_ : Unit) => r = z) (gw_b D vwCl (tyL k) (va_A (wC_Ref k b0 P0 L0) sz) (wC_Ref k b0 P0 L0)) (va_A (wC_Ref k b0 P0 L0) sz)) 0 0 (va_A (wC_Ref k b0 P0 L0) sz) := by
  refine gm_l (cc := cX12_lost) (maxL := 4) (by decide) rfl (Nat.le_of_ble_eq_true rfl) ?_
  intro p e s m args below meth c A Q ls H locs hx hb hml hown hts hK hN hA hP hD hS hl hret
  have hown : s.vm.findClass RX12 = some m.cls := hown
  have hl : lv_has ls 4 [(0, .ref (b0 0)), (1, .int x1), (2, .int x2), (3, .int x3)] := hl
  have lc_131 := hts (.constantLong RX12 131 (-1000000000000)) (by decide +kernel)
  have lc_133 := hts (.constantLong RX12 133 (-1000000000002)) (by decide +kernel)
  unfold f_Ref_lost at hf
  refine lv_aload_n hx hb dX12_lost_0 rfl (lv_at hl 0 rfl) ?_
  refine lv_iload_n hx hb dX12_lost_1 rfl (lv_at hl 1 rfl) ?_
  refine lv_iload_n hx hb dX12_lost_2 rfl (lv_at hl 2 rfl) ?_
  refine lv_iload_n hx hb dX12_lost_3 rfl (lv_at hl 3 rfl) ?_
  obtain ⟨r_1, hz, hf⟩ := mb_bd1_s hf
  refine gc_i (r0 := r_1) (ws' := (wC_Ref k b0 P0 L0)) (wr := ([] : va_W)) (va_runV (As := [.int x1, .int x2, .int x3]) (rest := []) ⟨hx, hb, hml, hown, hts⟩ (c_Ref_areAsked l D k H.size b0 P0 L0 x1 x2 x3 r_1 hz) (cwV 3 hts gX12_lost_X12_areAsked rfl rfl rfl (by decide +kernel) ⟨Nat.le_of_ble_eq_true rfl, Nat.le_of_ble_eq_true rfl⟩) (gp_V (ci := 12) (q0 := 0) (q := (RX12, TX12, 42)) hP hD hK hN [0, 1, 2, 3, 4, 5, 6, 7, 8, 9, 10, 11, 12, 13, 14, 15, 16, 17, 18, 19, 20, 21, 22, 23, 24, 25] (by decide +kernel) rfl rfl rfl) rfl rfl hl.1 rfl (lv_room (Nat.le_of_ble_eq_true rfl)) dX12_lost_4 ⟨Nat.zero_le _, Nat.zero_le _⟩) hP hD hS hA [0, 1, 2, 3, 4, 5, 6, 7, 8, 9, 10, 11, 12, 13, 14, 15, 16, 17, 18, 19, 20, 21, 22, 23, 24, 25] [] rfl rfl (by decide +kernel) (by decide +kernel) [0, 1, 2, 3, 4, 5, 6, 7, 8, 9, 10, 11, 12, 13, 14, 15, 16, 17, 18, 19, 20, 21, 22, 23, 24, 25] (by decide +kernel) rfl (fun H locs hP hD hS => ?_)
  clear hz
  refine lv_if_ne (tgt := 14) hx hb dX12_lost_7 (by decide) (fun c_8 => ?_) (fun c_8 => ?_)
  · have hf := mb_if_f c_8 hf
    refine lv_aload_n hx hb dX12_lost_14 rfl (lv_at hl 0 rfl) ?_
    refine lv_iload_n hx hb dX12_lost_15 rfl (lv_at hl 1 rfl) ?_
    refine lv_iload_n hx hb dX12_lost_16 rfl (lv_at hl 2 rfl) ?_
    obtain ⟨r_2, hz, hf⟩ := mb_bd1_s hf
    refine gc_i (r0 := r_2) (ws' := (wC_Ref k b0 P0 L0)) (wr := ([] : va_W)) (va_runV (As := [.int x1, .int x2]) (rest := []) ⟨hx, hb, hml, hown, hts⟩ (c_Ref_hasTable l D k H.size b0 P0 L0 x1 x2 r_2 hz) (cwV 2 hts gX12_lost_X12_hasTable rfl rfl rfl (by decide +kernel) ⟨Nat.le_of_ble_eq_true rfl, Nat.le_of_ble_eq_true rfl⟩) (gp_V (ci := 12) (q0 := 0) (q := (RX12, TX12, 42)) hP hD hK hN [0, 1, 2, 3, 4, 5, 6, 7, 8, 9, 10, 11, 12, 13, 14, 15, 16, 17, 18, 19, 20, 21, 22, 23, 24, 25] (by decide +kernel) rfl rfl rfl) rfl rfl hl.1 rfl (lv_room (Nat.le_of_ble_eq_true rfl)) dX12_lost_17 ⟨Nat.zero_le _, Nat.zero_le _⟩) hP hD hS hA [0, 1, 2, 3, 4, 5, 6, 7, 8, 9, 10, 11, 12, 13, 14, 15, 16, 17, 18, 19, 20, 21, 22, 23, 24, 25] [] rfl rfl (by decide +kernel) (by decide +kernel) [0, 1, 2, 3, 4, 5, 6, 7, 8, 9, 10, 11, 12, 13, 14, 15, 16, 17, 18, 19, 20, 21, 22, 23, 24, 25] (by decide +kernel) rfl (fun H locs hP hD hS => ?_)
    clear hz
    refine lv_if_eq (tgt := 32) hx hb dX12_lost_20 (by decide) (fun c_7 => ?_) (fun c_7 => ?_)
    · have hf := mb_if_t c_7 hf
      refine lv_ldc2 (v := (-1000000000002)) hx hb hown lc_133 dX12_lost_32 ?_
      have hz := Option.some.inj hf
      subst hz
      exact hret _ _ _ _ dX12_lost_35 hP hD hS
    · have hf := mb_if_f c_7 hf
      refine lv_aload_n hx hb dX12_lost_23 rfl (lv_at hl 0 rfl) ?_
      refine lv_iload_n hx hb dX12_lost_24 rfl (lv_at hl 2 rfl) ?_
      refine lv_iload_n hx hb dX12_lost_25 rfl (lv_at hl 1 rfl) ?_
      obtain ⟨r_3, hz, hf⟩ := mb_bd1_s hf
      refine gc_i (r0 := r_3) (ws' := (wC_Ref k b0 P0 L0)) (wr := ([] : va_W)) (va_runV (As := [.int x2, .int x1]) (rest := []) ⟨hx, hb, hml, hown, hts⟩ (c_Ref_hasTable l D k H.size b0 P0 L0 x2 x1 r_3 hz) (cwV 2 hts gX12_lost_X12_hasTable rfl rfl rfl (by decide +kernel) ⟨Nat.le_of_ble_eq_true rfl, Nat.le_of_ble_eq_true rfl⟩) (gp_V (ci := 12) (q0 := 0) (q := (RX12, TX12, 42)) hP hD hK hN [0, 1, 2, 3, 4, 5, 6, 7, 8, 9, 10, 11, 12, 13, 14, 15, 16, 17, 18, 19, 20, 21, 22, 23, 24, 25] (by decide +kernel) rfl rfl rfl) rfl rfl hl.1 rfl (lv_room (Nat.le_of_ble_eq_true rfl)) dX12_lost_26 ⟨Nat.zero_le _, Nat.zero_le _⟩) hP hD hS hA [0, 1, 2, 3, 4, 5, 6, 7, 8, 9, 10, 11, 12, 13, 14, 15, 16, 17, 18, 19, 20, 21, 22, 23, 24, 25] [] rfl rfl (by decide +kernel) (by decide +kernel) [0, 1, 2, 3, 4, 5, 6, 7, 8, 9, 10, 11, 12, 13, 14, 15, 16, 17, 18, 19, 20, 21, 22, 23, 24, 25] (by decide +kernel) rfl (fun H locs hP hD hS => ?_)
      clear hz
      refine lv_if_ne (tgt := 36) hx hb dX12_lost_29 (by decide) (fun c_6 => ?_) (fun c_6 => ?_)
      · have hf := mb_if_f c_6 hf
        refine lv_iload_n hx hb dX12_lost_36 rfl (lv_at hl 3 rfl) ?_
        refine lv_i2l hx hb dX12_lost_37 rfl ?_
        refine lv_aload_n hx hb dX12_lost_38 rfl (lv_at hl 0 rfl) ?_
        refine lv_iload_n hx hb dX12_lost_39 rfl (lv_at hl 2 rfl) ?_
        refine lv_iload_n hx hb dX12_lost_40 rfl (lv_at hl 1 rfl) ?_
        refine lv_aload_n hx hb dX12_lost_41 rfl (lv_at hl 0 rfl) ?_
        refine lv_iload_n hx hb dX12_lost_42 rfl (lv_at hl 1 rfl) ?_
        refine lv_iload_n hx hb dX12_lost_43 rfl (lv_at hl 2 rfl) ?_
        refine lv_iload_n hx hb dX12_lost_44 rfl (lv_at hl 3 rfl) ?_
        refine lv_i2l hx hb dX12_lost_45 rfl ?_
        obtain ⟨r_4, hz, hf⟩ := mb_bd1_s hf
        refine gc_l (r0 := r_4) (ws' := (wC_Ref k b0 P0 L0)) (wr := ([] : va_W)) (va_runV (As := [.int x1, .int x2, .long (x3).toInt64]) (rest := [.int x1, .int x2, .ref (b0 0), .long (x3).toInt64]) ⟨hx, hb, hml, hown, hts⟩ (c_Ref_turned l D k H.size b0 P0 L0 x1 x2 ((x3).toInt64) r_4 hz) (cwV 3 hts gX12_lost_X12_turned rfl rfl rfl (by decide +kernel) ⟨Nat.le_of_ble_eq_true rfl, Nat.le_of_ble_eq_true rfl⟩) (gp_V (ci := 12) (q0 := 0) (q := (RX12, TX12, 42)) hP hD hK hN [0, 1, 2, 3, 4, 5, 6, 7, 8, 9, 10, 11, 12, 13, 14, 15, 16, 17, 18, 19, 20, 21, 22, 23, 24, 25] (by decide +kernel) rfl rfl rfl) rfl rfl hl.1 rfl (lv_room (Nat.le_of_ble_eq_true rfl)) dX12_lost_46 ⟨Nat.zero_le _, Nat.zero_le _⟩) hP hD hS hA [0, 1, 2, 3, 4, 5, 6, 7, 8, 9, 10, 11, 12, 13, 14, 15, 16, 17, 18, 19, 20, 21, 22, 23, 24, 25] [] rfl rfl (by decide +kernel) (by decide +kernel) [0, 1, 2, 3, 4, 5, 6, 7, 8, 9, 10, 11, 12, 13, 14, 15, 16, 17, 18, 19, 20, 21, 22, 23, 24, 25] (by decide +kernel) rfl (fun H locs hP hD hS => ?_)
        clear hz
        obtain ⟨r_5, hz, hf⟩ := mb_bd1_s hf
        refine gc_l (r0 := r_5) (ws' := (wC_Ref k b0 P0 L0)) (wr := ([] : va_W)) (va_runV (As := [.int x2, .int x1, .long r_4]) (rest := [.long (x3).toInt64]) ⟨hx, hb, hml, hown, hts⟩ (c_Ref_turned l D k H.size b0 P0 L0 x2 x1 r_4 r_5 hz) (cwV 3 hts gX12_lost_X12_turned rfl rfl rfl (by decide +kernel) ⟨Nat.le_of_ble_eq_true rfl, Nat.le_of_ble_eq_true rfl⟩) (gp_V (ci := 12) (q0 := 0) (q := (RX12, TX12, 42)) hP hD hK hN [0, 1, 2, 3, 4, 5, 6, 7, 8, 9, 10, 11, 12, 13, 14, 15, 16, 17, 18, 19, 20, 21, 22, 23, 24, 25] (by decide +kernel) rfl rfl rfl) rfl rfl hl.1 rfl (lv_room (Nat.le_of_ble_eq_true rfl)) dX12_lost_49 ⟨Nat.zero_le _, Nat.zero_le _⟩) hP hD hS hA [0, 1, 2, 3, 4, 5, 6, 7, 8, 9, 10, 11, 12, 13, 14, 15, 16, 17, 18, 19, 20, 21, 22, 23, 24, 25] [] rfl rfl (by decide +kernel) (by decide +kernel) [0, 1, 2, 3, 4, 5, 6, 7, 8, 9, 10, 11, 12, 13, 14, 15, 16, 17, 18, 19, 20, 21, 22, 23, 24, 25] (by decide +kernel) rfl (fun H locs hP hD hS => ?_)
        clear hz
        refine lv_lsub hx hb dX12_lost_52 ?_
        have hz := Option.some.inj hf
        subst hz
        exact hret _ _ _ _ dX12_lost_53 hP hD hS
      · have hf := mb_if_t c_6 hf
        refine lv_ldc2 (v := (-1000000000002)) hx hb hown lc_133 dX12_lost_32 ?_
        have hz := Option.some.inj hf
        subst hz
        exact hret _ _ _ _ dX12_lost_35 hP hD hS
  · have hf := mb_if_t c_8 hf
    refine lv_ldc2 (v := (-1000000000000)) hx hb hown lc_131 dX12_lost_10 ?_
    have hz := Option.some.inj hf
    subst hz
    exact hret _ _ _ _ dX12_lost_13 hP hD hS
def f_Ref_round_7_b (P0 : PI) (x1 : Int32) (self_7 : Int64 → Int32 → Option (Int64)) (x2_5 : Int64) (x4_6 : Int32) : Option (Int64) := (if x1 ≤ x4_6 then some x2_5 else mb_chk x4_6 4 (mb_let (P0 27 x4_6.toNatClampNeg) (fun (x5_9 : Int32) => mb_dvi x1 (mb_chk ((x4_6 + (1 : Int32)) - (x4_6 + (1 : Int32)) / x1 * x1) 4 (mb_let (P0 27 ((x4_6 + (1 : Int32)) - (x4_6 + (1 : Int32)) / x1 * x1).toNatClampNeg) (fun (x6_12 : Int32) => mb_bd1 (f_Ref_hasTable P0 x5_9 x6_12) (fun (r_13 : Int32) => (if r_13 = 0 then some (-4 : Int64) else mb_bd1 (f_Ref_turned P0 x5_9 x6_12 x2_5) (fun (r_14 : Int64) => mb_let r_14 (fun (x2_15 : Int64) => (if (lg_cmp x2_15 (1000000000000 : Int64)) ≤ 0 then mb_let (x4_6 + (1 : Int32)) (fun (x4_16 : Int32) => self_7 x2_15 x4_16) else some (-4 : Int64))))))))))))
def f_Ref_round_7 (P0 : PI) (x1 : Int32) : Nat → Int64 → Int32 → Option (Int64)
  | 0, _, _ => none
  | n + 1, x2_5, x4_6 => f_Ref_round_7_b P0 x1 (f_Ref_round_7 P0 x1 n) x2_5 x4_6
def f_Ref_round (P0 : PI) (x1 : Int32) : Option (Int64) := mb_let (1000000 : Int64) (fun (x2_1 : Int64) => mb_let (0 : Int32) (fun (x4_2 : Int32) => f_Ref_round_7 P0 x1 mb_fu x2_1 x4_2))
def rm_Ref_round : Room := { frames := 1, cells := 0, slots := 0, locals := 28 }
set_option maxHeartbeats 4000000 in
set_option maxRecDepth 100000 in
theorem c_Ref_round (l : Launch) (D : va_G) (k : Nat → ClassId) (sz : Nat) (b0 : Nat → Nat) (P0 : PI) (L0 : PL) (x1 : Int32) (z : Int64) (hf : f_Ref_round P0 x1 = some z) : Met l yX12_round wsX12_round rm_Ref_round (va_Pc [.ref (b0 0), .int x1] (gw_pre D vwCl (tyL k) (wC_Ref k b0 P0 L0) sz)) (va_Ql (fun (r : Int64) (_ : Unit) => r = z) (gw_b D vwCl (tyL k) (va_A (wC_Ref k b0 P0 L0) sz) (wC_Ref k b0 P0 L0)) (va_A (wC_Ref k b0 P0 L0) sz)) 0 0 (va_A (wC_Ref k b0 P0 L0) sz) := by
  refine gm_l (cc := cX12_round) (maxL := 7) (by decide) rfl (Nat.le_of_ble_eq_true rfl) ?_
  intro p e s m args below meth c A Q ls H locs hx hb hml hown hts hK hN hA hP hD hS hl hret
  have hown : s.vm.findClass RX12 = some m.cls := hown
  have hl : lv_has ls 7 [(0, .ref (b0 0)), (1, .int x1)] := hl
  have iw_Ref : ∀ w ∈ u_ws RX12 TX12 42, w ∈ wsX12_round := by decide +kernel
  have fl_72 := hts (.fieldLink RX12 72 "OneMeasureModel" "row" "[I") (by decide +kernel)
  have lc_97 := hts (.constantLong RX12 97 (1000000)) (by decide +kernel)
  have lc_135 := hts (.constantLong RX12 135 (-4)) (by decide +kernel)
  have lc_137 := hts (.constantLong RX12 137 (1000000000000)) (by decide +kernel)
  unfold f_Ref_round at hf
  refine lv_ldc2 (v := (1000000)) hx hb hown lc_97 dX12_round_0 ?_
  obtain ⟨x2_1, e_, hf⟩ := mb_let_s hf
  refine mb_topl e_ ?_
  clear e_
  refine lv_lstore_n (lv' := [(2, .long x2_1), (0, .ref (b0 0)), (1, .int x1)]) hx hb dX12_round_3 rfl hl (by decide) rfl (fun ls hl => ?_)
  refine lv_iconst (v := 0) hx hb dX12_round_4 (by decide) ?_
  obtain ⟨x4_2, e_, hf⟩ := mb_let_s hf
  refine mb_topi e_ ?_
  clear e_
  refine lv_istore (lv' := [(4, .int x4_2), (2, .long x2_1), (0, .ref (b0 0)), (1, .int x1)]) hx hb dX12_round_5 hl (by decide) rfl (fun ls hl => ?_)
  have lp7_3 : ∀ (n : Nat) (x2_5 : Int64) (x4_6 : Int32) (H : Heap) (locs : List Loc) (ls : Array Slot), f_Ref_round_7 P0 x1 n x2_5 x4_6 = some z → va_P D vwCl (wC_Ref k b0 P0 L0) H → va_D A (wC_Ref k b0 P0 L0) → va_S A s.heap H locs → lv_has ls 7 [(0, .ref (b0 0)), (1, .int x1), (2, .long x2_5), (4, .int x4_6)] → W p l e rm_Ref_round s m args below meth c H locs 0 0 Q (F0 m 7 ls []) := by
    intro n
    induction n with
    | zero =>
      intro x2_5 x4_6 H locs ls hf
      exact nomatch (show (none : Option (Int64)) = some z from hf)
    | succ n ih_4 =>
      intro x2_5 x4_6 H locs ls hf hP hD hS hl
      have hf : f_Ref_round_7_b P0 x1 (f_Ref_round_7 P0 x1 n) x2_5 x4_6 = some z := hf
      unfold f_Ref_round_7_b at hf
      refine lv_iload hx hb dX12_round_7 (lv_at hl 3 rfl) ?_
      refine lv_iload_n hx hb dX12_round_9 rfl (lv_at hl 1 rfl) ?_
      refine lv_icmp_ge (tgt := 78) hx hb dX12_round_10 (by decide) (fun c_19 => ?_) (fun c_19 => ?_)
      · have hf := mb_if_t c_19 hf
        refine lv_lload_n hx hb dX12_round_78 rfl (lv_at hl 2 rfl) ?_
        have hz := Option.some.inj hf
        subst hz
        exact hret _ _ _ _ dX12_round_79 hP hD hS
      · have hf := mb_if_f c_19 hf
        refine lv_aload_n hx hb dX12_round_13 rfl (lv_at hl 0 rfl) ?_
        refine va_get (D := D) (ci := 12) (v := .ref (b0 27)) (C := RX12) (T := TX12) (N := 42) hx hb hts iw_Ref hown hK hP 0 rfl rfl 26 (by decide) fl_72 (fun _ h9 => h9) rfl dX12_round_14 ?_
        refine lv_iload hx hb dX12_round_17 (lv_at hl 3 rfl) ?_
        obtain ⟨h_8, hf⟩ := mb_chk_s hf
        refine va_iald hx hb hK hP 20 0 rfl rfl h_8 dX12_round_19 ?_
        obtain ⟨x5_9, e_, hf⟩ := mb_let_s hf
        refine mb_topi e_ ?_
        clear e_
        refine lv_istore (lv' := [(5, .int x5_9), (0, .ref (b0 0)), (1, .int x1), (2, .long x2_5), (4, .int x4_6)]) hx hb dX12_round_20 hl (by decide) rfl (fun ls hl => ?_)
        refine lv_aload_n hx hb dX12_round_22 rfl (lv_at hl 1 rfl) ?_
        refine va_get (D := D) (ci := 12) (v := .ref (b0 27)) (C := RX12) (T := TX12) (N := 42) hx hb hts iw_Ref hown hK hP 0 rfl rfl 26 (by decide) fl_72 (fun _ h9 => h9) rfl dX12_round_23 ?_
        refine lv_iload hx hb dX12_round_26 (lv_at hl 4 rfl) ?_
        refine lv_iconst (v := 1) hx hb dX12_round_28 (by decide) ?_
        refine lv_iadd hx hb dX12_round_29 ?_
        refine lv_iload_n hx hb dX12_round_30 rfl (lv_at hl 2 rfl) ?_
        obtain ⟨h_10, hf⟩ := mb_dvi_s hf
        refine lv_irem hx hb dX12_round_31 h_10 ?_
        obtain ⟨h_11, hf⟩ := mb_chk_s hf
        refine va_iald hx hb hK hP 20 0 rfl rfl h_11 dX12_round_32 ?_
        obtain ⟨x6_12, e_, hf⟩ := mb_let_s hf
        refine mb_topi e_ ?_
        clear e_
        refine lv_istore (lv' := [(6, .int x6_12), (5, .int x5_9), (0, .ref (b0 0)), (1, .int x1), (2, .long x2_5), (4, .int x4_6)]) hx hb dX12_round_33 hl (by decide) rfl (fun ls hl => ?_)
        refine lv_aload_n hx hb dX12_round_35 rfl (lv_at hl 2 rfl) ?_
        refine lv_iload hx hb dX12_round_36 (lv_at hl 1 rfl) ?_
        refine lv_iload hx hb dX12_round_38 (lv_at hl 0 rfl) ?_
        obtain ⟨r_13, hz, hf⟩ := mb_bd1_s hf
        refine gc_i (r0 := r_13) (ws' := (wC_Ref k b0 P0 L0)) (wr := ([] : va_W)) (va_runV (As := [.int x5_9, .int x6_12]) (rest := []) ⟨hx, hb, hml, hown, hts⟩ (c_Ref_hasTable l D k H.size b0 P0 L0 x5_9 x6_12 r_13 hz) (cwV 2 hts gX12_round_X12_hasTable rfl rfl rfl (by decide +kernel) ⟨Nat.le_of_ble_eq_true rfl, Nat.le_of_ble_eq_true rfl⟩) (gp_V (ci := 12) (q0 := 0) (q := (RX12, TX12, 42)) hP hD hK hN [0, 1, 2, 3, 4, 5, 6, 7, 8, 9, 10, 11, 12, 13, 14, 15, 16, 17, 18, 19, 20, 21, 22, 23, 24, 25] (by decide +kernel) rfl rfl rfl) rfl rfl hl.1 rfl (lv_room (Nat.le_of_ble_eq_true rfl)) dX12_round_40 ⟨Nat.zero_le _, Nat.zero_le _⟩) hP hD hS hA [0, 1, 2, 3, 4, 5, 6, 7, 8, 9, 10, 11, 12, 13, 14, 15, 16, 17, 18, 19, 20, 21, 22, 23, 24, 25] [] rfl rfl (by decide +kernel) (by decide +kernel) [0, 1, 2, 3, 4, 5, 6, 7, 8, 9, 10, 11, 12, 13, 14, 15, 16, 17, 18, 19, 20, 21, 22, 23, 24, 25] (by decide +kernel) rfl (fun H locs hP hD hS => ?_)
        clear hz
        refine lv_if_ne (tgt := 50) hx hb dX12_round_43 (by decide) (fun c_18 => ?_) (fun c_18 => ?_)
        · have hf := mb_if_f c_18 hf
          refine lv_aload_n hx hb dX12_round_50 rfl (lv_at hl 2 rfl) ?_
          refine lv_iload hx hb dX12_round_51 (lv_at hl 1 rfl) ?_
          refine lv_iload hx hb dX12_round_53 (lv_at hl 0 rfl) ?_
          refine lv_lload_n hx hb dX12_round_55 rfl (lv_at hl 4 rfl) ?_
          obtain ⟨r_14, hz, hf⟩ := mb_bd1_s hf
          refine gc_l (r0 := r_14) (ws' := (wC_Ref k b0 P0 L0)) (wr := ([] : va_W)) (va_runV (As := [.int x5_9, .int x6_12, .long x2_5]) (rest := []) ⟨hx, hb, hml, hown, hts⟩ (c_Ref_turned l D k H.size b0 P0 L0 x5_9 x6_12 x2_5 r_14 hz) (cwV 3 hts gX12_round_X12_turned rfl rfl rfl (by decide +kernel) ⟨Nat.le_of_ble_eq_true rfl, Nat.le_of_ble_eq_true rfl⟩) (gp_V (ci := 12) (q0 := 0) (q := (RX12, TX12, 42)) hP hD hK hN [0, 1, 2, 3, 4, 5, 6, 7, 8, 9, 10, 11, 12, 13, 14, 15, 16, 17, 18, 19, 20, 21, 22, 23, 24, 25] (by decide +kernel) rfl rfl rfl) rfl rfl hl.1 rfl (lv_room (Nat.le_of_ble_eq_true rfl)) dX12_round_56 ⟨Nat.zero_le _, Nat.zero_le _⟩) hP hD hS hA [0, 1, 2, 3, 4, 5, 6, 7, 8, 9, 10, 11, 12, 13, 14, 15, 16, 17, 18, 19, 20, 21, 22, 23, 24, 25] [] rfl rfl (by decide +kernel) (by decide +kernel) [0, 1, 2, 3, 4, 5, 6, 7, 8, 9, 10, 11, 12, 13, 14, 15, 16, 17, 18, 19, 20, 21, 22, 23, 24, 25] (by decide +kernel) rfl (fun H locs hP hD hS => ?_)
          clear hz
          obtain ⟨x2_15, e_, hf⟩ := mb_let_s hf
          refine mb_topl e_ ?_
          clear e_
          refine lv_lstore_n (lv' := [(2, .long x2_15), (6, .int x6_12), (5, .int x5_9), (0, .ref (b0 0)), (1, .int x1), (4, .int x4_6)]) hx hb dX12_round_59 rfl hl (by decide) rfl (fun ls hl => ?_)
          refine lv_lload_n hx hb dX12_round_60 rfl (lv_at hl 0 rfl) ?_
          refine lv_ldc2 (v := (1000000000000)) hx hb hown lc_137 dX12_round_61 ?_
          refine W.lcmp hx hb dX12_round_64 ?_
          refine lv_if_le (tgt := 72) hx hb dX12_round_65 (by decide) (fun c_17 => ?_) (fun c_17 => ?_)
          · have hf := mb_if_t c_17 hf
            obtain ⟨x4_16, e_, hf⟩ := mb_let_s hf
            refine lv_iinc (v := x4_16) (lv' := [(4, .int x4_16), (2, .long x2_15), (6, .int x6_12), (5, .int x5_9), (0, .ref (b0 0)), (1, .int x1)]) hx hb dX12_round_72 hl (k := 5) rfl (by rw [e_]; rfl) (by decide) rfl (fun ls hl => ?_)
            clear e_
            refine lv_goto (tgt := 7) hx hb dX12_round_75 (by decide) ?_
            exact ih_4 x2_15 x4_16 _ _ _ hf hP hD hS (lv_sub hl [4, 5, 1, 0] rfl)
          · have hf := mb_if_f c_17 hf
            refine lv_ldc2 (v := (-4)) hx hb hown lc_135 dX12_round_68 ?_
            have hz := Option.some.inj hf
            subst hz
            exact hret _ _ _ _ dX12_round_71 hP hD hS
        · have hf := mb_if_t c_18 hf
          refine lv_ldc2 (v := (-4)) hx hb hown lc_135 dX12_round_46 ?_
          have hz := Option.some.inj hf
          subst hz
          exact hret _ _ _ _ dX12_round_49 hP hD hS
  exact lp7_3 mb_fu x2_1 x4_2 _ _ _ hf hP hD hS (lv_sub hl [2, 3, 1, 0] rfl)
