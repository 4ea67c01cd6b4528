def f_Ref_means_219_b (P0 : PI) (x2 : Int32) (x3 : Int32) (x5_6 : Int32) (x6_10 : Int32) (K272_19 : Int32 → Option (Int32)) (self_26 : Int32 → Int32 → Option (Int32)) (x8_24 : Int32) (x9_25 : Int32) : Option (Int32) := (if (16 : Int32) ≤ x9_25 then K272_19 x8_24 else mb_jn (fun (y_27 : Int32) => mb_let y_27 (fun (x8_30 : Int32) => mb_let (x9_25 + (1 : Int32)) (fun (x9_31 : Int32) => self_26 x8_30 x9_31))) (fun J264_28 => mb_jn (J264_28 (0 : Int32)) (fun J263_32 => (if x8_24 = 0 then J263_32 else mb_jn (J264_28 (1 : Int32)) (fun J259_34 => (if ((x5_6 >>> (x9_25 &&& 31)) &&& (1 : Int32)) = 0 then J259_34 else (if x9_25 = x6_10 then J259_34 else mb_bd1 (f_Ref_isLet P0 x9_25 x2 x3) (fun (r_36 : Int32) => (if r_36 = 0 then J259_34 else J263_32)))))))))
def f_Ref_means_219 (P0 : PI) (x2 : Int32) (x3 : Int32) (x5_6 : Int32) (x6_10 : Int32) (K272_19 : Int32 → Option (Int32)) : Nat → Int32 → Int32 → Option (Int32)
  | 0, _, _ => none
  | n + 1, x8_24, x9_25 => f_Ref_means_219_b P0 x2 x3 x5_6 x6_10 K272_19 (f_Ref_means_219 P0 x2 x3 x5_6 x6_10 K272_19 n) x8_24 x9_25
def f_Ref_means_76_b (P0 : PI) (x1 : Int32) (x2 : Int32) (x3 : Int32) (K202_11 : Int32 → Option (Int32)) (self_48 : Int32 → Int32 → Int32 → Option (Int32)) (x6_45 : Int32) (x7_46 : Int32) (x8_47 : Int32) : Option (Int32) := mb_chk (1 : Int32) 2 ((if (P0 14 (1 : Int32).toNatClampNeg) ≤ x8_47 then K202_11 x6_45 else mb_let ((300 : Int32) + ((5 : Int32) * x8_47)) (fun (x9_50 : Int32) => mb_chk x9_50 600 (mb_jn (fun (y_52 : Int32) => mb_let y_52 (fun (x10_55 : Int32) => (if x10_55 = 0 then mb_let (x8_47 + (1 : Int32)) (fun (x8_56 : Int32) => self_48 x6_45 x7_46 x8_56) else mb_chk (x9_50 + (4 : Int32)) 600 ((if (P0 15 (x9_50 + (4 : Int32)).toNatClampNeg) < x7_46 then mb_let (x8_47 + (1 : Int32)) (fun (x8_58 : Int32) => self_48 x6_45 x7_46 x8_58) else mb_chk (x9_50 + (4 : Int32)) 600 (mb_let (P0 15 (x9_50 + (4 : Int32)).toNatClampNeg) (fun (x7_60 : Int32) => mb_chk (x9_50 + (2 : Int32)) 600 (mb_let (P0 15 (x9_50 + (2 : Int32)).toNatClampNeg) (fun (x6_62 : Int32) => mb_let (x8_47 + (1 : Int32)) (fun (x8_63 : Int32) => self_48 x6_62 x7_60 x8_63)))))))))) (fun J153_53 => mb_jn (J153_53 (0 : Int32)) (fun J152_66 => (if (P0 15 x9_50.toNatClampNeg) = (110 : Int32) then mb_chk (x9_50 + (1 : Int32)) 600 ((if (P0 15 (x9_50 + (1 : Int32)).toNatClampNeg) = x1 then mb_chk (x9_50 + (3 : Int32)) 600 ((if (P0 15 (x9_50 + (3 : Int32)).toNatClampNeg) = x2 then mb_chk (x9_50 + (4 : Int32)) 600 ((if x3 < (P0 15 (x9_50 + (4 : Int32)).toNatClampNeg) then J152_66 else J153_53 (1 : Int32))) else J152_66)) else J152_66)) else J152_66)))))))
def f_Ref_means_76 (P0 : PI) (x1 : Int32) (x2 : Int32) (x3 : Int32) (K202_11 : Int32 → Option (Int32)) : Nat → Int32 → Int32 → Int32 → Option (Int32)
  | 0, _, _, _ => none
  | n + 1, x6_45, x7_46, x8_47 => f_Ref_means_76_b P0 x1 x2 x3 K202_11 (f_Ref_means_76 P0 x1 x2 x3 K202_11 n) x6_45 x7_46 x8_47
def f_Ref_means (P0 : PI) (x1 : Int32) (x2 : Int32) (x3 : Int32) (x4 : Int32) : Option (Int32) := mb_bd1 (f_Ref_in ((x1).toInt64) (0 : Int64) (9 : Int64)) (fun (r_1 : Int32) => (if r_1 = 0 then some (-1 : Int32) else mb_bd1 (f_Ref_in ((x2).toInt64) (0 : Int64) (5 : Int64)) (fun (r_2 : Int32) => (if r_2 = 0 then some (-1 : Int32) else mb_bd1 (f_Ref_in ((x3).toInt64) (0 : Int64) (9999 : Int64)) (fun (r_3 : Int32) => (if r_3 = 0 then some (-1 : Int32) else mb_bd1 (f_Ref_in ((x4).toInt64) (0 : Int64) (1 : Int64)) (fun (r_4 : Int32) => (if r_4 = 0 then some (-1 : Int32) else mb_bd1 (f_Ref_meaning P0 x1 x2 x3) (fun (r_5 : Int32) => mb_let r_5 (fun (x5_6 : Int32) => (if x4 = 0 then some x5_6 else mb_let (-4 : Int32) (fun (x6_7 : Int32) => mb_let (-1 : Int32) (fun (x7_8 : Int32) => mb_let (0 : Int32) (fun (x8_9 : Int32) => mb_jn (fun (x6_10 : Int32) => mb_jn (fun (y_13 : Int32) => mb_let y_13 (fun (x8_16 : Int32) => mb_let (0 : Int32) (fun (x9_17 : Int32) => mb_jn (fun (x8_18 : Int32) => (if x8_18 = 0 then some (-4 : Int32) else some x6_10)) (fun K272_19 => f_Ref_means_219 P0 x2 x3 x5_6 x6_10 K272_19 mb_fu x8_16 x9_17)))) (fun J214_14 => (if x6_10 = (-4 : Int32) then J214_14 (0 : Int32) else J214_14 (1 : Int32)))) (fun K202_11 => f_Ref_means_76 P0 x1 x2 x3 K202_11 mb_fu x6_7 x7_8 x8_9)))))))))))))))
def rm_Ref_means : Room := { frames := 3, cells := 0, slots := 0, locals := 76 }
set_option maxHeartbeats 4000000 in
set_option maxRecDepth 100000 in
theorem c_Ref_means (l : Launch) (D : va_G) (k : Nat → ClassId) (sz : Nat) (b0 : Nat → Nat) (P0 : PI) (L0 : PL) (x1 : Int32) (x2 : Int32) (x3 : Int32) (x4 : Int32) (z : Int32) (hf : f_Ref_means P0 x1 x2 x3 x4 = some z) : Met l yX12_means wsX12_means rm_Ref_means (va_Pc [.ref (b0 0), .int x1, .int x2, .int x3, .int x4] (gw_pre D vwCl (tyL k) (wC_Ref k b0 P0 L0) sz)) (va_Qi (fun (r : Int32) (_ : Unit) => r = z) (gw_b D vwCl (tyL k) (va_A (wC_Ref k b0 P0 L0) sz) (wC_Ref k b0 P0 L0)) (va_A (wC_Ref k b0 P0 L0) sz)) 0 0 (va_A (wC_Ref k b0 P0 L0) sz) := by
  refine gm_i (cc := cX12_means) (maxL := 11) (by decide) rfl (Nat.le_of_ble_eq_true rfl) ?_
  intro p e s m args below meth c A Q ls H locs hx hb hml hown hts hK hN hA hP hD hS hl hret
  have hown : s.vm.findClass RX12 = some m.cls := hown
  have hl : lv_has ls 11 [(0, .ref (b0 0)), (1, .int x1), (2, .int x2), (3, .int x3), (4, .int x4)] := hl
  have iw_Ref : ∀ w ∈ u_ws RX12 TX12 42, w ∈ wsX12_means := by decide +kernel
  have fl_38 := hts (.fieldLink RX12 38 "OneMeasureModel" "itemMany" "[I") (by decide +kernel)
  have fl_41 := hts (.fieldLink RX12 41 "OneMeasureModel" "items" "[I") (by decide +kernel)
  have lc_200 := hts (.constantLong RX12 200 (5)) (by decide +kernel)
  have lc_202 := hts (.constantLong RX12 202 (9)) (by decide +kernel)
  have lc_211 := hts (.constantLong RX12 211 (9999)) (by decide +kernel)
  unfold f_Ref_means at hf
  refine lv_iload_n hx hb dX12_means_0 rfl (lv_at hl 1 rfl) ?_
  refine lv_i2l hx hb dX12_means_1 rfl ?_
  refine lv_lconst (v := 0) hx hb dX12_means_2 (by decide) ?_
  refine lv_ldc2 (v := (9)) hx hb hown lc_202 dX12_means_3 ?_
  obtain ⟨r_1, hz, hf⟩ := mb_bd1_s hf
  refine gc_i (r0 := r_1) (ws' := (wC_Ref k b0 P0 L0)) (wr := (wC_Ref k b0 P0 L0)) (va_runS (As := [.long (x1).toInt64, .long (0 : Int64), .long (9 : Int64)]) (rest := []) ⟨hx, hb, hml, hown, hts⟩ (c_Ref_in l D k H.size ((x1).toInt64) (0 : Int64) (9 : Int64) r_1 hz) (cwS 3 hts gX12_means_X12_in rfl rfl rfl (by decide +kernel) ⟨Nat.le_of_ble_eq_true rfl, Nat.le_of_ble_eq_true rfl⟩) (gp_S hP hD hK hN [] (by decide +kernel) rfl) rfl rfl hl.1 rfl (lv_room (Nat.le_of_ble_eq_true rfl)) dX12_means_6 ⟨Nat.zero_le _, Nat.zero_le _⟩) hP hD hS hA [] [0, 1, 2, 3, 4, 5, 6, 7, 8, 9, 10, 11, 12, 13, 14, 15, 16, 17, 18, 19, 20, 21, 22, 23, 24, 25] rfl rfl (by decide +kernel) (by decide +kernel) [0, 1, 2, 3, 4, 5, 6, 7, 8, 9, 10, 11, 12, 13, 14, 15, 16, 17, 18, 19, 20, 21, 22, 23, 24, 25] (by decide +kernel) rfl (fun H locs hP hD hS => ?_)
  clear hz
  refine lv_if_eq (tgt := 47) hx hb dX12_means_9 (by decide) (fun c_80 => ?_) (fun c_80 => ?_)
  · have hf := mb_if_t c_80 hf
    refine lv_iconst (v := (-1)) hx hb dX12_means_47 (by decide) ?_
    have hz := Option.some.inj hf
    subst hz
    exact hret _ _ _ _ dX12_means_48 hP hD hS
  · have hf := mb_if_f c_80 hf
    refine lv_iload_n hx hb dX12_means_12 rfl (lv_at hl 2 rfl) ?_
    refine lv_i2l hx hb dX12_means_13 rfl ?_
    refine lv_lconst (v := 0) hx hb dX12_means_14 (by decide) ?_
    refine lv_ldc2 (v := (5)) hx hb hown lc_200 dX12_means_15 ?_
    obtain ⟨r_2, hz, hf⟩ := mb_bd1_s hf
    refine gc_i (r0 := r_2) (ws' := (wC_Ref k b0 P0 L0)) (wr := (wC_Ref k b0 P0 L0)) (va_runS (As := [.long (x2).toInt64, .long (0 : Int64), .long (5 : Int64)]) (rest := []) ⟨hx, hb, hml, hown, hts⟩ (c_Ref_in l D k H.size ((x2).toInt64) (0 : Int64) (5 : Int64) r_2 hz) (cwS 3 hts gX12_means_X12_in rfl rfl rfl (by decide +kernel) ⟨Nat.le_of_ble_eq_true rfl, Nat.le_of_ble_eq_true rfl⟩) (gp_S hP hD hK hN [] (by decide +kernel) rfl) rfl rfl hl.1 rfl (lv_room (Nat.le_of_ble_eq_true rfl)) dX12_means_18 ⟨Nat.zero_le _, Nat.zero_le _⟩) hP hD hS hA [] [0, 1, 2, 3, 4, 5, 6, 7, 8, 9, 10, 11, 12, 13, 14, 15, 16, 17, 18, 19, 20, 21, 22, 23, 24, 25] rfl rfl (by decide +kernel) (by decide +kernel) [0, 1, 2, 3, 4, 5, 6, 7, 8, 9, 10, 11, 12, 13, 14, 15, 16, 17, 18, 19, 20, 21, 22, 23, 24, 25] (by decide +kernel) rfl (fun H locs hP hD hS => ?_)
    clear hz
    refine lv_if_eq (tgt := 47) hx hb dX12_means_21 (by decide) (fun c_79 => ?_) (fun c_79 => ?_)
    · have hf := mb_if_t c_79 hf
      refine lv_iconst (v := (-1)) hx hb dX12_means_47 (by decide) ?_
      have hz := Option.some.inj hf
      subst hz
      exact hret _ _ _ _ dX12_means_48 hP hD hS
    · have hf := mb_if_f c_79 hf
      refine lv_iload_n hx hb dX12_means_24 rfl (lv_at hl 3 rfl) ?_
      refine lv_i2l hx hb dX12_means_25 rfl ?_
      refine lv_lconst (v := 0) hx hb dX12_means_26 (by decide) ?_
      refine lv_ldc2 (v := (9999)) hx hb hown lc_211 dX12_means_27 ?_
      obtain ⟨r_3, hz, hf⟩ := mb_bd1_s hf
      refine gc_i (r0 := r_3) (ws' := (wC_Ref k b0 P0 L0)) (wr := (wC_Ref k b0 P0 L0)) (va_runS (As := [.long (x3).toInt64, .long (0 : Int64), .long (9999 : Int64)]) (rest := []) ⟨hx, hb, hml, hown, hts⟩ (c_Ref_in l D k H.size ((x3).toInt64) (0 : Int64) (9999 : Int64) r_3 hz) (cwS 3 hts gX12_means_X12_in rfl rfl rfl (by decide +kernel) ⟨Nat.le_of_ble_eq_true rfl, Nat.le_of_ble_eq_true rfl⟩) (gp_S hP hD hK hN [] (by decide +kernel) rfl) rfl rfl hl.1 rfl (lv_room (Nat.le_of_ble_eq_true rfl)) dX12_means_30 ⟨Nat.zero_le _, Nat.zero_le _⟩) hP hD hS hA [] [0, 1, 2, 3, 4, 5, 6, 7, 8, 9, 10, 11, 12, 13, 14, 15, 16, 17, 18, 19, 20, 21, 22, 23, 24, 25] rfl rfl (by decide +kernel) (by decide +kernel) [0, 1, 2, 3, 4, 5, 6, 7, 8, 9, 10, 11, 12, 13, 14, 15, 16, 17, 18, 19, 20, 21, 22, 23, 24, 25] (by decide +kernel) rfl (fun H locs hP hD hS => ?_)
      clear hz
      refine lv_if_eq (tgt := 47) hx hb dX12_means_33 (by decide) (fun c_78 => ?_) (fun c_78 => ?_)
      · have hf := mb_if_t c_78 hf
        refine lv_iconst (v := (-1)) hx hb dX12_means_47 (by decide) ?_
        have hz := Option.some.inj hf
        subst hz
        exact hret _ _ _ _ dX12_means_48 hP hD hS
      · have hf := mb_if_f c_78 hf
        refine lv_iload hx hb dX12_means_36 (lv_at hl 4 rfl) ?_
        refine lv_i2l hx hb dX12_means_38 rfl ?_
        refine lv_lconst (v := 0) hx hb dX12_means_39 (by decide) ?_
        refine lv_lconst (v := 1) hx hb dX12_means_40 (by decide) ?_
        obtain ⟨r_4, hz, hf⟩ := mb_bd1_s hf
        refine gc_i (r0 := r_4) (ws' := (wC_Ref k b0 P0 L0)) (wr := (wC_Ref k b0 P0 L0)) (va_runS (As := [.long (x4).toInt64, .long (0 : Int64), .long (1 : Int64)]) (rest := []) ⟨hx, hb, hml, hown, hts⟩ (c_Ref_in l D k H.size ((x4).toInt64) (0 : Int64) (1 : Int64) r_4 hz) (cwS 3 hts gX12_means_X12_in rfl rfl rfl (by decide +kernel) ⟨Nat.le_of_ble_eq_true rfl, Nat.le_of_ble_eq_true rfl⟩) (gp_S hP hD hK hN [] (by decide +kernel) rfl) rfl rfl hl.1 rfl (lv_room (Nat.le_of_ble_eq_true rfl)) dX12_means_41 ⟨Nat.zero_le _, Nat.zero_le _⟩) hP hD hS hA [] [0, 1, 2, 3, 4, 5, 6, 7, 8, 9, 10, 11, 12, 13, 14, 15, 16, 17, 18, 19, 20, 21, 22, 23, 24, 25] rfl rfl (by decide +kernel) (by decide +kernel) [0, 1, 2, 3, 4, 5, 6, 7, 8, 9, 10, 11, 12, 13, 14, 15, 16, 17, 18, 19, 20, 21, 22, 23, 24, 25] (by decide +kernel) rfl (fun H locs hP hD hS => ?_)
        clear hz
        refine lv_if_ne (tgt := 49) hx hb dX12_means_44 (by decide) (fun c_77 => ?_) (fun c_77 => ?_)
        · have hf := mb_if_f c_77 hf
          refine lv_aload_n hx hb dX12_means_49 rfl (lv_at hl 0 rfl) ?_
          refine lv_iload_n hx hb dX12_means_50 rfl (lv_at hl 1 rfl) ?_
          refine lv_iload_n hx hb dX12_means_51 rfl (lv_at hl 2 rfl) ?_
          refine lv_iload_n hx hb dX12_means_52 rfl (lv_at hl 3 rfl) ?_
          obtain ⟨r_5, hz, hf⟩ := mb_bd1_s hf
          refine gc_i (r0 := r_5) (ws' := (wC_Ref k b0 P0 L0)) (wr := ([] : va_W)) (va_runV (As := [.int x1, .int x2, .int x3]) (rest := []) ⟨hx, hb, hml, hown, hts⟩ (c_Ref_meaning l D k H.size b0 P0 L0 x1 x2 x3 r_5 hz) (cwV 3 hts gX12_means_X12_meaning rfl rfl rfl (by decide +kernel) ⟨Nat.le_of_ble_eq_true rfl, Nat.le_of_ble_eq_true rfl⟩) (gp_V (ci := 12) (q0 := 0) (q := (RX12, TX12, 42)) hP hD hK hN [0, 1, 2, 3, 4, 5, 6, 7, 8, 9, 10, 11, 12, 13, 14, 15, 16, 17, 18, 19, 20, 21, 22, 23, 24, 25] (by decide +kernel) rfl rfl rfl) rfl rfl hl.1 rfl (lv_room (Nat.le_of_ble_eq_true rfl)) dX12_means_53 ⟨Nat.zero_le _, Nat.zero_le _⟩) hP hD hS hA [0, 1, 2, 3, 4, 5, 6, 7, 8, 9, 10, 11, 12, 13, 14, 15, 16, 17, 18, 19, 20, 21, 22, 23, 24, 25] [] rfl rfl (by decide +kernel) (by decide +kernel) [0, 1, 2, 3, 4, 5, 6, 7, 8, 9, 10, 11, 12, 13, 14, 15, 16, 17, 18, 19, 20, 21, 22, 23, 24, 25] (by decide +kernel) rfl (fun H locs hP hD hS => ?_)
          clear hz
          obtain ⟨x5_6, e_, hf⟩ := mb_let_s hf
          refine mb_topi e_ ?_
          clear e_
          refine lv_istore (lv' := [(5, .int x5_6), (0, .ref (b0 0)), (1, .int x1), (2, .int x2), (3, .int x3), (4, .int x4)]) hx hb dX12_means_56 hl (by decide) rfl (fun ls hl => ?_)
          refine lv_iload hx hb dX12_means_58 (lv_at hl 5 rfl) ?_
          refine lv_if_ne (tgt := 66) hx hb dX12_means_60 (by decide) (fun c_76 => ?_) (fun c_76 => ?_)
          · have hf := mb_if_f c_76 hf
            refine lv_bipush (v := (-4)) hx hb dX12_means_66 (by decide) ?_
            obtain ⟨x6_7, e_, hf⟩ := mb_let_s hf
            refine mb_topi e_ ?_
            clear e_
            refine lv_istore (lv' := [(6, .int x6_7), (5, .int x5_6), (0, .ref (b0 0)), (1, .int x1), (2, .int x2), (3, .int x3), (4, .int x4)]) hx hb dX12_means_68 hl (by decide) rfl (fun ls hl => ?_)
            refine lv_iconst (v := (-1)) hx hb dX12_means_70 (by decide) ?_
            obtain ⟨x7_8, e_, hf⟩ := mb_let_s hf
            refine mb_topi e_ ?_
            clear e_
            refine lv_istore (lv' := [(7, .int x7_8), (6, .int x6_7), (5, .int x5_6), (0, .ref (b0 0)), (1, .int x1), (2, .int x2), (3, .int x3), (4, .int x4)]) hx hb dX12_means_71 hl (by decide) rfl (fun ls hl => ?_)
            refine lv_iconst (v := 0) hx hb dX12_means_73 (by decide) ?_
            obtain ⟨x8_9, e_, hf⟩ := mb_let_s hf
            refine mb_topi e_ ?_
            clear e_
            refine lv_istore (lv' := [(8, .int x8_9), (7, .int x7_8), (6, .int x6_7), (5, .int x5_6), (0, .ref (b0 0)), (1, .int x1), (2, .int x2), (3, .int x3), (4, .int x4)]) hx hb dX12_means_74 hl (by decide) rfl (fun ls hl => ?_)
            obtain ⟨K202_11, eK202_11, hf⟩ := mb_jn_s hf
            have k202_12 : ∀ (x6_10 : Int32) (H : Heap) (locs : List Loc) (ls : Array Slot), K202_11 x6_10 = some z → va_P D vwCl (wC_Ref k b0 P0 L0) H → va_D A (wC_Ref k b0 P0 L0) → va_S A s.heap H locs → lv_has ls 11 [(0, .ref (b0 0)), (2, .int x2), (3, .int x3), (5, .int x5_6), (6, .int x6_10)] → W p l e rm_Ref_means s m args below meth c H locs 0 0 Q (F0 m 202 ls []) := by
              intro x6_10 H locs ls hf hP hD hS hl
              have hf := mb_j1 eK202_11 hf
              refine lv_iload hx hb dX12_means_202 (lv_at hl 4 rfl) ?_
              refine lv_bipush (v := (-4)) hx hb dX12_means_204 (by decide) ?_
              obtain ⟨J214_14, eJ214_14, hf⟩ := mb_jn_s hf
              have j214_15 : ∀ (y_13 : Int32) (H : Heap) (locs : List Loc) (ls : Array Slot), J214_14 y_13 = some z → va_P D vwCl (wC_Ref k b0 P0 L0) H → va_D A (wC_Ref k b0 P0 L0) → va_S A s.heap H locs → lv_has ls 11 [(0, .ref (b0 0)), (2, .int x2), (3, .int x3), (5, .int x5_6), (6, .int x6_10)] → W p l e rm_Ref_means s m args below meth c H locs 0 0 Q (F0 m 214 ls [.int y_13]) := by
                intro y_13 H locs ls hf hP hD hS hl
                have hf := mb_j1 eJ214_14 hf
                obtain ⟨x8_16, e_, hf⟩ := mb_let_s hf
                refine mb_topi e_ ?_
                clear e_
                refine lv_istore (lv' := [(8, .int x8_16), (0, .ref (b0 0)), (2, .int x2), (3, .int x3), (5, .int x5_6), (6, .int x6_10)]) hx hb dX12_means_214 hl (by decide) rfl (fun ls hl => ?_)
                refine lv_iconst (v := 0) hx hb dX12_means_216 (by decide) ?_
                obtain ⟨x9_17, e_, hf⟩ := mb_let_s hf
                refine mb_topi e_ ?_
                clear e_
                refine lv_istore (lv' := [(9, .int x9_17), (8, .int x8_16), (0, .ref (b0 0)), (2, .int x2), (3, .int x3), (5, .int x5_6), (6, .int x6_10)]) hx hb dX12_means_217 hl (by decide) rfl (fun ls hl => ?_)
                obtain ⟨K272_19, eK272_19, hf⟩ := mb_jn_s hf
                have k272_20 : ∀ (x8_18 : Int32) (H : Heap) (locs : List Loc) (ls : Array Slot), K272_19 x8_18 = some z → va_P D vwCl (wC_Ref k b0 P0 L0) H → va_D A (wC_Ref k b0 P0 L0) → va_S A s.heap H locs → lv_has ls 11 [(6, .int x6_10), (8, .int x8_18)] → W p l e rm_Ref_means s m args below meth c H locs 0 0 Q (F0 m 272 ls []) := by
                  intro x8_18 H locs ls hf hP hD hS hl
                  have hf := mb_j1 eK272_19 hf
                  refine lv_iload hx hb dX12_means_272 (lv_at hl 1 rfl) ?_
                  refine lv_if_eq (tgt := 282) hx hb dX12_means_274 (by decide) (fun c_21 => ?_) (fun c_21 => ?_)
                  · have hf := mb_if_t c_21 hf
                    refine lv_bipush (v := (-4)) hx hb dX12_means_282 (by decide) ?_
                    have hz := Option.some.inj hf
                    subst hz
                    exact hret _ _ _ _ dX12_means_284 hP hD hS
                  · have hf := mb_if_f c_21 hf
                    refine lv_iload hx hb dX12_means_277 (lv_at hl 0 rfl) ?_
                    refine lv_goto (tgt := 284) hx hb dX12_means_279 (by decide) ?_
                    have hz := Option.some.inj hf
                    subst hz
                    exact hret _ _ _ _ dX12_means_284 hP hD hS
                have lp219_22 : ∀ (n : Nat) (x8_24 : Int32) (x9_25 : Int32) (H : Heap) (locs : List Loc) (ls : Array Slot), f_Ref_means_219 P0 x2 x3 x5_6 x6_10 K272_19 n x8_24 x9_25 = some z → va_P D vwCl (wC_Ref k b0 P0 L0) H → va_D A (wC_Ref k b0 P0 L0) → va_S A s.heap H locs → lv_has ls 11 [(0, .ref (b0 0)), (2, .int x2), (3, .int x3), (5, .int x5_6), (6, .int x6_10), (8, .int x8_24), (9, .int x9_25)] → W p l e rm_Ref_means s m args below meth c H locs 0 0 Q (F0 m 219 ls []) := by
                  intro n
                  induction n with
                  | zero =>
                    intro x8_24 x9_25 H locs ls hf
                    exact nomatch (show (none : Option (Int32)) = some z from hf)
                  | succ n ih_23 =>
                    intro x8_24 x9_25 H locs ls hf hP hD hS hl
                    have hf : f_Ref_means_219_b P0 x2 x3 x5_6 x6_10 K272_19 (f_Ref_means_219 P0 x2 x3 x5_6 x6_10 K272_19 n) x8_24 x9_25 = some z := hf
                    unfold f_Ref_means_219_b at hf
                    refine lv_iload hx hb dX12_means_219 (lv_at hl 6 rfl) ?_
                    refine lv_bipush (v := 16) hx hb dX12_means_221 (by decide) ?_
                    refine lv_icmp_ge (tgt := 272) hx hb dX12_means_223 (by decide) (fun c_41 => ?_) (fun c_41 => ?_)
                    · have hf := mb_if_t c_41 hf
                      exact k272_20 x8_24 _ _ _ hf hP hD hS (lv_sub hl [4, 5] rfl)
                    · have hf := mb_if_f c_41 hf
                      refine lv_iload hx hb dX12_means_226 (lv_at hl 5 rfl) ?_
                      obtain ⟨J264_28, eJ264_28, hf⟩ := mb_jn_s hf
                      have j264_29 : ∀ (y_27 : Int32) (H : Heap) (locs : List Loc) (ls : Array Slot), J264_28 y_27 = some z → va_P D vwCl (wC_Ref k b0 P0 L0) H → va_D A (wC_Ref k b0 P0 L0) → va_S A s.heap H locs → lv_has ls 11 [(0, .ref (b0 0)), (2, .int x2), (3, .int x3), (5, .int x5_6), (6, .int x6_10), (9, .int x9_25)] → W p l e rm_Ref_means s m args below meth c H locs 0 0 Q (F0 m 264 ls [.int y_27]) := by
                        intro y_27 H locs ls hf hP hD hS hl
                        have hf := mb_j1 eJ264_28 hf
                        obtain ⟨x8_30, e_, hf⟩ := mb_let_s hf
                        refine mb_topi e_ ?_
                        clear e_
                        refine lv_istore (lv' := [(8, .int x8_30), (0, .ref (b0 0)), (2, .int x2), (3, .int x3), (5, .int x5_6), (6, .int x6_10), (9, .int x9_25)]) hx hb dX12_means_264 hl (by decide) rfl (fun ls hl => ?_)
                        obtain ⟨x9_31, e_, hf⟩ := mb_let_s hf
                        refine lv_iinc (v := x9_31) (lv' := [(9, .int x9_31), (8, .int x8_30), (0, .ref (b0 0)), (2, .int x2), (3, .int x3), (5, .int x5_6), (6, .int x6_10)]) hx hb dX12_means_266 hl (k := 6) rfl (by rw [e_]; rfl) (by decide) rfl (fun ls hl => ?_)
                        clear e_
                        refine lv_goto (tgt := 219) hx hb dX12_means_269 (by decide) ?_
                        exact ih_23 x8_30 x9_31 _ _ _ hf hP hD hS (lv_sub hl [2, 3, 4, 5, 6, 1, 0] rfl)
                      obtain ⟨J263_32, eJ263_32, hf⟩ := mb_jn_s hf
                      have j263_33 : ∀ (H : Heap) (locs : List Loc) (ls : Array Slot), J263_32 = some z → va_P D vwCl (wC_Ref k b0 P0 L0) H → va_D A (wC_Ref k b0 P0 L0) → va_S A s.heap H locs → lv_has ls 11 [(0, .ref (b0 0)), (2, .int x2), (3, .int x3), (5, .int x5_6), (6, .int x6_10), (9, .int x9_25)] → W p l e rm_Ref_means s m args below meth c H locs 0 0 Q (F0 m 263 ls []) := by
                        intro  H locs ls hf hP hD hS hl
                        have hf := mb_j0 eJ263_32 hf
                        refine lv_iconst (v := 0) hx hb dX12_means_263 (by decide) ?_
                        exact j264_29 (0 : Int32) _ _ _ hf hP hD hS (lv_sub hl [0, 1, 2, 3, 4, 5] rfl)
                      refine lv_if_eq (tgt := 263) hx hb dX12_means_228 (by decide) (fun c_40 => ?_) (fun c_40 => ?_)
                      · have hf := mb_if_t c_40 hf
                        exact j263_33  _ _ _ hf hP hD hS (lv_sub hl [0, 1, 2, 3, 4, 6] rfl)
                      · have hf := mb_if_f c_40 hf
                        refine lv_iload hx hb dX12_means_231 (lv_at hl 3 rfl) ?_
                        refine lv_iload hx hb dX12_means_233 (lv_at hl 6 rfl) ?_
                        refine lv_ishr hx hb dX12_means_235 ?_
                        refine lv_iconst (v := 1) hx hb dX12_means_236 (by decide) ?_
                        refine lv_iand hx hb dX12_means_237 ?_
                        obtain ⟨J259_34, eJ259_34, hf⟩ := mb_jn_s hf
                        have j259_35 : ∀ (H : Heap) (locs : List Loc) (ls : Array Slot), J259_34 = some z → va_P D vwCl (wC_Ref k b0 P0 L0) H → va_D A (wC_Ref k b0 P0 L0) → va_S A s.heap H locs → lv_has ls 11 [(0, .ref (b0 0)), (2, .int x2), (3, .int x3), (5, .int x5_6), (6, .int x6_10), (9, .int x9_25)] → W p l e rm_Ref_means s m args below meth c H locs 0 0 Q (F0 m 259 ls []) := by
                          intro  H locs ls hf hP hD hS hl
                          have hf := mb_j0 eJ259_34 hf
                          refine lv_iconst (v := 1) hx hb dX12_means_259 (by decide) ?_
                          refine lv_goto (tgt := 264) hx hb dX12_means_260 (by decide) ?_
                          exact j264_29 (1 : Int32) _ _ _ hf hP hD hS (lv_sub hl [0, 1, 2, 3, 4, 5] rfl)
                        refine lv_if_eq (tgt := 259) hx hb dX12_means_238 (by decide) (fun c_39 => ?_) (fun c_39 => ?_)
                        · have hf := mb_if_t c_39 hf
                          exact j259_35  _ _ _ hf hP hD hS (lv_sub hl [0, 1, 2, 3, 4, 6] rfl)
                        · have hf := mb_if_f c_39 hf
                          refine lv_iload hx hb dX12_means_241 (lv_at hl 6 rfl) ?_
                          refine lv_iload hx hb dX12_means_243 (lv_at hl 4 rfl) ?_
                          refine lv_icmp_eq (tgt := 259) hx hb dX12_means_245 (by decide) (fun c_38 => ?_) (fun c_38 => ?_)
                          · have hf := mb_if_t c_38 hf
                            exact j259_35  _ _ _ hf hP hD hS (lv_sub hl [0, 1, 2, 3, 4, 6] rfl)
                          · have hf := mb_if_f c_38 hf
                            refine lv_aload_n hx hb dX12_means_248 rfl (lv_at hl 0 rfl) ?_
                            refine lv_iload hx hb dX12_means_249 (lv_at hl 6 rfl) ?_
                            refine lv_iload_n hx hb dX12_means_251 rfl (lv_at hl 1 rfl) ?_
                            refine lv_iload_n hx hb dX12_means_252 rfl (lv_at hl 2 rfl) ?_
                            obtain ⟨r_36, hz, hf⟩ := mb_bd1_s hf
                            refine gc_i (r0 := r_36) (ws' := (wC_Ref k b0 P0 L0)) (wr := ([] : va_W)) (va_runV (As := [.int x9_25, .int x2, .int x3]) (rest := []) ⟨hx, hb, hml, hown, hts⟩ (c_Ref_isLet l D k H.size b0 P0 L0 x9_25 x2 x3 r_36 hz) (cwV 3 hts gX12_means_X12_isLet rfl rfl rfl (by decide +kernel) ⟨Nat.le_of_ble_eq_true rfl, Nat.le_of_ble_eq_true rfl⟩) (gp_V (ci := 12) (q0 := 0) (q := (RX12, TX12, 42)) hP hD hK hN [0, 1, 2, 3, 4, 5, 6, 7, 8, 9, 10, 11, 12, 13, 14, 15, 16, 17, 18, 19, 20, 21, 22, 23, 24, 25] (by decide +kernel) rfl rfl rfl) rfl rfl hl.1 rfl (lv_room (Nat.le_of_ble_eq_true rfl)) dX12_means_253 ⟨Nat.zero_le _, Nat.zero_le _⟩) hP hD hS hA [0, 1, 2, 3, 4, 5, 6, 7, 8, 9, 10, 11, 12, 13, 14, 15, 16, 17, 18, 19, 20, 21, 22, 23, 24, 25] [] rfl rfl (by decide +kernel) (by decide +kernel) [0, 1, 2, 3, 4, 5, 6, 7, 8, 9, 10, 11, 12, 13, 14, 15, 16, 17, 18, 19, 20, 21, 22, 23, 24, 25] (by decide +kernel) rfl (fun H locs hP hD hS => ?_)
                            clear hz
                            refine lv_if_ne (tgt := 263) hx hb dX12_means_256 (by decide) (fun c_37 => ?_) (fun c_37 => ?_)
                            · have hf := mb_if_f c_37 hf
                              exact j263_33  _ _ _ hf hP hD hS (lv_sub hl [0, 1, 2, 3, 4, 6] rfl)
                            · have hf := mb_if_t c_37 hf
                              exact j259_35  _ _ _ hf hP hD hS (lv_sub hl [0, 1, 2, 3, 4, 6] rfl)
                exact lp219_22 mb_fu x8_16 x9_17 _ _ _ hf hP hD hS (lv_sub hl [2, 3, 4, 5, 6, 1, 0] rfl)
              refine lv_icmp_eq (tgt := 213) hx hb dX12_means_206 (by decide) (fun c_42 => ?_) (fun c_42 => ?_)
              · have hf := mb_if_t c_42 hf
                refine lv_iconst (v := 0) hx hb dX12_means_213 (by decide) ?_
                exact j214_15 (0 : Int32) _ _ _ hf hP hD hS (lv_sub hl [0, 1, 2, 3, 4] rfl)
              · have hf := mb_if_f c_42 hf
                refine lv_iconst (v := 1) hx hb dX12_means_209 (by decide) ?_
                refine lv_goto (tgt := 214) hx hb dX12_means_210 (by decide) ?_
                exact j214_15 (1 : Int32) _ _ _ hf hP hD hS (lv_sub hl [0, 1, 2, 3, 4] rfl)
            have lp76_43 : ∀ (n : Nat) (x6_45 : Int32) (x7_46 : Int32) (x8_47 : Int32) (H : Heap) (locs : List Loc) (ls : Array Slot), f_Ref_means_76 P0 x1 x2 x3 K202_11 n x6_45 x7_46 x8_47 = some z → va_P D vwCl (wC_Ref k b0 P0 L0) H → va_D A (wC_Ref k b0 P0 L0) → va_S A s.heap H locs → lv_has ls 11 [(0, .ref (b0 0)), (1, .int x1), (2, .int x2), (3, .int x3), (5, .int x5_6), (6, .int x6_45), (7, .int x7_46), (8, .int x8_47)] → W p l e rm_Ref_means s m args below meth c H locs 0 0 Q (F0 m 76 ls []) := by
              intro n
              induction n with
              | zero =>
                intro x6_45 x7_46 x8_47 H locs ls hf
                exact nomatch (show (none : Option (Int32)) = some z from hf)
              | succ n ih_44 =>
                intro x6_45 x7_46 x8_47 H locs ls hf hP hD hS hl
                have hf : f_Ref_means_76_b P0 x1 x2 x3 K202_11 (f_Ref_means_76 P0 x1 x2 x3 K202_11 n) x6_45 x7_46 x8_47 = some z := hf
                unfold f_Ref_means_76_b at hf
                refine lv_iload hx hb dX12_means_76 (lv_at hl 7 rfl) ?_
                refine lv_aload_n hx hb dX12_means_78 rfl (lv_at hl 0 rfl) ?_
                refine va_get (D := D) (ci := 12) (v := .ref (b0 14)) (C := RX12) (T := TX12) (N := 42) hx hb hts iw_Ref hown hK hP 0 rfl rfl 13 (by decide) fl_38 (fun _ h9 => h9) rfl dX12_means_79 ?_
                refine lv_iconst (v := 1) hx hb dX12_means_82 (by decide) ?_
                obtain ⟨h_49, hf⟩ := mb_chk_s hf
                refine va_iald hx hb hK hP 10 0 rfl rfl h_49 dX12_means_83 ?_
                refine lv_icmp_ge (tgt := 202) hx hb dX12_means_84 (by decide) (fun c_75 => ?_) (fun c_75 => ?_)
                · have hf := mb_if_t c_75 hf
                  exact k202_12 x6_45 _ _ _ hf hP hD hS (lv_sub hl [0, 2, 3, 4, 5] rfl)
                · have hf := mb_if_f c_75 hf
                  refine lv_sipush (v := 300) hx hb dX12_means_87 (by decide) ?_
                  refine lv_iconst (v := 5) hx hb dX12_means_90 (by decide) ?_
                  refine lv_iload hx hb dX12_means_91 (lv_at hl 7 rfl) ?_
                  refine lv_imul hx hb dX12_means_93 ?_
                  refine lv_iadd hx hb dX12_means_94 ?_
                  obtain ⟨x9_50, e_, hf⟩ := mb_let_s hf
                  refine mb_topi e_ ?_
                  clear e_
                  refine lv_istore (lv' := [(9, .int x9_50), (0, .ref (b0 0)), (1, .int x1), (2, .int x2), (3, .int x3), (5, .int x5_6), (6, .int x6_45), (7, .int x7_46), (8, .int x8_47)]) hx hb dX12_means_95 hl (by decide) rfl (fun ls hl => ?_)
                  refine lv_aload_n hx hb dX12_means_97 rfl (lv_at hl 1 rfl) ?_
                  refine va_get (D := D) (ci := 12) (v := .ref (b0 15)) (C := RX12) (T := TX12) (N := 42) hx hb hts iw_Ref hown hK hP 0 rfl rfl 14 (by decide) fl_41 (fun _ h9 => h9) rfl dX12_means_98 ?_
                  refine lv_iload hx hb dX12_means_101 (lv_at hl 0 rfl) ?_
                  obtain ⟨h_51, hf⟩ := mb_chk_s hf
                  refine va_iald hx hb hK hP 11 0 rfl rfl h_51 dX12_means_103 ?_
                  refine lv_bipush (v := 110) hx hb dX12_means_104 (by decide) ?_
                  obtain ⟨J153_53, eJ153_53, hf⟩ := mb_jn_s hf
                  have j153_54 : ∀ (y_52 : Int32) (H : Heap) (locs : List Loc) (ls : Array Slot), J153_53 y_52 = some z → va_P D vwCl (wC_Ref k b0 P0 L0) H → va_D A (wC_Ref k b0 P0 L0) → va_S A s.heap H locs → lv_has ls 11 [(0, .ref (b0 0)), (1, .int x1), (2, .int x2), (3, .int x3), (5, .int x5_6), (6, .int x6_45), (7, .int x7_46), (8, .int x8_47), (9, .int x9_50)] → W p l e rm_Ref_means s m args below meth c H locs 0 0 Q (F0 m 153 ls [.int y_52]) := by
                    intro y_52 H locs ls hf hP hD hS hl
                    have hf := mb_j1 eJ153_53 hf
                    obtain ⟨x10_55, e_, hf⟩ := mb_let_s hf
                    refine mb_topi e_ ?_
                    clear e_
                    refine lv_istore (lv' := [(10, .int x10_55), (0, .ref (b0 0)), (1, .int x1), (2, .int x2), (3, .int x3), (5, .int x5_6), (6, .int x6_45), (7, .int x7_46), (8, .int x8_47), (9, .int x9_50)]) hx hb dX12_means_153 hl (by decide) rfl (fun ls hl => ?_)
                    refine lv_iload hx hb dX12_means_155 (lv_at hl 0 rfl) ?_
                    refine lv_if_eq (tgt := 196) hx hb dX12_means_157 (by decide) (fun c_65 => ?_) (fun c_65 => ?_)
                    · have hf := mb_if_t c_65 hf
                      obtain ⟨x8_56, e_, hf⟩ := mb_let_s hf
                      refine lv_iinc (v := x8_56) (lv' := [(8, .int x8_56), (10, .int x10_55), (0, .ref (b0 0)), (1, .int x1), (2, .int x2), (3, .int x3), (5, .int x5_6), (6, .int x6_45), (7, .int x7_46), (9, .int x9_50)]) hx hb dX12_means_196 hl (k := 8) rfl (by rw [e_]; rfl) (by decide) rfl (fun ls hl => ?_)
                      clear e_
                      refine lv_goto (tgt := 76) hx hb dX12_means_199 (by decide) ?_
                      exact ih_44 x6_45 x7_46 x8_56 _ _ _ hf hP hD hS (lv_sub hl [2, 3, 4, 5, 6, 7, 8, 0] rfl)
                    · have hf := mb_if_f c_65 hf
                      refine lv_aload_n hx hb dX12_means_160 rfl (lv_at hl 1 rfl) ?_
                      refine va_get (D := D) (ci := 12) (v := .ref (b0 15)) (C := RX12) (T := TX12) (N := 42) hx hb hts iw_Ref hown hK hP 0 rfl rfl 14 (by decide) fl_41 (fun _ h9 => h9) rfl dX12_means_161 ?_
                      refine lv_iload hx hb dX12_means_164 (lv_at hl 9 rfl) ?_
                      refine lv_iconst (v := 4) hx hb dX12_means_166 (by decide) ?_
                      refine lv_iadd hx hb dX12_means_167 ?_
                      obtain ⟨h_57, hf⟩ := mb_chk_s hf
                      refine va_iald hx hb hK hP 11 0 rfl rfl h_57 dX12_means_168 ?_
                      refine lv_iload hx hb dX12_means_169 (lv_at hl 7 rfl) ?_
                      refine lv_icmp_lt (tgt := 196) hx hb dX12_means_171 (by decide) (fun c_64 => ?_) (fun c_64 => ?_)
                      · have hf := mb_if_t c_64 hf
                        obtain ⟨x8_58, e_, hf⟩ := mb_let_s hf
                        refine lv_iinc (v := x8_58) (lv' := [(8, .int x8_58), (10, .int x10_55), (0, .ref (b0 0)), (1, .int x1), (2, .int x2), (3, .int x3), (5, .int x5_6), (6, .int x6_45), (7, .int x7_46), (9, .int x9_50)]) hx hb dX12_means_196 hl (k := 8) rfl (by rw [e_]; rfl) (by decide) rfl (fun ls hl => ?_)
                        clear e_
                        refine lv_goto (tgt := 76) hx hb dX12_means_199 (by decide) ?_
                        exact ih_44 x6_45 x7_46 x8_58 _ _ _ hf hP hD hS (lv_sub hl [2, 3, 4, 5, 6, 7, 8, 0] rfl)
                      · have hf := mb_if_f c_64 hf
                        refine lv_aload_n hx hb dX12_means_174 rfl (lv_at hl 1 rfl) ?_
                        refine va_get (D := D) (ci := 12) (v := .ref (b0 15)) (C := RX12) (T := TX12) (N := 42) hx hb hts iw_Ref hown hK hP 0 rfl rfl 14 (by decide) fl_41 (fun _ h9 => h9) rfl dX12_means_175 ?_
                        refine lv_iload hx hb dX12_means_178 (lv_at hl 9 rfl) ?_
                        refine lv_iconst (v := 4) hx hb dX12_means_180 (by decide) ?_
                        refine lv_iadd hx hb dX12_means_181 ?_
                        obtain ⟨h_59, hf⟩ := mb_chk_s hf
                        refine va_iald hx hb hK hP 11 0 rfl rfl h_59 dX12_means_182 ?_
                        obtain ⟨x7_60, e_, hf⟩ := mb_let_s hf
                        refine mb_topi e_ ?_
                        clear e_
                        refine lv_istore (lv' := [(7, .int x7_60), (10, .int x10_55), (0, .ref (b0 0)), (1, .int x1), (2, .int x2), (3, .int x3), (5, .int x5_6), (6, .int x6_45), (8, .int x8_47), (9, .int x9_50)]) hx hb dX12_means_183 hl (by decide) rfl (fun ls hl => ?_)
                        refine lv_aload_n hx hb dX12_means_185 rfl (lv_at hl 2 rfl) ?_
                        refine va_get (D := D) (ci := 12) (v := .ref (b0 15)) (C := RX12) (T := TX12) (N := 42) hx hb hts iw_Ref hown hK hP 0 rfl rfl 14 (by decide) fl_41 (fun _ h9 => h9) rfl dX12_means_186 ?_
                        refine lv_iload hx hb dX12_means_189 (lv_at hl 9 rfl) ?_
                        refine lv_iconst (v := 2) hx hb dX12_means_191 (by decide) ?_
                        refine lv_iadd hx hb dX12_means_192 ?_
                        obtain ⟨h_61, hf⟩ := mb_chk_s hf
                        refine va_iald hx hb hK hP 11 0 rfl rfl h_61 dX12_means_193 ?_
                        obtain ⟨x6_62, e_, hf⟩ := mb_let_s hf
                        refine mb_topi e_ ?_
                        clear e_
                        refine lv_istore (lv' := [(6, .int x6_62), (7, .int x7_60), (10, .int x10_55), (0, .ref (b0 0)), (1, .int x1), (2, .int x2), (3, .int x3), (5, .int x5_6), (8, .int x8_47), (9, .int x9_50)]) hx hb dX12_means_194 hl (by decide) rfl (fun ls hl => ?_)
                        obtain ⟨x8_63, e_, hf⟩ := mb_let_s hf
                        refine lv_iinc (v := x8_63) (lv' := [(8, .int x8_63), (6, .int x6_62), (7, .int x7_60), (10, .int x10_55), (0, .ref (b0 0)), (1, .int x1), (2, .int x2), (3, .int x3), (5, .int x5_6), (9, .int x9_50)]) hx hb dX12_means_196 hl (k := 8) rfl (by rw [e_]; rfl) (by decide) rfl (fun ls hl => ?_)
                        clear e_
                        refine lv_goto (tgt := 76) hx hb dX12_means_199 (by decide) ?_
                        exact ih_44 x6_62 x7_60 x8_63 _ _ _ hf hP hD hS (lv_sub hl [4, 5, 6, 7, 8, 1, 2, 0] rfl)
                  obtain ⟨J152_66, eJ152_66, hf⟩ := mb_jn_s hf
                  have j152_67 : ∀ (H : Heap) (locs : List Loc) (ls : Array Slot), J152_66 = some z → va_P D vwCl (wC_Ref k b0 P0 L0) H → va_D A (wC_Ref k b0 P0 L0) → va_S A s.heap H locs → lv_has ls 11 [(0, .ref (b0 0)), (1, .int x1), (2, .int x2), (3, .int x3), (5, .int x5_6), (6, .int x6_45), (7, .int x7_46), (8, .int x8_47), (9, .int x9_50)] → W p l e rm_Ref_means s m args below meth c H locs 0 0 Q (F0 m 152 ls []) := by
                    intro  H locs ls hf hP hD hS hl
                    have hf := mb_j0 eJ152_66 hf
                    refine lv_iconst (v := 0) hx hb dX12_means_152 (by decide) ?_
                    exact j153_54 (0 : Int32) _ _ _ hf hP hD hS (lv_sub hl [0, 1, 2, 3, 4, 5, 6, 7, 8] rfl)
                  refine lv_icmp_ne (tgt := 152) hx hb dX12_means_106 (by decide) (fun c_74 => ?_) (fun c_74 => ?_)
                  · have hf := mb_if_f c_74 hf
                    exact j152_67  _ _ _ hf hP hD hS (lv_sub hl [1, 2, 3, 4, 5, 6, 7, 8, 0] rfl)
                  · have hf := mb_if_t c_74 hf
                    refine lv_aload_n hx hb dX12_means_109 rfl (lv_at hl 1 rfl) ?_
                    refine va_get (D := D) (ci := 12) (v := .ref (b0 15)) (C := RX12) (T := TX12) (N := 42) hx hb hts iw_Ref hown hK hP 0 rfl rfl 14 (by decide) fl_41 (fun _ h9 => h9) rfl dX12_means_110 ?_
                    refine lv_iload hx hb dX12_means_113 (lv_at hl 0 rfl) ?_
                    refine lv_iconst (v := 1) hx hb dX12_means_115 (by decide) ?_
                    refine lv_iadd hx hb dX12_means_116 ?_
                    obtain ⟨h_68, hf⟩ := mb_chk_s hf
                    refine va_iald hx hb hK hP 11 0 rfl rfl h_68 dX12_means_117 ?_
                    refine lv_iload_n hx hb dX12_means_118 rfl (lv_at hl 2 rfl) ?_
                    refine lv_icmp_ne (tgt := 152) hx hb dX12_means_119 (by decide) (fun c_73 => ?_) (fun c_73 => ?_)
                    · have hf := mb_if_f c_73 hf
                      exact j152_67  _ _ _ hf hP hD hS (lv_sub hl [1, 2, 3, 4, 5, 6, 7, 8, 0] rfl)
                    · have hf := mb_if_t c_73 hf
                      refine lv_aload_n hx hb dX12_means_122 rfl (lv_at hl 1 rfl) ?_
                      refine va_get (D := D) (ci := 12) (v := .ref (b0 15)) (C := RX12) (T := TX12) (N := 42) hx hb hts iw_Ref hown hK hP 0 rfl rfl 14 (by decide) fl_41 (fun _ h9 => h9) rfl dX12_means_123 ?_
                      refine lv_iload hx hb dX12_means_126 (lv_at hl 0 rfl) ?_
                      refine lv_iconst (v := 3) hx hb dX12_means_128 (by decide) ?_
                      refine lv_iadd hx hb dX12_means_129 ?_
                      obtain ⟨h_69, hf⟩ := mb_chk_s hf
                      refine va_iald hx hb hK hP 11 0 rfl rfl h_69 dX12_means_130 ?_
                      refine lv_iload_n hx hb dX12_means_131 rfl (lv_at hl 3 rfl) ?_
                      refine lv_icmp_ne (tgt := 152) hx hb dX12_means_132 (by decide) (fun c_72 => ?_) (fun c_72 => ?_)
                      · have hf := mb_if_f c_72 hf
                        exact j152_67  _ _ _ hf hP hD hS (lv_sub hl [1, 2, 3, 4, 5, 6, 7, 8, 0] rfl)
                      · have hf := mb_if_t c_72 hf
                        refine lv_aload_n hx hb dX12_means_135 rfl (lv_at hl 1 rfl) ?_
                        refine va_get (D := D) (ci := 12) (v := .ref (b0 15)) (C := RX12) (T := TX12) (N := 42) hx hb hts iw_Ref hown hK hP 0 rfl rfl 14 (by decide) fl_41 (fun _ h9 => h9) rfl dX12_means_136 ?_
                        refine lv_iload hx hb dX12_means_139 (lv_at hl 0 rfl) ?_
                        refine lv_iconst (v := 4) hx hb dX12_means_141 (by decide) ?_
                        refine lv_iadd hx hb dX12_means_142 ?_
                        obtain ⟨h_70, hf⟩ := mb_chk_s hf
                        refine va_iald hx hb hK hP 11 0 rfl rfl h_70 dX12_means_143 ?_
                        refine lv_iload_n hx hb dX12_means_144 rfl (lv_at hl 4 rfl) ?_
                        refine lv_icmp_gt (tgt := 152) hx hb dX12_means_145 (by decide) (fun c_71 => ?_) (fun c_71 => ?_)
                        · have hf := mb_if_t c_71 hf
                          exact j152_67  _ _ _ hf hP hD hS (lv_sub hl [1, 2, 3, 4, 5, 6, 7, 8, 0] rfl)
                        · have hf := mb_if_f c_71 hf
                          refine lv_iconst (v := 1) hx hb dX12_means_148 (by decide) ?_
                          refine lv_goto (tgt := 153) hx hb dX12_means_149 (by decide) ?_
                          exact j153_54 (1 : Int32) _ _ _ hf hP hD hS (lv_sub hl [1, 2, 3, 4, 5, 6, 7, 8, 0] rfl)
            exact lp76_43 mb_fu x6_7 x7_8 x8_9 _ _ _ hf hP hD hS (lv_sub hl [4, 5, 6, 7, 3, 2, 1, 0] rfl)
          · have hf := mb_if_t c_76 hf
            refine lv_iload hx hb dX12_means_63 (lv_at hl 0 rfl) ?_
            have hz := Option.some.inj hf
            subst hz
            exact hret _ _ _ _ dX12_means_65 hP hD hS
        · have hf := mb_if_t c_77 hf
          refine lv_iconst (v := (-1)) hx hb dX12_means_47 (by decide) ?_
          have hz := Option.some.inj hf
          subst hz
          exact hret _ _ _ _ dX12_means_48 hP hD hS
def f_Ref_paper (P0 : PI) (x1 : Int32) (x2 : Int32) (x3 : Int32) (x4 : Int32) (x5 : Int32) : Option (Int32 × PI) := mb_bd1 (f_Ref_in ((x1).toInt64) (0 : Int64) (5 : Int64)) (fun (r_1 : Int32) => (if r_1 = 0 then some ((-1 : Int32), P0) else mb_bd1 (f_Ref_in ((x2).toInt64) (0 : Int64) (9 : Int64)) (fun (r_2 : Int32) => (if r_2 = 0 then some ((-1 : Int32), P0) else mb_bd1 (f_Ref_in ((x3).toInt64) (0 : Int64) (9999 : Int64)) (fun (r_3 : Int32) => (if r_3 = 0 then some ((-1 : Int32), P0) else mb_bd1 (f_Ref_in ((x4).toInt64) (1 : Int64) (1000000 : Int64)) (fun (r_4 : Int32) => (if r_4 = 0 then some ((-1 : Int32), P0) else mb_bd1 (f_Ref_in ((x5).toInt64) (0 : Int64) (2 : Int64)) (fun (r_5 : Int32) => (if r_5 = 0 then some ((-1 : Int32), P0) else (if (P0 0 15) = (10 : Int32) then some ((-3 : Int32), P0) else mb_let ((5 : Int32) * (P0 0 15)) (fun (x6_6 : Int32) => mb_chk x6_6 50 (mb_let (mb_u2 P0 17 x6_6.toNatClampNeg x1) (fun (P0_7 : PI) => mb_chk (x6_6 + (1 : Int32)) 50 (mb_let (mb_u2 P0_7 17 (x6_6 + (1 : Int32)).toNatClampNeg x2) (fun (P0_9 : PI) => mb_chk (x6_6 + (2 : Int32)) 50 (mb_let (mb_u2 P0_9 17 (x6_6 + (2 : Int32)).toNatClampNeg x3) (fun (P0_11 : PI) => mb_chk (x6_6 + (3 : Int32)) 50 (mb_let (mb_u2 P0_11 17 (x6_6 + (3 : Int32)).toNatClampNeg x4) (fun (P0_13 : PI) => mb_chk (x6_6 + (4 : Int32)) 50 (mb_let (mb_u2 P0_13 17 (x6_6 + (4 : Int32)).toNatClampNeg x5) (fun (P0_15 : PI) => mb_let (mb_uo P0_15 15 ((P0_15 0 15) + (1 : Int32))) (fun (P0_17 : PI) => some (((P0_17 0 15) - (1 : Int32)), P0_17))))))))))))))))))))))))
def rm_Ref_paper : Room := { frames := 1, cells := 0, slots := 0, locals := 25 }
set_option maxHeartbeats 4000000 in
set_option maxRecDepth 100000 in
theorem c_Ref_paper (l : Launch) (D : va_G) (k : Nat → ClassId) (sz : Nat) (b0 : Nat → Nat) (P0 : PI) (L0 : PL) (x1 : Int32) (x2 : Int32) (x3 : Int32) (x4 : Int32) (x5 : Int32) (z : Int32 × PI) (hf : f_Ref_paper P0 x1 x2 x3 x4 x5 = some z) : Met l yX12_paper wsX12_paper rm_Ref_paper (va_Pc [.ref (b0 0), .int x1, .int x2, .int x3, .int x4, .int x5] (gw_pre D vwCl (tyL k) (wC_Ref k b0 P0 L0) sz)) (va_Qi (fun (r : Int32) (_ : Unit) => r = z.1) (gw_b D vwCl (tyL k) (va_A (wC_Ref k b0 P0 L0) sz) (wC_Ref k b0 z.2 L0)) (va_A (wC_Ref k b0 P0 L0) sz)) 0 0 (va_A (wC_Ref k b0 P0 L0) sz) := by
  refine gm_i (cc := cX12_paper) (maxL := 7) (by decide) rfl (Nat.le_of_ble_eq_true rfl) ?_
  intro p e s m args below meth c A Q ls H locs hx hb hml hown hts hK hN hA hP hD hS hl hret
  have hown : s.vm.findClass RX12 = some m.cls := hown
  have hl : lv_has ls 7 [(0, .ref (b0 0)), (1, .int x1), (2, .int x2), (3, .int x3), (4, .int x4), (5, .int x5)] := hl
  have iw_Ref : ∀ w ∈ u_ws RX12 TX12 42, w ∈ wsX12_paper := by decide +kernel
  have fl_44 := hts (.fieldLink RX12 44 "OneMeasureModel" "papers" "[I") (by decide +kernel)
  have fl_232 := hts (.fieldLink RX12 232 "OneMeasureModel" "paperMany" "I") (by decide +kernel)
  have lc_97 := hts (.constantLong RX12 97 (1000000)) (by decide +kernel)
  have lc_200 := hts (.constantLong RX12 200 (5)) (by decide +kernel)
  have lc_202 := hts (.constantLong RX12 202 (9)) (by decide +kernel)
  have lc_211 := hts (.constantLong RX12 211 (9999)) (by decide +kernel)
  have lc_230 := hts (.constantLong RX12 230 (2)) (by decide +kernel)
  unfold f_Ref_paper at hf
  refine lv_iload_n hx hb dX12_paper_0 rfl (lv_at hl 1 rfl) ?_
  refine lv_i2l hx hb dX12_paper_1 rfl ?_
  refine lv_lconst (v := 0) hx hb dX12_paper_2 (by decide) ?_
  refine lv_ldc2 (v := (5)) hx hb hown lc_200 dX12_paper_3 ?_
  obtain ⟨r_1, hz, hf⟩ := mb_bd1_s hf
  refine gc_i (r0 := r_1) (ws' := (wC_Ref k b0 P0 L0)) (wr := (wC_Ref k b0 P0 L0)) (va_runS (As := [.long (x1).toInt64, .long (0 : Int64), .long (5 : Int64)]) (rest := []) ⟨hx, hb, hml, hown, hts⟩ (c_Ref_in l D k H.size ((x1).toInt64) (0 : Int64) (5 : Int64) r_1 hz) (cwS 3 hts gX12_paper_X12_in rfl rfl rfl (by decide +kernel) ⟨Nat.le_of_ble_eq_true rfl, Nat.le_of_ble_eq_true rfl⟩) (gp_S hP hD hK hN [] (by decide +kernel) rfl) rfl rfl hl.1 rfl (lv_room (Nat.le_of_ble_eq_true rfl)) dX12_paper_6 ⟨Nat.zero_le _, Nat.zero_le _⟩) hP hD hS hA [] [0, 1, 2, 3, 4, 5, 6, 7, 8, 9, 10, 11, 12, 13, 14, 15, 16, 17, 18, 19, 20, 21, 22, 23, 24, 25] rfl rfl (by decide +kernel) (by decide +kernel) [0, 1, 2, 3, 4, 5, 6, 7, 8, 9, 10, 11, 12, 13, 14, 15, 16, 17, 18, 19, 20, 21, 22, 23, 24, 25] (by decide +kernel) rfl (fun H locs hP hD hS => ?_)
  clear hz
  refine lv_if_eq (tgt := 62) hx hb dX12_paper_9 (by decide) (fun c_23 => ?_) (fun c_23 => ?_)
  · have hf := mb_if_t c_23 hf
    refine lv_iconst (v := (-1)) hx hb dX12_paper_62 (by decide) ?_
    have hz := Option.some.inj hf
    subst hz
    exact hret _ _ _ _ dX12_paper_63 hP hD hS
  · have hf := mb_if_f c_23 hf
    refine lv_iload_n hx hb dX12_paper_12 rfl (lv_at hl 2 rfl) ?_
    refine lv_i2l hx hb dX12_paper_13 rfl ?_
    refine lv_lconst (v := 0) hx hb dX12_paper_14 (by decide) ?_
    refine lv_ldc2 (v := (9)) hx hb hown lc_202 dX12_paper_15 ?_
    obtain ⟨r_2, hz, hf⟩ := mb_bd1_s hf
    refine gc_i (r0 := r_2) (ws' := (wC_Ref k b0 P0 L0)) (wr := (wC_Ref k b0 P0 L0)) (va_runS (As := [.long (x2).toInt64, .long (0 : Int64), .long (9 : Int64)]) (rest := []) ⟨hx, hb, hml, hown, hts⟩ (c_Ref_in l D k H.size ((x2).toInt64) (0 : Int64) (9 : Int64) r_2 hz) (cwS 3 hts gX12_paper_X12_in rfl rfl rfl (by decide +kernel) ⟨Nat.le_of_ble_eq_true rfl, Nat.le_of_ble_eq_true rfl⟩) (gp_S hP hD hK hN [] (by decide +kernel) rfl) rfl rfl hl.1 rfl (lv_room (Nat.le_of_ble_eq_true rfl)) dX12_paper_18 ⟨Nat.zero_le _, Nat.zero_le _⟩) hP hD hS hA [] [0, 1, 2, 3, 4, 5, 6, 7, 8, 9, 10, 11, 12, 13, 14, 15, 16, 17, 18, 19, 20, 21, 22, 23, 24, 25] rfl rfl (by decide +kernel) (by decide +kernel) [0, 1, 2, 3, 4, 5, 6, 7, 8, 9, 10, 11, 12, 13, 14, 15, 16, 17, 18, 19, 20, 21, 22, 23, 24, 25] (by decide +kernel) rfl (fun H locs hP hD hS => ?_)
    clear hz
    refine lv_if_eq (tgt := 62) hx hb dX12_paper_21 (by decide) (fun c_22 => ?_) (fun c_22 => ?_)
    · have hf := mb_if_t c_22 hf
      refine lv_iconst (v := (-1)) hx hb dX12_paper_62 (by decide) ?_
      have hz := Option.some.inj hf
      subst hz
      exact hret _ _ _ _ dX12_paper_63 hP hD hS
    · have hf := mb_if_f c_22 hf
      refine lv_iload_n hx hb dX12_paper_24 rfl (lv_at hl 3 rfl) ?_
      refine lv_i2l hx hb dX12_paper_25 rfl ?_
      refine lv_lconst (v := 0) hx hb dX12_paper_26 (by decide) ?_
      refine lv_ldc2 (v := (9999)) hx hb hown lc_211 dX12_paper_27 ?_
      obtain ⟨r_3, hz, hf⟩ := mb_bd1_s hf
      refine gc_i (r0 := r_3) (ws' := (wC_Ref k b0 P0 L0)) (wr := (wC_Ref k b0 P0 L0)) (va_runS (As := [.long (x3).toInt64, .long (0 : Int64), .long (9999 : Int64)]) (rest := []) ⟨hx, hb, hml, hown, hts⟩ (c_Ref_in l D k H.size ((x3).toInt64) (0 : Int64) (9999 : Int64) r_3 hz) (cwS 3 hts gX12_paper_X12_in rfl rfl rfl (by decide +kernel) ⟨Nat.le_of_ble_eq_true rfl, Nat.le_of_ble_eq_true rfl⟩) (gp_S hP hD hK hN [] (by decide +kernel) rfl) rfl rfl hl.1 rfl (lv_room (Nat.le_of_ble_eq_true rfl)) dX12_paper_30 ⟨Nat.zero_le _, Nat.zero_le _⟩) hP hD hS hA [] [0, 1, 2, 3, 4, 5, 6, 7, 8, 9, 10, 11, 12, 13, 14, 15, 16, 17, 18, 19, 20, 21, 22, 23, 24, 25] rfl rfl (by decide +kernel) (by decide +kernel) [0, 1, 2, 3, 4, 5, 6, 7, 8, 9, 10, 11, 12, 13, 14, 15, 16, 17, 18, 19, 20, 21, 22, 23, 24, 25] (by decide +kernel) rfl (fun H locs hP hD hS => ?_)
      clear hz
      refine lv_if_eq (tgt := 62) hx hb dX12_paper_33 (by decide) (fun c_21 => ?_) (fun c_21 => ?_)
      · have hf := mb_if_t c_21 hf
        refine lv_iconst (v := (-1)) hx hb dX12_paper_62 (by decide) ?_
        have hz := Option.some.inj hf
        subst hz
        exact hret _ _ _ _ dX12_paper_63 hP hD hS
      · have hf := mb_if_f c_21 hf
        refine lv_iload hx hb dX12_paper_36 (lv_at hl 4 rfl) ?_
        refine lv_i2l hx hb dX12_paper_38 rfl ?_
        refine lv_lconst (v := 1) hx hb dX12_paper_39 (by decide) ?_
        refine lv_ldc2 (v := (1000000)) hx hb hown lc_97 dX12_paper_40 ?_
        obtain ⟨r_4, hz, hf⟩ := mb_bd1_s hf
        refine gc_i (r0 := r_4) (ws' := (wC_Ref k b0 P0 L0)) (wr := (wC_Ref k b0 P0 L0)) (va_runS (As := [.long (x4).toInt64, .long (1 : Int64), .long (1000000 : Int64)]) (rest := []) ⟨hx, hb, hml, hown, hts⟩ (c_Ref_in l D k H.size ((x4).toInt64) (1 : Int64) (1000000 : Int64) r_4 hz) (cwS 3 hts gX12_paper_X12_in rfl rfl rfl (by decide +kernel) ⟨Nat.le_of_ble_eq_true rfl, Nat.le_of_ble_eq_true rfl⟩) (gp_S hP hD hK hN [] (by decide +kernel) rfl) rfl rfl hl.1 rfl (lv_room (Nat.le_of_ble_eq_true rfl)) dX12_paper_43 ⟨Nat.zero_le _, Nat.zero_le _⟩) hP hD hS hA [] [0, 1, 2, 3, 4, 5, 6, 7, 8, 9, 10, 11, 12, 13, 14, 15, 16, 17, 18, 19, 20, 21, 22, 23, 24, 25] rfl rfl (by decide +kernel) (by decide +kernel) [0, 1, 2, 3, 4, 5, 6, 7, 8, 9, 10, 11, 12, 13, 14, 15, 16, 17, 18, 19, 20, 21, 22, 23, 24, 25] (by decide +kernel) rfl (fun H locs hP hD hS => ?_)
        clear hz
        refine lv_if_eq (tgt := 62) hx hb dX12_paper_46 (by decide) (fun c_20 => ?_) (fun c_20 => ?_)
        · have hf := mb_if_t c_20 hf
          refine lv_iconst (v := (-1)) hx hb dX12_paper_62 (by decide) ?_
          have hz := Option.some.inj hf
          subst hz
          exact hret _ _ _ _ dX12_paper_63 hP hD hS
        · have hf := mb_if_f c_20 hf
          refine lv_iload hx hb dX12_paper_49 (lv_at hl 5 rfl) ?_
          refine lv_i2l hx hb dX12_paper_51 rfl ?_
          refine lv_lconst (v := 0) hx hb dX12_paper_52 (by decide) ?_
          refine lv_ldc2 (v := (2)) hx hb hown lc_230 dX12_paper_53 ?_
          obtain ⟨r_5, hz, hf⟩ := mb_bd1_s hf
          refine gc_i (r0 := r_5) (ws' := (wC_Ref k b0 P0 L0)) (wr := (wC_Ref k b0 P0 L0)) (va_runS (As := [.long (x5).toInt64, .long (0 : Int64), .long (2 : Int64)]) (rest := []) ⟨hx, hb, hml, hown, hts⟩ (c_Ref_in l D k H.size ((x5).toInt64) (0 : Int64) (2 : Int64) r_5 hz) (cwS 3 hts gX12_paper_X12_in rfl rfl rfl (by decide +kernel) ⟨Nat.le_of_ble_eq_true rfl, Nat.le_of_ble_eq_true rfl⟩) (gp_S hP hD hK hN [] (by decide +kernel) rfl) rfl rfl hl.1 rfl (lv_room (Nat.le_of_ble_eq_true rfl)) dX12_paper_56 ⟨Nat.zero_le _, Nat.zero_le _⟩) hP hD hS hA [] [0, 1, 2, 3, 4, 5, 6, 7, 8, 9, 10, 11, 12, 13, 14, 15, 16, 17, 18, 19, 20, 21, 22, 23, 24, 25] rfl rfl (by decide +kernel) (by decide +kernel) [0, 1, 2, 3, 4, 5, 6, 7, 8, 9, 10, 11, 12, 13, 14, 15, 16, 17, 18, 19, 20, 21, 22, 23, 24, 25] (by decide +kernel) rfl (fun H locs hP hD hS => ?_)
          clear hz
          refine lv_if_ne (tgt := 64) hx hb dX12_paper_59 (by decide) (fun c_19 => ?_) (fun c_19 => ?_)
          · have hf := mb_if_f c_19 hf
            refine lv_aload_n hx hb dX12_paper_64 rfl (lv_at hl 0 rfl) ?_
            refine va_get (D := D) (ci := 12) (v := .int (P0 0 15)) (C := RX12) (T := TX12) (N := 42) hx hb hts iw_Ref hown hK hP 0 rfl rfl 15 (by decide) fl_232 (fun _ h9 => h9) rfl dX12_paper_65 ?_
            refine lv_bipush (v := 10) hx hb dX12_paper_68 (by decide) ?_
            refine lv_icmp_ne (tgt := 76) hx hb dX12_paper_70 (by decide) (fun c_18 => ?_) (fun c_18 => ?_)
            · have hf := mb_if_f c_18 hf
              refine lv_iconst (v := 5) hx hb dX12_paper_76 (by decide) ?_
              refine lv_aload_n hx hb dX12_paper_77 rfl (lv_at hl 0 rfl) ?_
              refine va_get (D := D) (ci := 12) (v := .int (P0 0 15)) (C := RX12) (T := TX12) (N := 42) hx hb hts iw_Ref hown hK hP 0 rfl rfl 15 (by decide) fl_232 (fun _ h9 => h9) rfl dX12_paper_78 ?_
              refine lv_imul hx hb dX12_paper_81 ?_
              obtain ⟨x6_6, e_, hf⟩ := mb_let_s hf
              refine mb_topi e_ ?_
              clear e_
              refine lv_istore (lv' := [(6, .int x6_6), (0, .ref (b0 0)), (1, .int x1), (2, .int x2), (3, .int x3), (4, .int x4), (5, .int x5)]) hx hb dX12_paper_82 hl (by decide) rfl (fun ls hl => ?_)
              refine lv_aload_n hx hb dX12_paper_84 rfl (lv_at hl 1 rfl) ?_
              refine va_get (D := D) (ci := 12) (v := .ref (b0 17)) (C := RX12) (T := TX12) (N := 42) hx hb hts iw_Ref hown hK hP 0 rfl rfl 16 (by decide) fl_44 (fun _ h9 => h9) rfl dX12_paper_85 ?_
              refine lv_iload hx hb dX12_paper_88 (lv_at hl 0 rfl) ?_
              refine lv_iload_n hx hb dX12_paper_90 rfl (lv_at hl 2 rfl) ?_
              obtain ⟨h_8, hf⟩ := mb_chk_s hf
              obtain ⟨P0_7, e_, hf⟩ := mb_let_s hf
              refine va_iast hx hb hK hP hD hS 12 0 rfl rfl h_8 dX12_paper_91 (fun H locs hP hD hS => ?_)
              have hP : va_P D vwCl (wC_Ref k b0 P0_7 L0) H := by rw [e_]; exact hP
              have hD : va_D A (wC_Ref k b0 P0_7 L0) := by rw [e_]; exact hD
              clear e_
              refine lv_aload_n hx hb dX12_paper_92 rfl (lv_at hl 1 rfl) ?_
              refine va_get (D := D) (ci := 12) (v := .ref (b0 17)) (C := RX12) (T := TX12) (N := 42) hx hb hts iw_Ref hown hK hP 0 rfl rfl 16 (by decide) fl_44 (fun _ h9 => h9) rfl dX12_paper_93 ?_
              refine lv_iload hx hb dX12_paper_96 (lv_at hl 0 rfl) ?_
              refine lv_iconst (v := 1) hx hb dX12_paper_98 (by decide) ?_
              refine lv_iadd hx hb dX12_paper_99 ?_
              refine lv_iload_n hx hb dX12_paper_100 rfl (lv_at hl 3 rfl) ?_
              obtain ⟨h_10, hf⟩ := mb_chk_s hf
              obtain ⟨P0_9, e_, hf⟩ := mb_let_s hf
              refine va_iast hx hb hK hP hD hS 12 0 rfl rfl h_10 dX12_paper_101 (fun H locs hP hD hS => ?_)
              have hP : va_P D vwCl (wC_Ref k b0 P0_9 L0) H := by rw [e_]; exact hP
              have hD : va_D A (wC_Ref k b0 P0_9 L0) := by rw [e_]; exact hD
              clear e_
              refine lv_aload_n hx hb dX12_paper_102 rfl (lv_at hl 1 rfl) ?_
              refine va_get (D := D) (ci := 12) (v := .ref (b0 17)) (C := RX12) (T := TX12) (N := 42) hx hb hts iw_Ref hown hK hP 0 rfl rfl 16 (by decide) fl_44 (fun _ h9 => h9) rfl dX12_paper_103 ?_
              refine lv_iload hx hb dX12_paper_106 (lv_at hl 0 rfl) ?_
              refine lv_iconst (v := 2) hx hb dX12_paper_108 (by decide) ?_
              refine lv_iadd hx hb dX12_paper_109 ?_
              refine lv_iload_n hx hb dX12_paper_110 rfl (lv_at hl 4 rfl) ?_
              obtain ⟨h_12, hf⟩ := mb_chk_s hf
              obtain ⟨P0_11, e_, hf⟩ := mb_let_s hf
              refine va_iast hx hb hK hP hD hS 12 0 rfl rfl h_12 dX12_paper_111 (fun H locs hP hD hS => ?_)
              have hP : va_P D vwCl (wC_Ref k b0 P0_11 L0) H := by rw [e_]; exact hP
              have hD : va_D A (wC_Ref k b0 P0_11 L0) := by rw [e_]; exact hD
              clear e_
              refine lv_aload_n hx hb dX12_paper_112 rfl (lv_at hl 1 rfl) ?_
              refine va_get (D := D) (ci := 12) (v := .ref (b0 17)) (C := RX12) (T := TX12) (N := 42) hx hb hts iw_Ref hown hK hP 0 rfl rfl 16 (by decide) fl_44 (fun _ h9 => h9) rfl dX12_paper_113 ?_
              refine lv_iload hx hb dX12_paper_116 (lv_at hl 0 rfl) ?_
              refine lv_iconst (v := 3) hx hb dX12_paper_118 (by decide) ?_
              refine lv_iadd hx hb dX12_paper_119 ?_
              refine lv_iload hx hb dX12_paper_120 (lv_at hl 5 rfl) ?_
              obtain ⟨h_14, hf⟩ := mb_chk_s hf
              obtain ⟨P0_13, e_, hf⟩ := mb_let_s hf
              refine va_iast hx hb hK hP hD hS 12 0 rfl rfl h_14 dX12_paper_122 (fun H locs hP hD hS => ?_)
              have hP : va_P D vwCl (wC_Ref k b0 P0_13 L0) H := by rw [e_]; exact hP
              have hD : va_D A (wC_Ref k b0 P0_13 L0) := by rw [e_]; exact hD
              clear e_
              refine lv_aload_n hx hb dX12_paper_123 rfl (lv_at hl 1 rfl) ?_
              refine va_get (D := D) (ci := 12) (v := .ref (b0 17)) (C := RX12) (T := TX12) (N := 42) hx hb hts iw_Ref hown hK hP 0 rfl rfl 16 (by decide) fl_44 (fun _ h9 => h9) rfl dX12_paper_124 ?_
              refine lv_iload hx hb dX12_paper_127 (lv_at hl 0 rfl) ?_
              refine lv_iconst (v := 4) hx hb dX12_paper_129 (by decide) ?_
              refine lv_iadd hx hb dX12_paper_130 ?_
              refine lv_iload hx hb dX12_paper_131 (lv_at hl 6 rfl) ?_
              obtain ⟨h_16, hf⟩ := mb_chk_s hf
              obtain ⟨P0_15, e_, hf⟩ := mb_let_s hf
              refine va_iast hx hb hK hP hD hS 12 0 rfl rfl h_16 dX12_paper_133 (fun H locs hP hD hS => ?_)
              have hP : va_P D vwCl (wC_Ref k b0 P0_15 L0) H := by rw [e_]; exact hP
              have hD : va_D A (wC_Ref k b0 P0_15 L0) := by rw [e_]; exact hD
              clear e_
              refine lv_aload_n hx hb dX12_paper_134 rfl (lv_at hl 1 rfl) ?_
              refine lv_dup hx hb dX12_paper_135 rfl ?_
              refine va_get (D := D) (ci := 12) (v := .int (P0_15 0 15)) (C := RX12) (T := TX12) (N := 42) hx hb hts iw_Ref hown hK hP 0 rfl rfl 15 (by decide) fl_232 (fun _ h9 => h9) rfl dX12_paper_136 ?_
              refine lv_iconst (v := 1) hx hb dX12_paper_139 (by decide) ?_
              refine lv_iadd hx hb dX12_paper_140 ?_
              obtain ⟨P0_17, e_, hf⟩ := mb_let_s hf
              refine va_put (D := D) (ci := 12) (v := .int ((P0_15 0 15) + (1 : Int32))) (ty := .int) (C := RX12) (T := TX12) (N := 42) hx hb hts iw_Ref tyX12 tyX12_ok nmX12 hown hK hP hD hS 0 rfl rfl 15 (by decide) fl_232 (fun _ h9 => h9) rfl (by decide +kernel) rfl rfl (Nat.le_of_ble_eq_true rfl) dX12_paper_141 (fun H locs hP hD hS => ?_)
              have hP : va_P D vwCl (wC_Ref k b0 P0_17 L0) H := by rw [e_]; exact hP
              have hD : va_D A (wC_Ref k b0 P0_17 L0) := by rw [e_]; exact hD
              clear e_
              refine lv_aload_n hx hb dX12_paper_144 rfl (lv_at hl 1 rfl) ?_
              refine va_get (D := D) (ci := 12) (v := .int (P0_17 0 15)) (C := RX12) (T := TX12) (N := 42) hx hb hts iw_Ref hown hK hP 0 rfl rfl 15 (by decide) fl_232 (fun _ h9 => h9) rfl dX12_paper_145 ?_
              refine lv_iconst (v := 1) hx hb dX12_paper_148 (by decide) ?_
              refine lv_isub hx hb dX12_paper_149 ?_
              have hz := Option.some.inj hf
              subst hz
              exact hret _ _ _ _ dX12_paper_150 hP hD hS
            · have hf := mb_if_t c_18 hf
              refine lv_bipush (v := (-3)) hx hb dX12_paper_73 (by decide) ?_
              have hz := Option.some.inj hf
              subst hz
              exact hret _ _ _ _ dX12_paper_75 hP hD hS
          · have hf := mb_if_t c_19 hf
            refine lv_iconst (v := (-1)) hx hb dX12_paper_62 (by decide) ?_
            have hz := Option.some.inj hf
            subst hz
            exact hret _ _ _ _ dX12_paper_63 hP hD hS
def f_Ref_custom_6_b (P0 : PI) (x1 : Int32) (x2 : Int32) (self_7 : Int32 → Int32 → Option (Int32)) (x3_5 : Int32) (x4_6 : Int32) : Option (Int32) := mb_chk (1 : Int32) 2 ((if (P0 14 (1 : Int32).toNatClampNeg) ≤ x4_6 then some x3_5 else mb_let ((300 : Int32) + ((5 : Int32) * x4_6)) (fun (x5_9 : Int32) => mb_chk x5_9 600 (mb_jn (fun (y_11 : Int32) => mb_let y_11 (fun (x3_14 : Int32) => mb_let (x4_6 + (1 : Int32)) (fun (x4_15 : Int32) => self_7 x3_14 x4_15))) (fun J93_12 => mb_jn (J93_12 x3_5) (fun J92_16 => (if (P0 15 x5_9.toNatClampNeg) = (104 : Int32) then mb_chk (x5_9 + (1 : Int32)) 600 ((if (P0 15 (x5_9 + (1 : Int32)).toNatClampNeg) = x1 then mb_chk (x5_9 + (3 : Int32)) 600 (mb_chk (x5_9 + (4 : Int32)) 600 (mb_bd1 (f_Ref_in ((x2).toInt64) (((P0 15 (x5_9 + (3 : Int32)).toNatClampNeg)).toInt64) (((P0 15 (x5_9 + (4 : Int32)).toNatClampNeg)).toInt64)) (fun (r_21 : Int32) => (if r_21 = 0 then J92_16 else mb_chk (x5_9 + (2 : Int32)) 600 (J93_12 (P0 15 (x5_9 + (2 : Int32)).toNatClampNeg)))))) else J92_16)) else J92_16)))))))
def f_Ref_custom_6 (P0 : PI) (x1 : Int32) (x2 : Int32) : Nat → Int32 → Int32 → Option (Int32)
  | 0, _, _ => none
  | n + 1, x3_5, x4_6 => f_Ref_custom_6_b P0 x1 x2 (f_Ref_custom_6 P0 x1 x2 n) x3_5 x4_6
def f_Ref_custom (P0 : PI) (x1 : Int32) (x2 : Int32) : Option (Int32) := mb_let (-4 : Int32) (fun (x3_1 : Int32) => mb_let (0 : Int32) (fun (x4_2 : Int32) => f_Ref_custom_6 P0 x1 x2 mb_fu x3_1 x4_2))
def rm_Ref_custom : Room := { frames := 1, cells := 0, slots := 0, locals := 25 }
set_option maxHeartbeats 4000000 in
set_option maxRecDepth 100000 in
theorem c_Ref_custom (l : Launch) (D : va_G) (k : Nat → ClassId) (sz : Nat) (b0 : Nat → Nat) (P0 : PI) (L0 : PL) (x1 : Int32) (x2 : Int32) (z : Int32) (hf : f_Ref_custom P0 x1 x2 = some z) : Met l yX12_custom wsX12_custom rm_Ref_custom (va_Pc [.ref (b0 0), .int x1, .int x2] (gw_pre D vwCl (tyL k) (wC_Ref k b0 P0 L0) sz)) (va_Qi (fun (r : Int32) (_ : Unit) => r = z) (gw_b D vwCl (tyL k) (va_A (wC_Ref k b0 P0 L0) sz) (wC_Ref k b0 P0 L0)) (va_A (wC_Ref k b0 P0 L0) sz)) 0 0 (va_A (wC_Ref k b0 P0 L0) sz) := by
  refine gm_i (cc := cX12_custom) (maxL := 6) (by decide) rfl (Nat.le_of_ble_eq_true rfl) ?_
  intro p e s m args below meth c A Q ls H locs hx hb hml hown hts hK hN hA hP hD hS hl hret
  have hown : s.vm.findClass RX12 = some m.cls := hown
  have hl : lv_has ls 6 [(0, .ref (b0 0)), (1, .int x1), (2, .int x2)] := hl
  have iw_Ref : ∀ w ∈ u_ws RX12 TX12 42, w ∈ wsX12_custom := by decide +kernel
  have fl_38 := hts (.fieldLink RX12 38 "OneMeasureModel" "itemMany" "[I") (by decide +kernel)
  have fl_41 := hts (.fieldLink RX12 41 "OneMeasureModel" "items" "[I") (by decide +kernel)
  unfold f_Ref_custom at hf
  refine lv_bipush (v := (-4)) hx hb dX12_custom_0 (by decide) ?_
  obtain ⟨x3_1, e_, hf⟩ := mb_let_s hf
  refine mb_topi e_ ?_
  clear e_
  refine lv_istore_n (lv' := [(3, .int x3_1), (0, .ref (b0 0)), (1, .int x1), (2, .int x2)]) hx hb dX12_custom_2 rfl hl (by decide) rfl (fun ls hl => ?_)
  refine lv_iconst (v := 0) hx hb dX12_custom_3 (by decide) ?_
  obtain ⟨x4_2, e_, hf⟩ := mb_let_s hf
  refine mb_topi e_ ?_
  clear e_
  refine lv_istore (lv' := [(4, .int x4_2), (3, .int x3_1), (0, .ref (b0 0)), (1, .int x1), (2, .int x2)]) hx hb dX12_custom_4 hl (by decide) rfl (fun ls hl => ?_)
  have lp6_3 : ∀ (n : Nat) (x3_5 : Int32) (x4_6 : Int32) (H : Heap) (locs : List Loc) (ls : Array Slot), f_Ref_custom_6 P0 x1 x2 n x3_5 x4_6 = some z → va_P D vwCl (wC_Ref k b0 P0 L0) H → va_D A (wC_Ref k b0 P0 L0) → va_S A s.heap H locs → lv_has ls 6 [(0, .ref (b0 0)), (1, .int x1), (2, .int x2), (3, .int x3_5), (4, .int x4_6)] → W p l e rm_Ref_custom s m args below meth c H locs 0 0 Q (F0 m 6 ls []) := by
    intro n
    induction n with
    | zero =>
      intro x3_5 x4_6 H locs ls hf
      exact nomatch (show (none : Option (Int32)) = some z from hf)
    | succ n ih_4 =>
      intro x3_5 x4_6 H locs ls hf hP hD hS hl
      have hf : f_Ref_custom_6_b P0 x1 x2 (f_Ref_custom_6 P0 x1 x2 n) x3_5 x4_6 = some z := hf
      unfold f_Ref_custom_6_b at hf
      refine lv_iload hx hb dX12_custom_6 (lv_at hl 4 rfl) ?_
      refine lv_aload_n hx hb dX12_custom_8 rfl (lv_at hl 0 rfl) ?_
      refine va_get (D := D) (ci := 12) (v := .ref (b0 14)) (C := RX12) (T := TX12) (N := 42) hx hb hts iw_Ref hown hK hP 0 rfl rfl 13 (by decide) fl_38 (fun _ h9 => h9) rfl dX12_custom_9 ?_
      refine lv_iconst (v := 1) hx hb dX12_custom_12 (by decide) ?_
      obtain ⟨h_8, hf⟩ := mb_chk_s hf
      refine va_iald hx hb hK hP 10 0 rfl rfl h_8 dX12_custom_13 ?_
      refine lv_icmp_ge (tgt := 100) hx hb dX12_custom_14 (by decide) (fun c_26 => ?_) (fun c_26 => ?_)
      · have hf := mb_if_t c_26 hf
        refine lv_iload_n hx hb dX12_custom_100 rfl (lv_at hl 3 rfl) ?_
        have hz := Option.some.inj hf
        subst hz
        exact hret _ _ _ _ dX12_custom_101 hP hD hS
      · have hf := mb_if_f c_26 hf
        refine lv_sipush (v := 300) hx hb dX12_custom_17 (by decide) ?_
        refine lv_iconst (v := 5) hx hb dX12_custom_20 (by decide) ?_
        refine lv_iload hx hb dX12_custom_21 (lv_at hl 4 rfl) ?_
        refine lv_imul hx hb dX12_custom_23 ?_
        refine lv_iadd hx hb dX12_custom_24 ?_
        obtain ⟨x5_9, e_, hf⟩ := mb_let_s hf
        refine mb_topi e_ ?_
        clear e_
        refine lv_istore (lv' := [(5, .int x5_9), (0, .ref (b0 0)), (1, .int x1), (2, .int x2), (3, .int x3_5), (4, .int x4_6)]) hx hb dX12_custom_25 hl (by decide) rfl (fun ls hl => ?_)
        refine lv_aload_n hx hb dX12_custom_27 rfl (lv_at hl 1 rfl) ?_
        refine va_get (D := D) (ci := 12) (v := .ref (b0 15)) (C := RX12) (T := TX12) (N := 42) hx hb hts iw_Ref hown hK hP 0 rfl rfl 14 (by decide) fl_41 (fun _ h9 => h9) rfl dX12_custom_28 ?_
        refine lv_iload hx hb dX12_custom_31 (lv_at hl 0 rfl) ?_
        obtain ⟨h_10, hf⟩ := mb_chk_s hf
        refine va_iald hx hb hK hP 11 0 rfl rfl h_10 dX12_custom_33 ?_
        refine lv_bipush (v := 104) hx hb dX12_custom_34 (by decide) ?_
        obtain ⟨J93_12, eJ93_12, hf⟩ := mb_jn_s hf
        have j93_13 : ∀ (y_11 : Int32) (H : Heap) (locs : List Loc) (ls : Array Slot), J93_12 y_11 = some z → va_P D vwCl (wC_Ref k b0 P0 L0) H → va_D A (wC_Ref k b0 P0 L0) → va_S A s.heap H locs → lv_has ls 6 [(0, .ref (b0 0)), (1, .int x1), (2, .int x2), (4, .int x4_6)] → W p l e rm_Ref_custom s m args below meth c H locs 0 0 Q (F0 m 93 ls [.int y_11]) := by
          intro y_11 H locs ls hf hP hD hS hl
          have hf := mb_j1 eJ93_12 hf
          obtain ⟨x3_14, e_, hf⟩ := mb_let_s hf
          refine mb_topi e_ ?_
          clear e_
          refine lv_istore_n (lv' := [(3, .int x3_14), (0, .ref (b0 0)), (1, .int x1), (2, .int x2), (4, .int x4_6)]) hx hb dX12_custom_93 rfl hl (by decide) rfl (fun ls hl => ?_)
          obtain ⟨x4_15, e_, hf⟩ := mb_let_s hf
          refine lv_iinc (v := x4_15) (lv' := [(4, .int x4_15), (3, .int x3_14), (0, .ref (b0 0)), (1, .int x1), (2, .int x2)]) hx hb dX12_custom_94 hl (k := 4) rfl (by rw [e_]; rfl) (by decide) rfl (fun ls hl => ?_)
          clear e_
          refine lv_goto (tgt := 6) hx hb dX12_custom_97 (by decide) ?_
          exact ih_4 x3_14 x4_15 _ _ _ hf hP hD hS (lv_sub hl [2, 3, 4, 1, 0] rfl)
        obtain ⟨J92_16, eJ92_16, hf⟩ := mb_jn_s hf
        have j92_17 : ∀ (H : Heap) (locs : List Loc) (ls : Array Slot), J92_16 = some z → va_P D vwCl (wC_Ref k b0 P0 L0) H → va_D A (wC_Ref k b0 P0 L0) → va_S A s.heap H locs → lv_has ls 6 [(0, .ref (b0 0)), (1, .int x1), (2, .int x2), (3, .int x3_5), (4, .int x4_6)] → W p l e rm_Ref_custom s m args below meth c H locs 0 0 Q (F0 m 92 ls []) := by
          intro  H locs ls hf hP hD hS hl
          have hf := mb_j0 eJ92_16 hf
          refine lv_iload_n hx hb dX12_custom_92 rfl (lv_at hl 3 rfl) ?_
          exact j93_13 x3_5 _ _ _ hf hP hD hS (lv_sub hl [0, 1, 2, 4] rfl)
        refine lv_icmp_ne (tgt := 92) hx hb dX12_custom_36 (by decide) (fun c_25 => ?_) (fun c_25 => ?_)
        · have hf := mb_if_f c_25 hf
          exact j92_17  _ _ _ hf hP hD hS (lv_sub hl [1, 2, 3, 4, 5] rfl)
        · have hf := mb_if_t c_25 hf
          refine lv_aload_n hx hb dX12_custom_39 rfl (lv_at hl 1 rfl) ?_
          refine va_get (D := D) (ci := 12) (v := .ref (b0 15)) (C := RX12) (T := TX12) (N := 42) hx hb hts iw_Ref hown hK hP 0 rfl rfl 14 (by decide) fl_41 (fun _ h9 => h9) rfl dX12_custom_40 ?_
          refine lv_iload hx hb dX12_custom_43 (lv_at hl 0 rfl) ?_
          refine lv_iconst (v := 1) hx hb dX12_custom_45 (by decide) ?_
          refine lv_iadd hx hb dX12_custom_46 ?_
          obtain ⟨h_18, hf⟩ := mb_chk_s hf
          refine va_iald hx hb hK hP 11 0 rfl rfl h_18 dX12_custom_47 ?_
          refine lv_iload_n hx hb dX12_custom_48 rfl (lv_at hl 2 rfl) ?_
          refine lv_icmp_ne (tgt := 92) hx hb dX12_custom_49 (by decide) (fun c_24 => ?_) (fun c_24 => ?_)
          · have hf := mb_if_f c_24 hf
            exact j92_17  _ _ _ hf hP hD hS (lv_sub hl [1, 2, 3, 4, 5] rfl)
          · have hf := mb_if_t c_24 hf
            refine lv_iload_n hx hb dX12_custom_52 rfl (lv_at hl 3 rfl) ?_
            refine lv_i2l hx hb dX12_custom_53 rfl ?_
            refine lv_aload_n hx hb dX12_custom_54 rfl (lv_at hl 1 rfl) ?_
            refine va_get (D := D) (ci := 12) (v := .ref (b0 15)) (C := RX12) (T := TX12) (N := 42) hx hb hts iw_Ref hown hK hP 0 rfl rfl 14 (by decide) fl_41 (fun _ h9 => h9) rfl dX12_custom_55 ?_
            refine lv_iload hx hb dX12_custom_58 (lv_at hl 0 rfl) ?_
            refine lv_iconst (v := 3) hx hb dX12_custom_60 (by decide) ?_
            refine lv_iadd hx hb dX12_custom_61 ?_
            obtain ⟨h_19, hf⟩ := mb_chk_s hf
            refine va_iald hx hb hK hP 11 0 rfl rfl h_19 dX12_custom_62 ?_
            refine lv_i2l hx hb dX12_custom_63 rfl ?_
            refine lv_aload_n hx hb dX12_custom_64 rfl (lv_at hl 1 rfl) ?_
            refine va_get (D := D) (ci := 12) (v := .ref (b0 15)) (C := RX12) (T := TX12) (N := 42) hx hb hts iw_Ref hown hK hP 0 rfl rfl 14 (by decide) fl_41 (fun _ h9 => h9) rfl dX12_custom_65 ?_
            refine lv_iload hx hb dX12_custom_68 (lv_at hl 0 rfl) ?_
            refine lv_iconst (v := 4) hx hb dX12_custom_70 (by decide) ?_
            refine lv_iadd hx hb dX12_custom_71 ?_
            obtain ⟨h_20, hf⟩ := mb_chk_s hf
            refine va_iald hx hb hK hP 11 0 rfl rfl h_20 dX12_custom_72 ?_
            refine lv_i2l hx hb dX12_custom_73 rfl ?_
            obtain ⟨r_21, hz, hf⟩ := mb_bd1_s hf
            refine gc_i (r0 := r_21) (ws' := (wC_Ref k b0 P0 L0)) (wr := (wC_Ref k b0 P0 L0)) (va_runS (As := [.long (x2).toInt64, .long ((P0 15 (x5_9 + (3 : Int32)).toNatClampNeg)).toInt64, .long ((P0 15 (x5_9 + (4 : Int32)).toNatClampNeg)).toInt64]) (rest := []) ⟨hx, hb, hml, hown, hts⟩ (c_Ref_in l D k H.size ((x2).toInt64) (((P0 15 (x5_9 + (3 : Int32)).toNatClampNeg)).toInt64) (((P0 15 (x5_9 + (4 : Int32)).toNatClampNeg)).toInt64) r_21 hz) (cwS 3 hts gX12_custom_X12_in rfl rfl rfl (by decide +kernel) ⟨Nat.le_of_ble_eq_true rfl, Nat.le_of_ble_eq_true rfl⟩) (gp_S hP hD hK hN [] (by decide +kernel) rfl) rfl rfl hl.1 rfl (lv_room (Nat.le_of_ble_eq_true rfl)) dX12_custom_74 ⟨Nat.zero_le _, Nat.zero_le _⟩) hP hD hS hA [] [0, 1, 2, 3, 4, 5, 6, 7, 8, 9, 10, 11, 12, 13, 14, 15, 16, 17, 18, 19, 20, 21, 22, 23, 24, 25] rfl rfl (by decide +kernel) (by decide +kernel) [0, 1, 2, 3, 4, 5, 6, 7, 8, 9, 10, 11, 12, 13, 14, 15, 16, 17, 18, 19, 20, 21, 22, 23, 24, 25] (by decide +kernel) rfl (fun H locs hP hD hS => ?_)
            clear hz
            refine lv_if_eq (tgt := 92) hx hb dX12_custom_77 (by decide) (fun c_23 => ?_) (fun c_23 => ?_)
            · have hf := mb_if_t c_23 hf
              exact j92_17  _ _ _ hf hP hD hS (lv_sub hl [1, 2, 3, 4, 5] rfl)
            · have hf := mb_if_f c_23 hf
              refine lv_aload_n hx hb dX12_custom_80 rfl (lv_at hl 1 rfl) ?_
              refine va_get (D := D) (ci := 12) (v := .ref (b0 15)) (C := RX12) (T := TX12) (N := 42) hx hb hts iw_Ref hown hK hP 0 rfl rfl 14 (by decide) fl_41 (fun _ h9 => h9) rfl dX12_custom_81 ?_
              refine lv_iload hx hb dX12_custom_84 (lv_at hl 0 rfl) ?_
              refine lv_iconst (v := 2) hx hb dX12_custom_86 (by decide) ?_
              refine lv_iadd hx hb dX12_custom_87 ?_
              obtain ⟨h_22, hf⟩ := mb_chk_s hf
              refine va_iald hx hb hK hP 11 0 rfl rfl h_22 dX12_custom_88 ?_
              refine lv_goto (tgt := 93) hx hb dX12_custom_89 (by decide) ?_
              exact j93_13 (P0 15 (x5_9 + (2 : Int32)).toNatClampNeg) _ _ _ hf hP hD hS (lv_sub hl [1, 2, 3, 5] rfl)
  exact lp6_3 mb_fu x3_1 x4_2 _ _ _ hf hP hD hS (lv_sub hl [2, 3, 4, 1, 0] rfl)
