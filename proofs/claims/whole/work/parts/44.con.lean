def f_Ref_earth_40_b (P0 : PI) (L0 : PL) (x1 : Int32) (K204_12 : Int64 → Int64 → Int32 → Int32 → Option (Int64)) (self_45 : Int64 → Int64 → Int32 → Int32 → Int32 → Option (Int64)) (x3_40 : Int64) (x5_41 : Int64) (x7_42 : Int32) (x8_43 : Int32) (x9_44 : Int32) : Option (Int64) := (if (P0 0 5) ≤ x9_44 then K204_12 x3_40 x5_41 x7_42 x8_43 else mb_jn (fun (y_46 : Int32) => mb_let y_46 (fun (x10_49 : Int32) => mb_jn (fun (y_50 : Int64) (y_51 : Int64) => mb_let (y_51 + y_50) (fun (x3_54 : Int64) => mb_jn (fun (y_55 : Int64) (y_56 : Int64) => mb_let (y_56 + y_55) (fun (x5_59 : Int64) => mb_chk x9_44 12 (mb_chk x7_42 12 (mb_chk x7_42 12 (mb_chk x9_44 12 (mb_jn (fun (y_64 : Int32) => mb_let y_64 (fun (x7_67 : Int32) => mb_chk x9_44 12 (mb_chk x8_43 12 (mb_chk x8_43 12 (mb_chk x9_44 12 (mb_jn (fun (y_72 : Int32) => mb_let y_72 (fun (x8_75 : Int32) => mb_let (x9_44 + (1 : Int32)) (fun (x9_76 : Int32) => self_45 x3_54 x5_59 x7_67 x8_75 x9_76))) (fun J196_73 => (if 0 ≤ (lg_cmp ((L0 8 x9_44.toNatClampNeg) * (L0 9 x8_43.toNatClampNeg)) ((L0 8 x8_43.toNatClampNeg) * (L0 9 x9_44.toNatClampNeg))) then J196_73 x8_43 else J196_73 x9_44)))))))) (fun J153_65 => (if (lg_cmp ((L0 8 x9_44.toNatClampNeg) * (L0 9 x7_42.toNatClampNeg)) ((L0 8 x7_42.toNatClampNeg) * (L0 9 x9_44.toNatClampNeg))) ≤ 0 then J153_65 x7_42 else J153_65 x9_44)))))))) (fun J109_57 => (if x10_49 = 0 then J109_57 (0 : Int64) x5_41 else mb_chk x9_44 12 (J109_57 (L0 9 x9_44.toNatClampNeg) x5_41))))) (fun J89_52 => (if x10_49 = 0 then J89_52 (0 : Int64) x3_40 else mb_chk x9_44 12 (J89_52 (L0 8 x9_44.toNatClampNeg) x3_40))))) (fun J70_47 => mb_jn (J70_47 (1 : Int32)) (fun J65_83 => (if (1 : Int32) < x1 then J65_83 else mb_chk x9_44 12 ((if (P0 7 x9_44.toNatClampNeg) = x1 then J65_83 else J70_47 (0 : Int32)))))))
def f_Ref_earth_40 (P0 : PI) (L0 : PL) (x1 : Int32) (K204_12 : Int64 → Int64 → Int32 → Int32 → Option (Int64)) : Nat → Int64 → Int64 → Int32 → Int32 → Int32 → Option (Int64)
  | 0, _, _, _, _, _ => none
  | n + 1, x3_40, x5_41, x7_42, x8_43, x9_44 => f_Ref_earth_40_b P0 L0 x1 K204_12 (f_Ref_earth_40 P0 L0 x1 K204_12 n) x3_40 x5_41 x7_42 x8_43 x9_44
def f_Ref_earth (P0 : PI) (L0 : PL) (x1 : Int32) (x2 : Int32) : Option (Int64) := mb_bd1 (f_Ref_in ((x1).toInt64) (0 : Int64) (4 : Int64)) (fun (r_1 : Int32) => (if r_1 = 0 then some (-1 : Int64) else mb_bd1 (f_Ref_in ((x2).toInt64) (0 : Int64) (1 : Int64)) (fun (r_2 : Int32) => (if r_2 = 0 then some (-1 : Int64) else mb_let (0 : Int64) (fun (x3_3 : Int64) => mb_let (0 : Int64) (fun (x5_4 : Int64) => mb_let (0 : Int32) (fun (x7_5 : Int32) => mb_let (0 : Int32) (fun (x8_6 : Int32) => mb_let (0 : Int32) (fun (x9_7 : Int32) => mb_jn (fun (x3_8 : Int64) (x5_9 : Int64) (x7_10 : Int32) (x8_11 : Int32) => (if (lg_cmp x5_9 (0 : Int64)) = 0 then some (-4 : Int64) else mb_jn (fun (x3_14 : Int64) (x5_15 : Int64) => mb_bd1 (f_Ref_common x5_15 x3_14) (fun (r_18 : Int64) => mb_let r_18 (fun (x9_19 : Int64) => mb_jn (fun (y_20 : Int64) => mb_dvl x9_19 (some (y_20 / x9_19))) (fun J312_21 => (if x2 = 0 then J312_21 x3_14 else J312_21 x5_15))))) (fun J294_16 => (if (3 : Int32) ≤ x1 then (if x1 = (3 : Int32) then mb_let (x5_9 * (1000 : Int64)) (fun (x5_33 : Int64) => J294_16 x3_8 x5_33) else mb_chk x7_10 12 (mb_chk x8_11 12 (mb_chk x8_11 12 (mb_chk x7_10 12 (mb_let (((L0 8 x7_10.toNatClampNeg) * (L0 9 x8_11.toNatClampNeg)) - ((L0 8 x8_11.toNatClampNeg) * (L0 9 x7_10.toNatClampNeg))) (fun (x3_29 : Int64) => mb_chk x7_10 12 (mb_chk x8_11 12 (mb_let ((L0 9 x7_10.toNatClampNeg) * (L0 9 x8_11.toNatClampNeg)) (fun (x5_32 : Int64) => J294_16 x3_29 x5_32))))))))) else mb_let (x3_8 * (40000 : Int64)) (fun (x3_35 : Int64) => J294_16 x3_35 x5_9))))) (fun K204_12 => f_Ref_earth_40 P0 L0 x1 K204_12 mb_fu x3_3 x5_4 x7_5 x8_6 x9_7))))))))))
def rm_Ref_earth : Room := { frames := 1, cells := 0, slots := 0, locals := 29 }
set_option maxHeartbeats 4000000 in
set_option maxRecDepth 100000 in
theorem c_Ref_earth (l : Launch) (D : va_G) (k : Nat → ClassId) (sz : Nat) (b0 : Nat → Nat) (P0 : PI) (L0 : PL) (x1 : Int32) (x2 : Int32) (z : Int64) (hf : f_Ref_earth P0 L0 x1 x2 = some z) : Met l yX12_earth wsX12_earth rm_Ref_earth (va_Pc [.ref (b0 0), .int x1, .int x2] (gw_pre D vwCl (tyL k) (wC_Ref k b0 P0 L0) sz)) (va_Ql (fun (r : Int64) (_ : Unit) => r = z) (gw_b D vwCl (tyL k) (va_A (wC_Ref k b0 P0 L0) sz) (wC_Ref k b0 P0 L0)) (va_A (wC_Ref k b0 P0 L0) sz)) 0 0 (va_A (wC_Ref k b0 P0 L0) sz) := by
  refine gm_l (cc := cX12_earth) (maxL := 11) (by decide) rfl (Nat.le_of_ble_eq_true rfl) ?_
  intro p e s m args below meth c A Q ls H locs hx hb hml hown hts hK hN hA hP hD hS hl hret
  have hown : s.vm.findClass RX12 = some m.cls := hown
  have hl : lv_has ls 11 [(0, .ref (b0 0)), (1, .int x1), (2, .int x2)] := hl
  have iw_Ref : ∀ w ∈ u_ws RX12 TX12 42, w ∈ wsX12_earth := by decide +kernel
  have fl_22 := hts (.fieldLink RX12 22 "OneMeasureModel" "chainParty" "[I") (by decide +kernel)
  have fl_25 := hts (.fieldLink RX12 25 "OneMeasureModel" "yards" "[J") (by decide +kernel)
  have fl_29 := hts (.fieldLink RX12 29 "OneMeasureModel" "angles" "[J") (by decide +kernel)
  have fl_154 := hts (.fieldLink RX12 154 "OneMeasureModel" "chainMany" "I") (by decide +kernel)
  have lc_109 := hts (.constantLong RX12 109 (1000)) (by decide +kernel)
  have lc_119 := hts (.constantLong RX12 119 (-1)) (by decide +kernel)
  have lc_135 := hts (.constantLong RX12 135 (-4)) (by decide +kernel)
  have lc_157 := hts (.constantLong RX12 157 (4)) (by decide +kernel)
  have lc_159 := hts (.constantLong RX12 159 (40000)) (by decide +kernel)
  unfold f_Ref_earth at hf
  refine lv_iload_n hx hb dX12_earth_0 rfl (lv_at hl 1 rfl) ?_
  refine lv_i2l hx hb dX12_earth_1 rfl ?_
  refine lv_lconst (v := 0) hx hb dX12_earth_2 (by decide) ?_
  refine lv_ldc2 (v := (4)) hx hb hown lc_157 dX12_earth_3 ?_
  obtain ⟨r_1, hz, hf⟩ := mb_bd1_s hf
  refine gc_i (r0 := r_1) (ws' := (wC_Ref k b0 P0 L0)) (wr := (wC_Ref k b0 P0 L0)) (va_runS (As := [.long (x1).toInt64, .long (0 : Int64), .long (4 : Int64)]) (rest := []) ⟨hx, hb, hml, hown, hts⟩ (c_Ref_in l D k H.size ((x1).toInt64) (0 : Int64) (4 : Int64) r_1 hz) (cwS 3 hts gX12_earth_X12_in rfl rfl rfl (by decide +kernel) ⟨Nat.le_of_ble_eq_true rfl, Nat.le_of_ble_eq_true rfl⟩) (gp_S hP hD hK hN [] (by decide +kernel) rfl) rfl rfl hl.1 rfl (lv_room (Nat.le_of_ble_eq_true rfl)) dX12_earth_6 ⟨Nat.zero_le _, Nat.zero_le _⟩) hP hD hS hA [] [0, 1, 2, 3, 4, 5, 6, 7, 8, 9, 10, 11, 12, 13, 14, 15, 16, 17, 18, 19, 20, 21, 22, 23, 24, 25] rfl rfl (by decide +kernel) (by decide +kernel) [0, 1, 2, 3, 4, 5, 6, 7, 8, 9, 10, 11, 12, 13, 14, 15, 16, 17, 18, 19, 20, 21, 22, 23, 24, 25] (by decide +kernel) rfl (fun H locs hP hD hS => ?_)
  clear hz
  refine lv_if_eq (tgt := 22) hx hb dX12_earth_9 (by decide) (fun c_90 => ?_) (fun c_90 => ?_)
  · have hf := mb_if_t c_90 hf
    refine lv_ldc2 (v := (-1)) hx hb hown lc_119 dX12_earth_22 ?_
    have hz := Option.some.inj hf
    subst hz
    exact hret _ _ _ _ dX12_earth_25 hP hD hS
  · have hf := mb_if_f c_90 hf
    refine lv_iload_n hx hb dX12_earth_12 rfl (lv_at hl 2 rfl) ?_
    refine lv_i2l hx hb dX12_earth_13 rfl ?_
    refine lv_lconst (v := 0) hx hb dX12_earth_14 (by decide) ?_
    refine lv_lconst (v := 1) hx hb dX12_earth_15 (by decide) ?_
    obtain ⟨r_2, hz, hf⟩ := mb_bd1_s hf
    refine gc_i (r0 := r_2) (ws' := (wC_Ref k b0 P0 L0)) (wr := (wC_Ref k b0 P0 L0)) (va_runS (As := [.long (x2).toInt64, .long (0 : Int64), .long (1 : Int64)]) (rest := []) ⟨hx, hb, hml, hown, hts⟩ (c_Ref_in l D k H.size ((x2).toInt64) (0 : Int64) (1 : Int64) r_2 hz) (cwS 3 hts gX12_earth_X12_in rfl rfl rfl (by decide +kernel) ⟨Nat.le_of_ble_eq_true rfl, Nat.le_of_ble_eq_true rfl⟩) (gp_S hP hD hK hN [] (by decide +kernel) rfl) rfl rfl hl.1 rfl (lv_room (Nat.le_of_ble_eq_true rfl)) dX12_earth_16 ⟨Nat.zero_le _, Nat.zero_le _⟩) hP hD hS hA [] [0, 1, 2, 3, 4, 5, 6, 7, 8, 9, 10, 11, 12, 13, 14, 15, 16, 17, 18, 19, 20, 21, 22, 23, 24, 25] rfl rfl (by decide +kernel) (by decide +kernel) [0, 1, 2, 3, 4, 5, 6, 7, 8, 9, 10, 11, 12, 13, 14, 15, 16, 17, 18, 19, 20, 21, 22, 23, 24, 25] (by decide +kernel) rfl (fun H locs hP hD hS => ?_)
    clear hz
    refine lv_if_ne (tgt := 26) hx hb dX12_earth_19 (by decide) (fun c_89 => ?_) (fun c_89 => ?_)
    · have hf := mb_if_f c_89 hf
      refine lv_lconst (v := 0) hx hb dX12_earth_26 (by decide) ?_
      obtain ⟨x3_3, e_, hf⟩ := mb_let_s hf
      refine mb_topl e_ ?_
      clear e_
      refine lv_lstore_n (lv' := [(3, .long x3_3), (0, .ref (b0 0)), (1, .int x1), (2, .int x2)]) hx hb dX12_earth_27 rfl hl (by decide) rfl (fun ls hl => ?_)
      refine lv_lconst (v := 0) hx hb dX12_earth_28 (by decide) ?_
      obtain ⟨x5_4, e_, hf⟩ := mb_let_s hf
      refine mb_topl e_ ?_
      clear e_
      refine lv_lstore (lv' := [(5, .long x5_4), (3, .long x3_3), (0, .ref (b0 0)), (1, .int x1), (2, .int x2)]) hx hb dX12_earth_29 hl (by decide) rfl (fun ls hl => ?_)
      refine lv_iconst (v := 0) hx hb dX12_earth_31 (by decide) ?_
      obtain ⟨x7_5, e_, hf⟩ := mb_let_s hf
      refine mb_topi e_ ?_
      clear e_
      refine lv_istore (lv' := [(7, .int x7_5), (5, .long x5_4), (3, .long x3_3), (0, .ref (b0 0)), (1, .int x1), (2, .int x2)]) hx hb dX12_earth_32 hl (by decide) rfl (fun ls hl => ?_)
      refine lv_iconst (v := 0) hx hb dX12_earth_34 (by decide) ?_
      obtain ⟨x8_6, e_, hf⟩ := mb_let_s hf
      refine mb_topi e_ ?_
      clear e_
      refine lv_istore (lv' := [(8, .int x8_6), (7, .int x7_5), (5, .long x5_4), (3, .long x3_3), (0, .ref (b0 0)), (1, .int x1), (2, .int x2)]) hx hb dX12_earth_35 hl (by decide) rfl (fun ls hl => ?_)
      refine lv_iconst (v := 0) hx hb dX12_earth_37 (by decide) ?_
      obtain ⟨x9_7, e_, hf⟩ := mb_let_s hf
      refine mb_topi e_ ?_
      clear e_
      refine lv_istore (lv' := [(9, .int x9_7), (8, .int x8_6), (7, .int x7_5), (5, .long x5_4), (3, .long x3_3), (0, .ref (b0 0)), (1, .int x1), (2, .int x2)]) hx hb dX12_earth_38 hl (by decide) rfl (fun ls hl => ?_)
      obtain ⟨K204_12, eK204_12, hf⟩ := mb_jn_s hf
      have k204_13 : ∀ (x3_8 : Int64) (x5_9 : Int64) (x7_10 : Int32) (x8_11 : Int32) (H : Heap) (locs : List Loc) (ls : Array Slot), K204_12 x3_8 x5_9 x7_10 x8_11 = some z → va_P D vwCl (wC_Ref k b0 P0 L0) H → va_D A (wC_Ref k b0 P0 L0) → va_S A s.heap H locs → lv_has ls 11 [(0, .ref (b0 0)), (1, .int x1), (2, .int x2), (3, .long x3_8), (5, .long x5_9), (7, .int x7_10), (8, .int x8_11)] → W p l e rm_Ref_earth s m args below meth c H locs 0 0 Q (F0 m 204 ls []) := by
        intro x3_8 x5_9 x7_10 x8_11 H locs ls hf hP hD hS hl
        have hf := mb_j4 eK204_12 hf
        refine lv_lload hx hb dX12_earth_204 (lv_at hl 4 rfl) ?_
        refine lv_lconst (v := 0) hx hb dX12_earth_206 (by decide) ?_
        refine W.lcmp hx hb dX12_earth_207 ?_
        refine lv_if_ne (tgt := 215) hx hb dX12_earth_208 (by decide) (fun c_37 => ?_) (fun c_37 => ?_)
        · have hf := mb_if_f c_37 hf
          refine lv_iload_n hx hb dX12_earth_215 rfl (lv_at hl 1 rfl) ?_
          refine lv_iconst (v := 3) hx hb dX12_earth_216 (by decide) ?_
          obtain ⟨J294_16, eJ294_16, hf⟩ := mb_jn_s hf
          have j294_17 : ∀ (x3_14 : Int64) (x5_15 : Int64) (H : Heap) (locs : List Loc) (ls : Array Slot), J294_16 x3_14 x5_15 = some z → va_P D vwCl (wC_Ref k b0 P0 L0) H → va_D A (wC_Ref k b0 P0 L0) → va_S A s.heap H locs → lv_has ls 11 [(2, .int x2), (3, .long x3_14), (5, .long x5_15)] → W p l e rm_Ref_earth s m args below meth c H locs 0 0 Q (F0 m 294 ls []) := by
            intro x3_14 x5_15 H locs ls hf hP hD hS hl
            have hf := mb_j2 eJ294_16 hf
            refine lv_lload hx hb dX12_earth_294 (lv_at hl 2 rfl) ?_
            refine lv_lload_n hx hb dX12_earth_296 rfl (lv_at hl 1 rfl) ?_
            obtain ⟨r_18, hz, hf⟩ := mb_bd1_s hf
            refine gc_l (r0 := r_18) (ws' := (wC_Ref k b0 P0 L0)) (wr := (wC_Ref k b0 P0 L0)) (va_runS (As := [.long x5_15, .long x3_14]) (rest := []) ⟨hx, hb, hml, hown, hts⟩ (c_Ref_common l D k H.size x5_15 x3_14 r_18 hz) (cwS 2 hts gX12_earth_X12_common rfl rfl rfl (by decide +kernel) ⟨Nat.le_of_ble_eq_true rfl, Nat.le_of_ble_eq_true rfl⟩) (gp_S hP hD hK hN [] (by decide +kernel) rfl) rfl rfl hl.1 rfl (lv_room (Nat.le_of_ble_eq_true rfl)) dX12_earth_297 ⟨Nat.zero_le _, Nat.zero_le _⟩) hP hD hS hA [] [0, 1, 2, 3, 4, 5, 6, 7, 8, 9, 10, 11, 12, 13, 14, 15, 16, 17, 18, 19, 20, 21, 22, 23, 24, 25] rfl rfl (by decide +kernel) (by decide +kernel) [0, 1, 2, 3, 4, 5, 6, 7, 8, 9, 10, 11, 12, 13, 14, 15, 16, 17, 18, 19, 20, 21, 22, 23, 24, 25] (by decide +kernel) rfl (fun H locs hP hD hS => ?_)
            clear hz
            obtain ⟨x9_19, e_, hf⟩ := mb_let_s hf
            refine mb_topl e_ ?_
            clear e_
            refine lv_lstore (lv' := [(9, .long x9_19), (2, .int x2), (3, .long x3_14), (5, .long x5_15)]) hx hb dX12_earth_300 hl (by decide) rfl (fun ls hl => ?_)
            refine lv_iload_n hx hb dX12_earth_302 rfl (lv_at hl 1 rfl) ?_
            obtain ⟨J312_21, eJ312_21, hf⟩ := mb_jn_s hf
            have j312_22 : ∀ (y_20 : Int64) (H : Heap) (locs : List Loc) (ls : Array Slot), J312_21 y_20 = some z → va_P D vwCl (wC_Ref k b0 P0 L0) H → va_D A (wC_Ref k b0 P0 L0) → va_S A s.heap H locs → lv_has ls 11 [(9, .long x9_19)] → W p l e rm_Ref_earth s m args below meth c H locs 0 0 Q (F0 m 312 ls [.long y_20]) := by
              intro y_20 H locs ls hf hP hD hS hl
              have hf := mb_j1 eJ312_21 hf
              refine lv_lload hx hb dX12_earth_312 (lv_at hl 0 rfl) ?_
              obtain ⟨h_23, hf⟩ := mb_dvl_s hf
              refine lv_ldiv hx hb dX12_earth_314 h_23 ?_
              have hz := Option.some.inj hf
              subst hz
              exact hret _ _ _ _ dX12_earth_315 hP hD hS
            refine lv_if_ne (tgt := 310) hx hb dX12_earth_303 (by decide) (fun c_24 => ?_) (fun c_24 => ?_)
            · have hf := mb_if_f c_24 hf
              refine lv_lload hx hb dX12_earth_310 (lv_at hl 3 rfl) ?_
              exact j312_22 x5_15 _ _ _ hf hP hD hS (lv_sub hl [0] rfl)
            · have hf := mb_if_t c_24 hf
              refine lv_lload_n hx hb dX12_earth_306 rfl (lv_at hl 2 rfl) ?_
              refine lv_goto (tgt := 312) hx hb dX12_earth_307 (by decide) ?_
              exact j312_22 x3_14 _ _ _ hf hP hD hS (lv_sub hl [0] rfl)
          refine lv_icmp_ge (tgt := 229) hx hb dX12_earth_217 (by decide) (fun c_36 => ?_) (fun c_36 => ?_)
          · have hf := mb_if_t c_36 hf
            refine lv_iload_n hx hb dX12_earth_229 rfl (lv_at hl 1 rfl) ?_
            refine lv_iconst (v := 3) hx hb dX12_earth_230 (by decide) ?_
            refine lv_icmp_ne (tgt := 245) hx hb dX12_earth_231 (by decide) (fun c_34 => ?_) (fun c_34 => ?_)
            · have hf := mb_if_f c_34 hf
              refine lv_aload_n hx hb dX12_earth_245 rfl (lv_at hl 0 rfl) ?_
              refine va_get (D := D) (ci := 12) (v := .ref (b0 8)) (C := RX12) (T := TX12) (N := 42) hx hb hts iw_Ref hown hK hP 0 rfl rfl 7 (by decide) fl_25 (fun _ h9 => h9) rfl dX12_earth_246 ?_
              refine lv_iload hx hb dX12_earth_249 (lv_at hl 5 rfl) ?_
              obtain ⟨h_25, hf⟩ := mb_chk_s hf
              refine va_lald hx hb hK hP 6 1 rfl rfl h_25 dX12_earth_251 ?_
              refine lv_aload_n hx hb dX12_earth_252 rfl (lv_at hl 0 rfl) ?_
              refine va_get (D := D) (ci := 12) (v := .ref (b0 9)) (C := RX12) (T := TX12) (N := 42) hx hb hts iw_Ref hown hK hP 0 rfl rfl 8 (by decide) fl_29 (fun _ h9 => h9) rfl dX12_earth_253 ?_
              refine lv_iload hx hb dX12_earth_256 (lv_at hl 6 rfl) ?_
              obtain ⟨h_26, hf⟩ := mb_chk_s hf
              refine va_lald hx hb hK hP 7 1 rfl rfl h_26 dX12_earth_258 ?_
              refine lv_lmul hx hb dX12_earth_259 ?_
              refine lv_aload_n hx hb dX12_earth_260 rfl (lv_at hl 0 rfl) ?_
              refine va_get (D := D) (ci := 12) (v := .ref (b0 8)) (C := RX12) (T := TX12) (N := 42) hx hb hts iw_Ref hown hK hP 0 rfl rfl 7 (by decide) fl_25 (fun _ h9 => h9) rfl dX12_earth_261 ?_
              refine lv_iload hx hb dX12_earth_264 (lv_at hl 6 rfl) ?_
              obtain ⟨h_27, hf⟩ := mb_chk_s hf
              refine va_lald hx hb hK hP 6 1 rfl rfl h_27 dX12_earth_266 ?_
              refine lv_aload_n hx hb dX12_earth_267 rfl (lv_at hl 0 rfl) ?_
              refine va_get (D := D) (ci := 12) (v := .ref (b0 9)) (C := RX12) (T := TX12) (N := 42) hx hb hts iw_Ref hown hK hP 0 rfl rfl 8 (by decide) fl_29 (fun _ h9 => h9) rfl dX12_earth_268 ?_
              refine lv_iload hx hb dX12_earth_271 (lv_at hl 5 rfl) ?_
              obtain ⟨h_28, hf⟩ := mb_chk_s hf
              refine va_lald hx hb hK hP 7 1 rfl rfl h_28 dX12_earth_273 ?_
              refine lv_lmul hx hb dX12_earth_274 ?_
              refine lv_lsub hx hb dX12_earth_275 ?_
              obtain ⟨x3_29, e_, hf⟩ := mb_let_s hf
              refine mb_topl e_ ?_
              clear e_
              refine lv_lstore_n (lv' := [(3, .long x3_29), (0, .ref (b0 0)), (1, .int x1), (2, .int x2), (5, .long x5_9), (7, .int x7_10), (8, .int x8_11)]) hx hb dX12_earth_276 rfl hl (by decide) rfl (fun ls hl => ?_)
              refine lv_aload_n hx hb dX12_earth_277 rfl (lv_at hl 1 rfl) ?_
              refine va_get (D := D) (ci := 12) (v := .ref (b0 9)) (C := RX12) (T := TX12) (N := 42) hx hb hts iw_Ref hown hK hP 0 rfl rfl 8 (by decide) fl_29 (fun _ h9 => h9) rfl dX12_earth_278 ?_
              refine lv_iload hx hb dX12_earth_281 (lv_at hl 5 rfl) ?_
              obtain ⟨h_30, hf⟩ := mb_chk_s hf
              refine va_lald hx hb hK hP 7 1 rfl rfl h_30 dX12_earth_283 ?_
              refine lv_aload_n hx hb dX12_earth_284 rfl (lv_at hl 1 rfl) ?_
              refine va_get (D := D) (ci := 12) (v := .ref (b0 9)) (C := RX12) (T := TX12) (N := 42) hx hb hts iw_Ref hown hK hP 0 rfl rfl 8 (by decide) fl_29 (fun _ h9 => h9) rfl dX12_earth_285 ?_
              refine lv_iload hx hb dX12_earth_288 (lv_at hl 6 rfl) ?_
              obtain ⟨h_31, hf⟩ := mb_chk_s hf
              refine va_lald hx hb hK hP 7 1 rfl rfl h_31 dX12_earth_290 ?_
              refine lv_lmul hx hb dX12_earth_291 ?_
              obtain ⟨x5_32, e_, hf⟩ := mb_let_s hf
              refine mb_topl e_ ?_
              clear e_
              refine lv_lstore (lv' := [(5, .long x5_32), (3, .long x3_29), (0, .ref (b0 0)), (1, .int x1), (2, .int x2), (7, .int x7_10), (8, .int x8_11)]) hx hb dX12_earth_292 hl (by decide) rfl (fun ls hl => ?_)
              exact j294_17 x3_29 x5_32 _ _ _ hf hP hD hS (lv_sub hl [4, 1, 0] rfl)
            · have hf := mb_if_t c_34 hf
              refine lv_lload hx hb dX12_earth_234 (lv_at hl 4 rfl) ?_
              refine lv_ldc2 (v := (1000)) hx hb hown lc_109 dX12_earth_236 ?_
              refine lv_lmul hx hb dX12_earth_239 ?_
              obtain ⟨x5_33, e_, hf⟩ := mb_let_s hf
              refine mb_topl e_ ?_
              clear e_
              refine lv_lstore (lv' := [(5, .long x5_33), (0, .ref (b0 0)), (1, .int x1), (2, .int x2), (3, .long x3_8), (7, .int x7_10), (8, .int x8_11)]) hx hb dX12_earth_240 hl (by decide) rfl (fun ls hl => ?_)
              refine lv_goto (tgt := 294) hx hb dX12_earth_242 (by decide) ?_
              exact j294_17 x3_8 x5_33 _ _ _ hf hP hD hS (lv_sub hl [3, 4, 0] rfl)
          · have hf := mb_if_f c_36 hf
            refine lv_lload_n hx hb dX12_earth_220 rfl (lv_at hl 3 rfl) ?_
            refine lv_ldc2 (v := (40000)) hx hb hown lc_159 dX12_earth_221 ?_
            refine lv_lmul hx hb dX12_earth_224 ?_
            obtain ⟨x3_35, e_, hf⟩ := mb_let_s hf
            refine mb_topl e_ ?_
            clear e_
            refine lv_lstore_n (lv' := [(3, .long x3_35), (0, .ref (b0 0)), (1, .int x1), (2, .int x2), (5, .long x5_9), (7, .int x7_10), (8, .int x8_11)]) hx hb dX12_earth_225 rfl hl (by decide) rfl (fun ls hl => ?_)
            refine lv_goto (tgt := 294) hx hb dX12_earth_226 (by decide) ?_
            exact j294_17 x3_35 x5_9 _ _ _ hf hP hD hS (lv_sub hl [3, 0, 4] rfl)
        · have hf := mb_if_t c_37 hf
          refine lv_ldc2 (v := (-4)) hx hb hown lc_135 dX12_earth_211 ?_
          have hz := Option.some.inj hf
          subst hz
          exact hret _ _ _ _ dX12_earth_214 hP hD hS
      have lp40_38 : ∀ (n : Nat) (x3_40 : Int64) (x5_41 : Int64) (x7_42 : Int32) (x8_43 : Int32) (x9_44 : Int32) (H : Heap) (locs : List Loc) (ls : Array Slot), f_Ref_earth_40 P0 L0 x1 K204_12 n x3_40 x5_41 x7_42 x8_43 x9_44 = some z → va_P D vwCl (wC_Ref k b0 P0 L0) H → va_D A (wC_Ref k b0 P0 L0) → va_S A s.heap H locs → lv_has ls 11 [(0, .ref (b0 0)), (1, .int x1), (2, .int x2), (3, .long x3_40), (5, .long x5_41), (7, .int x7_42), (8, .int x8_43), (9, .int x9_44)] → W p l e rm_Ref_earth s m args below meth c H locs 0 0 Q (F0 m 40 ls []) := by
        intro n
        induction n with
        | zero =>
          intro x3_40 x5_41 x7_42 x8_43 x9_44 H locs ls hf
          exact nomatch (show (none : Option (Int64)) = some z from hf)
        | succ n ih_39 =>
          intro x3_40 x5_41 x7_42 x8_43 x9_44 H locs ls hf hP hD hS hl
          have hf : f_Ref_earth_40_b P0 L0 x1 K204_12 (f_Ref_earth_40 P0 L0 x1 K204_12 n) x3_40 x5_41 x7_42 x8_43 x9_44 = some z := hf
          unfold f_Ref_earth_40_b at hf
          refine lv_iload hx hb dX12_earth_40 (lv_at hl 7 rfl) ?_
          refine lv_aload_n hx hb dX12_earth_42 rfl (lv_at hl 0 rfl) ?_
          refine va_get (D := D) (ci := 12) (v := .int (P0 0 5)) (C := RX12) (T := TX12) (N := 42) hx hb hts iw_Ref hown hK hP 0 rfl rfl 5 (by decide) fl_154 (fun _ h9 => h9) rfl dX12_earth_43 ?_
          refine lv_icmp_ge (tgt := 204) hx hb dX12_earth_46 (by decide) (fun c_88 => ?_) (fun c_88 => ?_)
          · have hf := mb_if_t c_88 hf
            exact k204_13 x3_40 x5_41 x7_42 x8_43 _ _ _ hf hP hD hS (lv_sub hl [0, 1, 2, 3, 4, 5, 6] rfl)
          · have hf := mb_if_f c_88 hf
            refine lv_iload_n hx hb dX12_earth_49 rfl (lv_at hl 1 rfl) ?_
            refine lv_iconst (v := 1) hx hb dX12_earth_50 (by decide) ?_
            obtain ⟨J70_47, eJ70_47, hf⟩ := mb_jn_s hf
            have j70_48 : ∀ (y_46 : Int32) (H : Heap) (locs : List Loc) (ls : Array Slot), J70_47 y_46 = some z → va_P D vwCl (wC_Ref k b0 P0 L0) H → va_D A (wC_Ref k b0 P0 L0) → va_S A s.heap H locs → lv_has ls 11 [(0, .ref (b0 0)), (1, .int x1), (2, .int x2), (3, .long x3_40), (5, .long x5_41), (7, .int x7_42), (8, .int x8_43), (9, .int x9_44)] → W p l e rm_Ref_earth s m args below meth c H locs 0 0 Q (F0 m 70 ls [.int y_46]) := by
              intro y_46 H locs ls hf hP hD hS hl
              have hf := mb_j1 eJ70_47 hf
              obtain ⟨x10_49, e_, hf⟩ := mb_let_s hf
              refine mb_topi e_ ?_
              clear e_
              refine lv_istore (lv' := [(10, .int x10_49), (0, .ref (b0 0)), (1, .int x1), (2, .int x2), (3, .long x3_40), (5, .long x5_41), (7, .int x7_42), (8, .int x8_43), (9, .int x9_44)]) hx hb dX12_earth_70 hl (by decide) rfl (fun ls hl => ?_)
              refine lv_lload_n hx hb dX12_earth_72 rfl (lv_at hl 4 rfl) ?_
              refine lv_iload hx hb dX12_earth_73 (lv_at hl 0 rfl) ?_
              obtain ⟨J89_52, eJ89_52, hf⟩ := mb_jn_s hf
              have j89_53 : ∀ (y_50 : Int64) (y_51 : Int64) (H : Heap) (locs : List Loc) (ls : Array Slot), J89_52 y_50 y_51 = some z → va_P D vwCl (wC_Ref k b0 P0 L0) H → va_D A (wC_Ref k b0 P0 L0) → va_S A s.heap H locs → lv_has ls 11 [(0, .ref (b0 0)), (1, .int x1), (2, .int x2), (5, .long x5_41), (7, .int x7_42), (8, .int x8_43), (9, .int x9_44), (10, .int x10_49)] → W p l e rm_Ref_earth s m args below meth c H locs 0 0 Q (F0 m 89 ls [.long y_50, .long y_51]) := by
                intro y_50 y_51 H locs ls hf hP hD hS hl
                have hf := mb_j2 eJ89_52 hf
                refine lv_ladd hx hb dX12_earth_89 ?_
                obtain ⟨x3_54, e_, hf⟩ := mb_let_s hf
                refine mb_topl e_ ?_
                clear e_
                refine lv_lstore_n (lv' := [(3, .long x3_54), (0, .ref (b0 0)), (1, .int x1), (2, .int x2), (5, .long x5_41), (7, .int x7_42), (8, .int x8_43), (9, .int x9_44), (10, .int x10_49)]) hx hb dX12_earth_90 rfl hl (by decide) rfl (fun ls hl => ?_)
                refine lv_lload hx hb dX12_earth_91 (lv_at hl 4 rfl) ?_
                refine lv_iload hx hb dX12_earth_93 (lv_at hl 8 rfl) ?_
                obtain ⟨J109_57, eJ109_57, hf⟩ := mb_jn_s hf
                have j109_58 : ∀ (y_55 : Int64) (y_56 : Int64) (H : Heap) (locs : List Loc) (ls : Array Slot), J109_57 y_55 y_56 = some z → va_P D vwCl (wC_Ref k b0 P0 L0) H → va_D A (wC_Ref k b0 P0 L0) → va_S A s.heap H locs → lv_has ls 11 [(0, .ref (b0 0)), (1, .int x1), (2, .int x2), (3, .long x3_54), (7, .int x7_42), (8, .int x8_43), (9, .int x9_44)] → W p l e rm_Ref_earth s m args below meth c H locs 0 0 Q (F0 m 109 ls [.long y_55, .long y_56]) := by
                  intro y_55 y_56 H locs ls hf hP hD hS hl
                  have hf := mb_j2 eJ109_57 hf
                  refine lv_ladd hx hb dX12_earth_109 ?_
                  obtain ⟨x5_59, e_, hf⟩ := mb_let_s hf
                  refine mb_topl e_ ?_
                  clear e_
                  refine lv_lstore (lv' := [(5, .long x5_59), (0, .ref (b0 0)), (1, .int x1), (2, .int x2), (3, .long x3_54), (7, .int x7_42), (8, .int x8_43), (9, .int x9_44)]) hx hb dX12_earth_110 hl (by decide) rfl (fun ls hl => ?_)
                  refine lv_aload_n hx hb dX12_earth_112 rfl (lv_at hl 1 rfl) ?_
                  refine va_get (D := D) (ci := 12) (v := .ref (b0 8)) (C := RX12) (T := TX12) (N := 42) hx hb hts iw_Ref hown hK hP 0 rfl rfl 7 (by decide) fl_25 (fun _ h9 => h9) rfl dX12_earth_113 ?_
                  refine lv_iload hx hb dX12_earth_116 (lv_at hl 7 rfl) ?_
                  obtain ⟨h_60, hf⟩ := mb_chk_s hf
                  refine va_lald hx hb hK hP 6 1 rfl rfl h_60 dX12_earth_118 ?_
                  refine lv_aload_n hx hb dX12_earth_119 rfl (lv_at hl 1 rfl) ?_
                  refine va_get (D := D) (ci := 12) (v := .ref (b0 9)) (C := RX12) (T := TX12) (N := 42) hx hb hts iw_Ref hown hK hP 0 rfl rfl 8 (by decide) fl_29 (fun _ h9 => h9) rfl dX12_earth_120 ?_
                  refine lv_iload hx hb dX12_earth_123 (lv_at hl 5 rfl) ?_
                  obtain ⟨h_61, hf⟩ := mb_chk_s hf
                  refine va_lald hx hb hK hP 7 1 rfl rfl h_61 dX12_earth_125 ?_
                  refine lv_lmul hx hb dX12_earth_126 ?_
                  refine lv_aload_n hx hb dX12_earth_127 rfl (lv_at hl 1 rfl) ?_
                  refine va_get (D := D) (ci := 12) (v := .ref (b0 8)) (C := RX12) (T := TX12) (N := 42) hx hb hts iw_Ref hown hK hP 0 rfl rfl 7 (by decide) fl_25 (fun _ h9 => h9) rfl dX12_earth_128 ?_
                  refine lv_iload hx hb dX12_earth_131 (lv_at hl 5 rfl) ?_
                  obtain ⟨h_62, hf⟩ := mb_chk_s hf
                  refine va_lald hx hb hK hP 6 1 rfl rfl h_62 dX12_earth_133 ?_
                  refine lv_aload_n hx hb dX12_earth_134 rfl (lv_at hl 1 rfl) ?_
                  refine va_get (D := D) (ci := 12) (v := .ref (b0 9)) (C := RX12) (T := TX12) (N := 42) hx hb hts iw_Ref hown hK hP 0 rfl rfl 8 (by decide) fl_29 (fun _ h9 => h9) rfl dX12_earth_135 ?_
                  refine lv_iload hx hb dX12_earth_138 (lv_at hl 7 rfl) ?_
                  obtain ⟨h_63, hf⟩ := mb_chk_s hf
                  refine va_lald hx hb hK hP 7 1 rfl rfl h_63 dX12_earth_140 ?_
                  refine lv_lmul hx hb dX12_earth_141 ?_
                  refine W.lcmp hx hb dX12_earth_142 ?_
                  obtain ⟨J153_65, eJ153_65, hf⟩ := mb_jn_s hf
                  have j153_66 : ∀ (y_64 : Int32) (H : Heap) (locs : List Loc) (ls : Array Slot), J153_65 y_64 = some z → va_P D vwCl (wC_Ref k b0 P0 L0) H → va_D A (wC_Ref k b0 P0 L0) → va_S A s.heap H locs → lv_has ls 11 [(0, .ref (b0 0)), (1, .int x1), (2, .int x2), (3, .long x3_54), (5, .long x5_59), (8, .int x8_43), (9, .int x9_44)] → W p l e rm_Ref_earth s m args below meth c H locs 0 0 Q (F0 m 153 ls [.int y_64]) := by
                    intro y_64 H locs ls hf hP hD hS hl
                    have hf := mb_j1 eJ153_65 hf
                    obtain ⟨x7_67, e_, hf⟩ := mb_let_s hf
                    refine mb_topi e_ ?_
                    clear e_
                    refine lv_istore (lv' := [(7, .int x7_67), (0, .ref (b0 0)), (1, .int x1), (2, .int x2), (3, .long x3_54), (5, .long x5_59), (8, .int x8_43), (9, .int x9_44)]) hx hb dX12_earth_153 hl (by decide) rfl (fun ls hl => ?_)
                    refine lv_aload_n hx hb dX12_earth_155 rfl (lv_at hl 1 rfl) ?_
                    refine va_get (D := D) (ci := 12) (v := .ref (b0 8)) (C := RX12) (T := TX12) (N := 42) hx hb hts iw_Ref hown hK hP 0 rfl rfl 7 (by decide) fl_25 (fun _ h9 => h9) rfl dX12_earth_156 ?_
                    refine lv_iload hx hb dX12_earth_159 (lv_at hl 7 rfl) ?_
                    obtain ⟨h_68, hf⟩ := mb_chk_s hf
                    refine va_lald hx hb hK hP 6 1 rfl rfl h_68 dX12_earth_161 ?_
                    refine lv_aload_n hx hb dX12_earth_162 rfl (lv_at hl 1 rfl) ?_
                    refine va_get (D := D) (ci := 12) (v := .ref (b0 9)) (C := RX12) (T := TX12) (N := 42) hx hb hts iw_Ref hown hK hP 0 rfl rfl 8 (by decide) fl_29 (fun _ h9 => h9) rfl dX12_earth_163 ?_
                    refine lv_iload hx hb dX12_earth_166 (lv_at hl 6 rfl) ?_
                    obtain ⟨h_69, hf⟩ := mb_chk_s hf
                    refine va_lald hx hb hK hP 7 1 rfl rfl h_69 dX12_earth_168 ?_
                    refine lv_lmul hx hb dX12_earth_169 ?_
                    refine lv_aload_n hx hb dX12_earth_170 rfl (lv_at hl 1 rfl) ?_
                    refine va_get (D := D) (ci := 12) (v := .ref (b0 8)) (C := RX12) (T := TX12) (N := 42) hx hb hts iw_Ref hown hK hP 0 rfl rfl 7 (by decide) fl_25 (fun _ h9 => h9) rfl dX12_earth_171 ?_
                    refine lv_iload hx hb dX12_earth_174 (lv_at hl 6 rfl) ?_
                    obtain ⟨h_70, hf⟩ := mb_chk_s hf
                    refine va_lald hx hb hK hP 6 1 rfl rfl h_70 dX12_earth_176 ?_
                    refine lv_aload_n hx hb dX12_earth_177 rfl (lv_at hl 1 rfl) ?_
                    refine va_get (D := D) (ci := 12) (v := .ref (b0 9)) (C := RX12) (T := TX12) (N := 42) hx hb hts iw_Ref hown hK hP 0 rfl rfl 8 (by decide) fl_29 (fun _ h9 => h9) rfl dX12_earth_178 ?_
                    refine lv_iload hx hb dX12_earth_181 (lv_at hl 7 rfl) ?_
                    obtain ⟨h_71, hf⟩ := mb_chk_s hf
                    refine va_lald hx hb hK hP 7 1 rfl rfl h_71 dX12_earth_183 ?_
                    refine lv_lmul hx hb dX12_earth_184 ?_
                    refine W.lcmp hx hb dX12_earth_185 ?_
                    obtain ⟨J196_73, eJ196_73, hf⟩ := mb_jn_s hf
                    have j196_74 : ∀ (y_72 : Int32) (H : Heap) (locs : List Loc) (ls : Array Slot), J196_73 y_72 = some z → va_P D vwCl (wC_Ref k b0 P0 L0) H → va_D A (wC_Ref k b0 P0 L0) → va_S A s.heap H locs → lv_has ls 11 [(0, .ref (b0 0)), (1, .int x1), (2, .int x2), (3, .long x3_54), (5, .long x5_59), (7, .int x7_67), (9, .int x9_44)] → W p l e rm_Ref_earth s m args below meth c H locs 0 0 Q (F0 m 196 ls [.int y_72]) := by
                      intro y_72 H locs ls hf hP hD hS hl
                      have hf := mb_j1 eJ196_73 hf
                      obtain ⟨x8_75, e_, hf⟩ := mb_let_s hf
                      refine mb_topi e_ ?_
                      clear e_
                      refine lv_istore (lv' := [(8, .int x8_75), (0, .ref (b0 0)), (1, .int x1), (2, .int x2), (3, .long x3_54), (5, .long x5_59), (7, .int x7_67), (9, .int x9_44)]) hx hb dX12_earth_196 hl (by decide) rfl (fun ls hl => ?_)
                      obtain ⟨x9_76, e_, hf⟩ := mb_let_s hf
                      refine lv_iinc (v := x9_76) (lv' := [(9, .int x9_76), (8, .int x8_75), (0, .ref (b0 0)), (1, .int x1), (2, .int x2), (3, .long x3_54), (5, .long x5_59), (7, .int x7_67)]) hx hb dX12_earth_198 hl (k := 7) rfl (by rw [e_]; rfl) (by decide) rfl (fun ls hl => ?_)
                      clear e_
                      refine lv_goto (tgt := 40) hx hb dX12_earth_201 (by decide) ?_
                      exact ih_39 x3_54 x5_59 x7_67 x8_75 x9_76 _ _ _ hf hP hD hS (lv_sub hl [2, 3, 4, 5, 6, 7, 1, 0] rfl)
                    refine lv_if_ge (tgt := 194) hx hb dX12_earth_186 (by decide) (fun c_77 => ?_) (fun c_77 => ?_)
                    · have hf := mb_if_t c_77 hf
                      refine lv_iload hx hb dX12_earth_194 (lv_at hl 6 rfl) ?_
                      exact j196_74 x8_43 _ _ _ hf hP hD hS (lv_sub hl [1, 2, 3, 4, 5, 0, 7] rfl)
                    · have hf := mb_if_f c_77 hf
                      refine lv_iload hx hb dX12_earth_189 (lv_at hl 7 rfl) ?_
                      refine lv_goto (tgt := 196) hx hb dX12_earth_191 (by decide) ?_
                      exact j196_74 x9_44 _ _ _ hf hP hD hS (lv_sub hl [1, 2, 3, 4, 5, 0, 7] rfl)
                  refine lv_if_le (tgt := 151) hx hb dX12_earth_143 (by decide) (fun c_78 => ?_) (fun c_78 => ?_)
                  · have hf := mb_if_t c_78 hf
                    refine lv_iload hx hb dX12_earth_151 (lv_at hl 5 rfl) ?_
                    exact j153_66 x7_42 _ _ _ hf hP hD hS (lv_sub hl [1, 2, 3, 4, 0, 6, 7] rfl)
                  · have hf := mb_if_f c_78 hf
                    refine lv_iload hx hb dX12_earth_146 (lv_at hl 7 rfl) ?_
                    refine lv_goto (tgt := 153) hx hb dX12_earth_148 (by decide) ?_
                    exact j153_66 x9_44 _ _ _ hf hP hD hS (lv_sub hl [1, 2, 3, 4, 0, 6, 7] rfl)
                refine lv_if_eq (tgt := 108) hx hb dX12_earth_95 (by decide) (fun c_80 => ?_) (fun c_80 => ?_)
                · have hf := mb_if_t c_80 hf
                  refine lv_lconst (v := 0) hx hb dX12_earth_108 (by decide) ?_
                  exact j109_58 (0 : Int64) x5_41 _ _ _ hf hP hD hS (lv_sub hl [1, 2, 3, 0, 5, 6, 7] rfl)
                · have hf := mb_if_f c_80 hf
                  refine lv_aload_n hx hb dX12_earth_98 rfl (lv_at hl 1 rfl) ?_
                  refine va_get (D := D) (ci := 12) (v := .ref (b0 9)) (C := RX12) (T := TX12) (N := 42) hx hb hts iw_Ref hown hK hP 0 rfl rfl 8 (by decide) fl_29 (fun _ h9 => h9) rfl dX12_earth_99 ?_
                  refine lv_iload hx hb dX12_earth_102 (lv_at hl 7 rfl) ?_
                  obtain ⟨h_79, hf⟩ := mb_chk_s hf
                  refine va_lald hx hb hK hP 7 1 rfl rfl h_79 dX12_earth_104 ?_
                  refine lv_goto (tgt := 109) hx hb dX12_earth_105 (by decide) ?_
                  exact j109_58 (L0 9 x9_44.toNatClampNeg) x5_41 _ _ _ hf hP hD hS (lv_sub hl [1, 2, 3, 0, 5, 6, 7] rfl)
              refine lv_if_eq (tgt := 88) hx hb dX12_earth_75 (by decide) (fun c_82 => ?_) (fun c_82 => ?_)
              · have hf := mb_if_t c_82 hf
                refine lv_lconst (v := 0) hx hb dX12_earth_88 (by decide) ?_
                exact j89_53 (0 : Int64) x3_40 _ _ _ hf hP hD hS (lv_sub hl [1, 2, 3, 5, 6, 7, 8, 0] rfl)
              · have hf := mb_if_f c_82 hf
                refine lv_aload_n hx hb dX12_earth_78 rfl (lv_at hl 1 rfl) ?_
                refine va_get (D := D) (ci := 12) (v := .ref (b0 8)) (C := RX12) (T := TX12) (N := 42) hx hb hts iw_Ref hown hK hP 0 rfl rfl 7 (by decide) fl_25 (fun _ h9 => h9) rfl dX12_earth_79 ?_
                refine lv_iload hx hb dX12_earth_82 (lv_at hl 8 rfl) ?_
                obtain ⟨h_81, hf⟩ := mb_chk_s hf
                refine va_lald hx hb hK hP 6 1 rfl rfl h_81 dX12_earth_84 ?_
                refine lv_goto (tgt := 89) hx hb dX12_earth_85 (by decide) ?_
                exact j89_53 (L0 8 x9_44.toNatClampNeg) x3_40 _ _ _ hf hP hD hS (lv_sub hl [1, 2, 3, 5, 6, 7, 8, 0] rfl)
            obtain ⟨J65_83, eJ65_83, hf⟩ := mb_jn_s hf
            have j65_84 : ∀ (H : Heap) (locs : List Loc) (ls : Array Slot), J65_83 = some z → va_P D vwCl (wC_Ref k b0 P0 L0) H → va_D A (wC_Ref k b0 P0 L0) → va_S A s.heap H locs → lv_has ls 11 [(0, .ref (b0 0)), (1, .int x1), (2, .int x2), (3, .long x3_40), (5, .long x5_41), (7, .int x7_42), (8, .int x8_43), (9, .int x9_44)] → W p l e rm_Ref_earth s m args below meth c H locs 0 0 Q (F0 m 65 ls []) := by
              intro  H locs ls hf hP hD hS hl
              have hf := mb_j0 eJ65_83 hf
              refine lv_iconst (v := 1) hx hb dX12_earth_65 (by decide) ?_
              refine lv_goto (tgt := 70) hx hb dX12_earth_66 (by decide) ?_
              exact j70_48 (1 : Int32) _ _ _ hf hP hD hS (lv_sub hl [0, 1, 2, 3, 4, 5, 6, 7] rfl)
            refine lv_icmp_gt (tgt := 65) hx hb dX12_earth_51 (by decide) (fun c_87 => ?_) (fun c_87 => ?_)
            · have hf := mb_if_t c_87 hf
              exact j65_84  _ _ _ hf hP hD hS (lv_sub hl [0, 1, 2, 3, 4, 5, 6, 7] rfl)
            · have hf := mb_if_f c_87 hf
              refine lv_aload_n hx hb dX12_earth_54 rfl (lv_at hl 0 rfl) ?_
              refine va_get (D := D) (ci := 12) (v := .ref (b0 7)) (C := RX12) (T := TX12) (N := 42) hx hb hts iw_Ref hown hK hP 0 rfl rfl 6 (by decide) fl_22 (fun _ h9 => h9) rfl dX12_earth_55 ?_
              refine lv_iload hx hb dX12_earth_58 (lv_at hl 7 rfl) ?_
              obtain ⟨h_85, hf⟩ := mb_chk_s hf
              refine va_iald hx hb hK hP 5 0 rfl rfl h_85 dX12_earth_60 ?_
              refine lv_iload_n hx hb dX12_earth_61 rfl (lv_at hl 1 rfl) ?_
              refine lv_icmp_ne (tgt := 69) hx hb dX12_earth_62 (by decide) (fun c_86 => ?_) (fun c_86 => ?_)
              · have hf := mb_if_f c_86 hf
                refine lv_iconst (v := 0) hx hb dX12_earth_69 (by decide) ?_
                exact j70_48 (0 : Int32) _ _ _ hf hP hD hS (lv_sub hl [0, 1, 2, 3, 4, 5, 6, 7] rfl)
              · have hf := mb_if_t c_86 hf
                exact j65_84  _ _ _ hf hP hD hS (lv_sub hl [0, 1, 2, 3, 4, 5, 6, 7] rfl)
      exact lp40_38 mb_fu x3_3 x5_4 x7_5 x8_6 x9_7 _ _ _ hf hP hD hS (lv_sub hl [5, 6, 7, 4, 3, 2, 1, 0] rfl)
    · have hf := mb_if_t c_89 hf
      refine lv_ldc2 (v := (-1)) hx hb hown lc_119 dX12_earth_22 ?_
      have hz := Option.some.inj hf
      subst hz
      exact hret _ _ _ _ dX12_earth_25 hP hD hS
def f_Ref_trial (P0 : PI) (x1 : Int32) (x2 : Int32) (x3 : Int32) (x4 : Int32) (x5 : Int32) : Option (Int32 × PI) := mb_bd1 (f_Ref_isUnit P0 x1) (fun (r_1 : Int32) => (if r_1 = 0 then some ((-1 : Int32), P0) else mb_bd1 (f_Ref_isUnit P0 x2) (fun (r_2 : Int32) => (if r_2 = 0 then some ((-1 : Int32), P0) else mb_bd1 (f_Ref_in ((x3).toInt64) (1 : Int64) (10000 : Int64)) (fun (r_3 : Int32) => (if r_3 = 0 then some ((-1 : Int32), P0) else mb_bd1 (f_Ref_in ((x4).toInt64) (1 : Int64) (10000 : Int64)) (fun (r_4 : Int32) => (if r_4 = 0 then some ((-1 : Int32), P0) else mb_bd1 (f_Ref_in ((x5).toInt64) (0 : Int64) (1000000 : Int64)) (fun (r_5 : Int32) => (if r_5 = 0 then some ((-1 : Int32), P0) else (if x1 = x2 then some ((-2 : Int32), P0) else mb_chk x1 16 (mb_chk x2 16 ((if (P0 2 x1.toNatClampNeg) = (P0 2 x2.toNatClampNeg) then (if (P0 0 9) = (30 : Int32) then some ((-3 : Int32), P0) else mb_let ((5 : Int32) * (P0 0 9)) (fun (x6_8 : Int32) => mb_chk x6_8 150 (mb_let (mb_u2 P0 11 x6_8.toNatClampNeg x1) (fun (P0_9 : PI) => mb_chk (x6_8 + (1 : Int32)) 150 (mb_let (mb_u2 P0_9 11 (x6_8 + (1 : Int32)).toNatClampNeg x2) (fun (P0_11 : PI) => mb_chk (x6_8 + (2 : Int32)) 150 (mb_let (mb_u2 P0_11 11 (x6_8 + (2 : Int32)).toNatClampNeg x3) (fun (P0_13 : PI) => mb_chk (x6_8 + (3 : Int32)) 150 (mb_let (mb_u2 P0_13 11 (x6_8 + (3 : Int32)).toNatClampNeg x4) (fun (P0_15 : PI) => mb_chk (x6_8 + (4 : Int32)) 150 (mb_let (mb_u2 P0_15 11 (x6_8 + (4 : Int32)).toNatClampNeg x5) (fun (P0_17 : PI) => mb_let (mb_uo P0_17 9 ((P0_17 0 9) + (1 : Int32))) (fun (P0_19 : PI) => some ((P0_19 0 9), P0_19)))))))))))))) else some ((-2 : Int32), P0)))))))))))))))
def rm_Ref_trial : Room := { frames := 2, cells := 0, slots := 0, locals := 46 }
set_option maxHeartbeats 4000000 in
set_option maxRecDepth 100000 in
theorem c_Ref_trial (l : Launch) (D : va_G) (k : Nat → ClassId) (sz : Nat) (b0 : Nat → Nat) (P0 : PI) (L0 : PL) (x1 : Int32) (x2 : Int32) (x3 : Int32) (x4 : Int32) (x5 : Int32) (z : Int32 × PI) (hf : f_Ref_trial P0 x1 x2 x3 x4 x5 = some z) : Met l yX12_trial wsX12_trial rm_Ref_trial (va_Pc [.ref (b0 0), .int x1, .int x2, .int x3, .int x4, .int x5] (gw_pre D vwCl (tyL k) (wC_Ref k b0 P0 L0) sz)) (va_Qi (fun (r : Int32) (_ : Unit) => r = z.1) (gw_b D vwCl (tyL k) (va_A (wC_Ref k b0 P0 L0) sz) (wC_Ref k b0 z.2 L0)) (va_A (wC_Ref k b0 P0 L0) sz)) 0 0 (va_A (wC_Ref k b0 P0 L0) sz) := by
  refine gm_i (cc := cX12_trial) (maxL := 7) (by decide) rfl (Nat.le_of_ble_eq_true rfl) ?_
  intro p e s m args below meth c A Q ls H locs hx hb hml hown hts hK hN hA hP hD hS hl hret
  have hown : s.vm.findClass RX12 = some m.cls := hown
  have hl : lv_has ls 7 [(0, .ref (b0 0)), (1, .int x1), (2, .int x2), (3, .int x3), (4, .int x4), (5, .int x5)] := hl
  have iw_Ref : ∀ w ∈ u_ws RX12 TX12 42, w ∈ wsX12_trial := by decide +kernel
  have fl_7 := hts (.fieldLink RX12 7 "OneMeasureModel" "sort" "[I") (by decide +kernel)
  have fl_32 := hts (.fieldLink RX12 32 "OneMeasureModel" "trials" "[I") (by decide +kernel)
  have fl_165 := hts (.fieldLink RX12 165 "OneMeasureModel" "trialMany" "I") (by decide +kernel)
  have lc_97 := hts (.constantLong RX12 97 (1000000)) (by decide +kernel)
  have lc_105 := hts (.constantLong RX12 105 (10000)) (by decide +kernel)
  unfold f_Ref_trial at hf
  refine lv_aload_n hx hb dX12_trial_0 rfl (lv_at hl 0 rfl) ?_
  refine lv_iload_n hx hb dX12_trial_1 rfl (lv_at hl 1 rfl) ?_
  obtain ⟨r_1, hz, hf⟩ := mb_bd1_s hf
  refine gc_i (r0 := r_1) (ws' := (wC_Ref k b0 P0 L0)) (wr := ([] : va_W)) (va_runV (As := [.int x1]) (rest := []) ⟨hx, hb, hml, hown, hts⟩ (c_Ref_isUnit l D k H.size b0 P0 L0 x1 r_1 hz) (cwV 1 hts gX12_trial_X12_isUnit rfl rfl rfl (by decide +kernel) ⟨Nat.le_of_ble_eq_true rfl, Nat.le_of_ble_eq_true rfl⟩) (gp_V (ci := 12) (q0 := 0) (q := (RX12, TX12, 42)) hP hD hK hN [0, 1, 2, 3, 4, 5, 6, 7, 8, 9, 10, 11, 12, 13, 14, 15, 16, 17, 18, 19, 20, 21, 22, 23, 24, 25] (by decide +kernel) rfl rfl rfl) rfl rfl hl.1 rfl (lv_room (Nat.le_of_ble_eq_true rfl)) dX12_trial_2 ⟨Nat.zero_le _, Nat.zero_le _⟩) hP hD hS hA [0, 1, 2, 3, 4, 5, 6, 7, 8, 9, 10, 11, 12, 13, 14, 15, 16, 17, 18, 19, 20, 21, 22, 23, 24, 25] [] rfl rfl (by decide +kernel) (by decide +kernel) [0, 1, 2, 3, 4, 5, 6, 7, 8, 9, 10, 11, 12, 13, 14, 15, 16, 17, 18, 19, 20, 21, 22, 23, 24, 25] (by decide +kernel) rfl (fun H locs hP hD hS => ?_)
  clear hz
  refine lv_if_eq (tgt := 54) hx hb dX12_trial_5 (by decide) (fun c_27 => ?_) (fun c_27 => ?_)
  · have hf := mb_if_t c_27 hf
    refine lv_iconst (v := (-1)) hx hb dX12_trial_54 (by decide) ?_
    have hz := Option.some.inj hf
    subst hz
    exact hret _ _ _ _ dX12_trial_55 hP hD hS
  · have hf := mb_if_f c_27 hf
    refine lv_aload_n hx hb dX12_trial_8 rfl (lv_at hl 0 rfl) ?_
    refine lv_iload_n hx hb dX12_trial_9 rfl (lv_at hl 2 rfl) ?_
    obtain ⟨r_2, hz, hf⟩ := mb_bd1_s hf
    refine gc_i (r0 := r_2) (ws' := (wC_Ref k b0 P0 L0)) (wr := ([] : va_W)) (va_runV (As := [.int x2]) (rest := []) ⟨hx, hb, hml, hown, hts⟩ (c_Ref_isUnit l D k H.size b0 P0 L0 x2 r_2 hz) (cwV 1 hts gX12_trial_X12_isUnit rfl rfl rfl (by decide +kernel) ⟨Nat.le_of_ble_eq_true rfl, Nat.le_of_ble_eq_true rfl⟩) (gp_V (ci := 12) (q0 := 0) (q := (RX12, TX12, 42)) hP hD hK hN [0, 1, 2, 3, 4, 5, 6, 7, 8, 9, 10, 11, 12, 13, 14, 15, 16, 17, 18, 19, 20, 21, 22, 23, 24, 25] (by decide +kernel) rfl rfl rfl) rfl rfl hl.1 rfl (lv_room (Nat.le_of_ble_eq_true rfl)) dX12_trial_10 ⟨Nat.zero_le _, Nat.zero_le _⟩) hP hD hS hA [0, 1, 2, 3, 4, 5, 6, 7, 8, 9, 10, 11, 12, 13, 14, 15, 16, 17, 18, 19, 20, 21, 22, 23, 24, 25] [] rfl rfl (by decide +kernel) (by decide +kernel) [0, 1, 2, 3, 4, 5, 6, 7, 8, 9, 10, 11, 12, 13, 14, 15, 16, 17, 18, 19, 20, 21, 22, 23, 24, 25] (by decide +kernel) rfl (fun H locs hP hD hS => ?_)
    clear hz
    refine lv_if_eq (tgt := 54) hx hb dX12_trial_13 (by decide) (fun c_26 => ?_) (fun c_26 => ?_)
    · have hf := mb_if_t c_26 hf
      refine lv_iconst (v := (-1)) hx hb dX12_trial_54 (by decide) ?_
      have hz := Option.some.inj hf
      subst hz
      exact hret _ _ _ _ dX12_trial_55 hP hD hS
    · have hf := mb_if_f c_26 hf
      refine lv_iload_n hx hb dX12_trial_16 rfl (lv_at hl 3 rfl) ?_
      refine lv_i2l hx hb dX12_trial_17 rfl ?_
      refine lv_lconst (v := 1) hx hb dX12_trial_18 (by decide) ?_
      refine lv_ldc2 (v := (10000)) hx hb hown lc_105 dX12_trial_19 ?_
      obtain ⟨r_3, hz, hf⟩ := mb_bd1_s hf
      refine gc_i (r0 := r_3) (ws' := (wC_Ref k b0 P0 L0)) (wr := (wC_Ref k b0 P0 L0)) (va_runS (As := [.long (x3).toInt64, .long (1 : Int64), .long (10000 : Int64)]) (rest := []) ⟨hx, hb, hml, hown, hts⟩ (c_Ref_in l D k H.size ((x3).toInt64) (1 : Int64) (10000 : Int64) r_3 hz) (cwS 3 hts gX12_trial_X12_in rfl rfl rfl (by decide +kernel) ⟨Nat.le_of_ble_eq_true rfl, Nat.le_of_ble_eq_true rfl⟩) (gp_S hP hD hK hN [] (by decide +kernel) rfl) rfl rfl hl.1 rfl (lv_room (Nat.le_of_ble_eq_true rfl)) dX12_trial_22 ⟨Nat.zero_le _, Nat.zero_le _⟩) hP hD hS hA [] [0, 1, 2, 3, 4, 5, 6, 7, 8, 9, 10, 11, 12, 13, 14, 15, 16, 17, 18, 19, 20, 21, 22, 23, 24, 25] rfl rfl (by decide +kernel) (by decide +kernel) [0, 1, 2, 3, 4, 5, 6, 7, 8, 9, 10, 11, 12, 13, 14, 15, 16, 17, 18, 19, 20, 21, 22, 23, 24, 25] (by decide +kernel) rfl (fun H locs hP hD hS => ?_)
      clear hz
      refine lv_if_eq (tgt := 54) hx hb dX12_trial_25 (by decide) (fun c_25 => ?_) (fun c_25 => ?_)
      · have hf := mb_if_t c_25 hf
        refine lv_iconst (v := (-1)) hx hb dX12_trial_54 (by decide) ?_
        have hz := Option.some.inj hf
        subst hz
        exact hret _ _ _ _ dX12_trial_55 hP hD hS
      · have hf := mb_if_f c_25 hf
        refine lv_iload hx hb dX12_trial_28 (lv_at hl 4 rfl) ?_
        refine lv_i2l hx hb dX12_trial_30 rfl ?_
        refine lv_lconst (v := 1) hx hb dX12_trial_31 (by decide) ?_
        refine lv_ldc2 (v := (10000)) hx hb hown lc_105 dX12_trial_32 ?_
        obtain ⟨r_4, hz, hf⟩ := mb_bd1_s hf
        refine gc_i (r0 := r_4) (ws' := (wC_Ref k b0 P0 L0)) (wr := (wC_Ref k b0 P0 L0)) (va_runS (As := [.long (x4).toInt64, .long (1 : Int64), .long (10000 : Int64)]) (rest := []) ⟨hx, hb, hml, hown, hts⟩ (c_Ref_in l D k H.size ((x4).toInt64) (1 : Int64) (10000 : Int64) r_4 hz) (cwS 3 hts gX12_trial_X12_in rfl rfl rfl (by decide +kernel) ⟨Nat.le_of_ble_eq_true rfl, Nat.le_of_ble_eq_true rfl⟩) (gp_S hP hD hK hN [] (by decide +kernel) rfl) rfl rfl hl.1 rfl (lv_room (Nat.le_of_ble_eq_true rfl)) dX12_trial_35 ⟨Nat.zero_le _, Nat.zero_le _⟩) hP hD hS hA [] [0, 1, 2, 3, 4, 5, 6, 7, 8, 9, 10, 11, 12, 13, 14, 15, 16, 17, 18, 19, 20, 21, 22, 23, 24, 25] rfl rfl (by decide +kernel) (by decide +kernel) [0, 1, 2, 3, 4, 5, 6, 7, 8, 9, 10, 11, 12, 13, 14, 15, 16, 17, 18, 19, 20, 21, 22, 23, 24, 25] (by decide +kernel) rfl (fun H locs hP hD hS => ?_)
        clear hz
        refine lv_if_eq (tgt := 54) hx hb dX12_trial_38 (by decide) (fun c_24 => ?_) (fun c_24 => ?_)
        · have hf := mb_if_t c_24 hf
          refine lv_iconst (v := (-1)) hx hb dX12_trial_54 (by decide) ?_
          have hz := Option.some.inj hf
          subst hz
          exact hret _ _ _ _ dX12_trial_55 hP hD hS
        · have hf := mb_if_f c_24 hf
          refine lv_iload hx hb dX12_trial_41 (lv_at hl 5 rfl) ?_
          refine lv_i2l hx hb dX12_trial_43 rfl ?_
          refine lv_lconst (v := 0) hx hb dX12_trial_44 (by decide) ?_
          refine lv_ldc2 (v := (1000000)) hx hb hown lc_97 dX12_trial_45 ?_
          obtain ⟨r_5, hz, hf⟩ := mb_bd1_s hf
          refine gc_i (r0 := r_5) (ws' := (wC_Ref k b0 P0 L0)) (wr := (wC_Ref k b0 P0 L0)) (va_runS (As := [.long (x5).toInt64, .long (0 : Int64), .long (1000000 : Int64)]) (rest := []) ⟨hx, hb, hml, hown, hts⟩ (c_Ref_in l D k H.size ((x5).toInt64) (0 : Int64) (1000000 : Int64) r_5 hz) (cwS 3 hts gX12_trial_X12_in rfl rfl rfl (by decide +kernel) ⟨Nat.le_of_ble_eq_true rfl, Nat.le_of_ble_eq_true rfl⟩) (gp_S hP hD hK hN [] (by decide +kernel) rfl) rfl rfl hl.1 rfl (lv_room (Nat.le_of_ble_eq_true rfl)) dX12_trial_48 ⟨Nat.zero_le _, Nat.zero_le _⟩) hP hD hS hA [] [0, 1, 2, 3, 4, 5, 6, 7, 8, 9, 10, 11, 12, 13, 14, 15, 16, 17, 18, 19, 20, 21, 22, 23, 24, 25] rfl rfl (by decide +kernel) (by decide +kernel) [0, 1, 2, 3, 4, 5, 6, 7, 8, 9, 10, 11, 12, 13, 14, 15, 16, 17, 18, 19, 20, 21, 22, 23, 24, 25] (by decide +kernel) rfl (fun H locs hP hD hS => ?_)
          clear hz
          refine lv_if_ne (tgt := 56) hx hb dX12_trial_51 (by decide) (fun c_23 => ?_) (fun c_23 => ?_)
          · have hf := mb_if_f c_23 hf
            refine lv_iload_n hx hb dX12_trial_56 rfl (lv_at hl 1 rfl) ?_
            refine lv_iload_n hx hb dX12_trial_57 rfl (lv_at hl 2 rfl) ?_
            refine lv_icmp_eq (tgt := 76) hx hb dX12_trial_58 (by decide) (fun c_22 => ?_) (fun c_22 => ?_)
            · have hf := mb_if_t c_22 hf
              refine lv_bipush (v := (-2)) hx hb dX12_trial_76 (by decide) ?_
              have hz := Option.some.inj hf
              subst hz
              exact hret _ _ _ _ dX12_trial_78 hP hD hS
            · have hf := mb_if_f c_22 hf
              refine lv_aload_n hx hb dX12_trial_61 rfl (lv_at hl 0 rfl) ?_
              refine va_get (D := D) (ci := 12) (v := .ref (b0 2)) (C := RX12) (T := TX12) (N := 42) hx hb hts iw_Ref hown hK hP 0 rfl rfl 1 (by decide) fl_7 (fun _ h9 => h9) rfl dX12_trial_62 ?_
              refine lv_iload_n hx hb dX12_trial_65 rfl (lv_at hl 1 rfl) ?_
              obtain ⟨h_6, hf⟩ := mb_chk_s hf
              refine va_iald hx hb hK hP 1 0 rfl rfl h_6 dX12_trial_66 ?_
              refine lv_aload_n hx hb dX12_trial_67 rfl (lv_at hl 0 rfl) ?_
              refine va_get (D := D) (ci := 12) (v := .ref (b0 2)) (C := RX12) (T := TX12) (N := 42) hx hb hts iw_Ref hown hK hP 0 rfl rfl 1 (by decide) fl_7 (fun _ h9 => h9) rfl dX12_trial_68 ?_
              refine lv_iload_n hx hb dX12_trial_71 rfl (lv_at hl 2 rfl) ?_
              obtain ⟨h_7, hf⟩ := mb_chk_s hf
              refine va_iald hx hb hK hP 1 0 rfl rfl h_7 dX12_trial_72 ?_
              refine lv_icmp_eq (tgt := 79) hx hb dX12_trial_73 (by decide) (fun c_21 => ?_) (fun c_21 => ?_)
              · have hf := mb_if_t c_21 hf
                refine lv_aload_n hx hb dX12_trial_79 rfl (lv_at hl 0 rfl) ?_
                refine va_get (D := D) (ci := 12) (v := .int (P0 0 9)) (C := RX12) (T := TX12) (N := 42) hx hb hts iw_Ref hown hK hP 0 rfl rfl 9 (by decide) fl_165 (fun _ h9 => h9) rfl dX12_trial_80 ?_
                refine lv_bipush (v := 30) hx hb dX12_trial_83 (by decide) ?_
                refine lv_icmp_ne (tgt := 91) hx hb dX12_trial_85 (by decide) (fun c_20 => ?_) (fun c_20 => ?_)
                · have hf := mb_if_f c_20 hf
                  refine lv_iconst (v := 5) hx hb dX12_trial_91 (by decide) ?_
                  refine lv_aload_n hx hb dX12_trial_92 rfl (lv_at hl 0 rfl) ?_
                  refine va_get (D := D) (ci := 12) (v := .int (P0 0 9)) (C := RX12) (T := TX12) (N := 42) hx hb hts iw_Ref hown hK hP 0 rfl rfl 9 (by decide) fl_165 (fun _ h9 => h9) rfl dX12_trial_93 ?_
                  refine lv_imul hx hb dX12_trial_96 ?_
                  obtain ⟨x6_8, e_, hf⟩ := mb_let_s hf
                  refine mb_topi e_ ?_
                  clear e_
                  refine lv_istore (lv' := [(6, .int x6_8), (0, .ref (b0 0)), (1, .int x1), (2, .int x2), (3, .int x3), (4, .int x4), (5, .int x5)]) hx hb dX12_trial_97 hl (by decide) rfl (fun ls hl => ?_)
                  refine lv_aload_n hx hb dX12_trial_99 rfl (lv_at hl 1 rfl) ?_
                  refine va_get (D := D) (ci := 12) (v := .ref (b0 11)) (C := RX12) (T := TX12) (N := 42) hx hb hts iw_Ref hown hK hP 0 rfl rfl 10 (by decide) fl_32 (fun _ h9 => h9) rfl dX12_trial_100 ?_
                  refine lv_iload hx hb dX12_trial_103 (lv_at hl 0 rfl) ?_
                  refine lv_iload_n hx hb dX12_trial_105 rfl (lv_at hl 2 rfl) ?_
                  obtain ⟨h_10, hf⟩ := mb_chk_s hf
                  obtain ⟨P0_9, e_, hf⟩ := mb_let_s hf
                  refine va_iast hx hb hK hP hD hS 8 0 rfl rfl h_10 dX12_trial_106 (fun H locs hP hD hS => ?_)
                  have hP : va_P D vwCl (wC_Ref k b0 P0_9 L0) H := by rw [e_]; exact hP
                  have hD : va_D A (wC_Ref k b0 P0_9 L0) := by rw [e_]; exact hD
                  clear e_
                  refine lv_aload_n hx hb dX12_trial_107 rfl (lv_at hl 1 rfl) ?_
                  refine va_get (D := D) (ci := 12) (v := .ref (b0 11)) (C := RX12) (T := TX12) (N := 42) hx hb hts iw_Ref hown hK hP 0 rfl rfl 10 (by decide) fl_32 (fun _ h9 => h9) rfl dX12_trial_108 ?_
                  refine lv_iload hx hb dX12_trial_111 (lv_at hl 0 rfl) ?_
                  refine lv_iconst (v := 1) hx hb dX12_trial_113 (by decide) ?_
                  refine lv_iadd hx hb dX12_trial_114 ?_
                  refine lv_iload_n hx hb dX12_trial_115 rfl (lv_at hl 3 rfl) ?_
                  obtain ⟨h_12, hf⟩ := mb_chk_s hf
                  obtain ⟨P0_11, e_, hf⟩ := mb_let_s hf
                  refine va_iast hx hb hK hP hD hS 8 0 rfl rfl h_12 dX12_trial_116 (fun H locs hP hD hS => ?_)
                  have hP : va_P D vwCl (wC_Ref k b0 P0_11 L0) H := by rw [e_]; exact hP
                  have hD : va_D A (wC_Ref k b0 P0_11 L0) := by rw [e_]; exact hD
                  clear e_
                  refine lv_aload_n hx hb dX12_trial_117 rfl (lv_at hl 1 rfl) ?_
                  refine va_get (D := D) (ci := 12) (v := .ref (b0 11)) (C := RX12) (T := TX12) (N := 42) hx hb hts iw_Ref hown hK hP 0 rfl rfl 10 (by decide) fl_32 (fun _ h9 => h9) rfl dX12_trial_118 ?_
                  refine lv_iload hx hb dX12_trial_121 (lv_at hl 0 rfl) ?_
                  refine lv_iconst (v := 2) hx hb dX12_trial_123 (by decide) ?_
                  refine lv_iadd hx hb dX12_trial_124 ?_
                  refine lv_iload_n hx hb dX12_trial_125 rfl (lv_at hl 4 rfl) ?_
                  obtain ⟨h_14, hf⟩ := mb_chk_s hf
                  obtain ⟨P0_13, e_, hf⟩ := mb_let_s hf
                  refine va_iast hx hb hK hP hD hS 8 0 rfl rfl h_14 dX12_trial_126 (fun H locs hP hD hS => ?_)
                  have hP : va_P D vwCl (wC_Ref k b0 P0_13 L0) H := by rw [e_]; exact hP
                  have hD : va_D A (wC_Ref k b0 P0_13 L0) := by rw [e_]; exact hD
                  clear e_
                  refine lv_aload_n hx hb dX12_trial_127 rfl (lv_at hl 1 rfl) ?_
                  refine va_get (D := D) (ci := 12) (v := .ref (b0 11)) (C := RX12) (T := TX12) (N := 42) hx hb hts iw_Ref hown hK hP 0 rfl rfl 10 (by decide) fl_32 (fun _ h9 => h9) rfl dX12_trial_128 ?_
                  refine lv_iload hx hb dX12_trial_131 (lv_at hl 0 rfl) ?_
                  refine lv_iconst (v := 3) hx hb dX12_trial_133 (by decide) ?_
                  refine lv_iadd hx hb dX12_trial_134 ?_
                  refine lv_iload hx hb dX12_trial_135 (lv_at hl 5 rfl) ?_
                  obtain ⟨h_16, hf⟩ := mb_chk_s hf
                  obtain ⟨P0_15, e_, hf⟩ := mb_let_s hf
                  refine va_iast hx hb hK hP hD hS 8 0 rfl rfl h_16 dX12_trial_137 (fun H locs hP hD hS => ?_)
                  have hP : va_P D vwCl (wC_Ref k b0 P0_15 L0) H := by rw [e_]; exact hP
                  have hD : va_D A (wC_Ref k b0 P0_15 L0) := by rw [e_]; exact hD
                  clear e_
                  refine lv_aload_n hx hb dX12_trial_138 rfl (lv_at hl 1 rfl) ?_
                  refine va_get (D := D) (ci := 12) (v := .ref (b0 11)) (C := RX12) (T := TX12) (N := 42) hx hb hts iw_Ref hown hK hP 0 rfl rfl 10 (by decide) fl_32 (fun _ h9 => h9) rfl dX12_trial_139 ?_
                  refine lv_iload hx hb dX12_trial_142 (lv_at hl 0 rfl) ?_
                  refine lv_iconst (v := 4) hx hb dX12_trial_144 (by decide) ?_
                  refine lv_iadd hx hb dX12_trial_145 ?_
                  refine lv_iload hx hb dX12_trial_146 (lv_at hl 6 rfl) ?_
                  obtain ⟨h_18, hf⟩ := mb_chk_s hf
                  obtain ⟨P0_17, e_, hf⟩ := mb_let_s hf
                  refine va_iast hx hb hK hP hD hS 8 0 rfl rfl h_18 dX12_trial_148 (fun H locs hP hD hS => ?_)
                  have hP : va_P D vwCl (wC_Ref k b0 P0_17 L0) H := by rw [e_]; exact hP
                  have hD : va_D A (wC_Ref k b0 P0_17 L0) := by rw [e_]; exact hD
                  clear e_
                  refine lv_aload_n hx hb dX12_trial_149 rfl (lv_at hl 1 rfl) ?_
                  refine lv_dup hx hb dX12_trial_150 rfl ?_
                  refine va_get (D := D) (ci := 12) (v := .int (P0_17 0 9)) (C := RX12) (T := TX12) (N := 42) hx hb hts iw_Ref hown hK hP 0 rfl rfl 9 (by decide) fl_165 (fun _ h9 => h9) rfl dX12_trial_151 ?_
                  refine lv_iconst (v := 1) hx hb dX12_trial_154 (by decide) ?_
                  refine lv_iadd hx hb dX12_trial_155 ?_
                  obtain ⟨P0_19, e_, hf⟩ := mb_let_s hf
                  refine va_put (D := D) (ci := 12) (v := .int ((P0_17 0 9) + (1 : Int32))) (ty := .int) (C := RX12) (T := TX12) (N := 42) hx hb hts iw_Ref tyX12 tyX12_ok nmX12 hown hK hP hD hS 0 rfl rfl 9 (by decide) fl_165 (fun _ h9 => h9) rfl (by decide +kernel) rfl rfl (Nat.le_of_ble_eq_true rfl) dX12_trial_156 (fun H locs hP hD hS => ?_)
                  have hP : va_P D vwCl (wC_Ref k b0 P0_19 L0) H := by rw [e_]; exact hP
                  have hD : va_D A (wC_Ref k b0 P0_19 L0) := by rw [e_]; exact hD
                  clear e_
                  refine lv_aload_n hx hb dX12_trial_159 rfl (lv_at hl 1 rfl) ?_
                  refine va_get (D := D) (ci := 12) (v := .int (P0_19 0 9)) (C := RX12) (T := TX12) (N := 42) hx hb hts iw_Ref hown hK hP 0 rfl rfl 9 (by decide) fl_165 (fun _ h9 => h9) rfl dX12_trial_160 ?_
                  have hz := Option.some.inj hf
                  subst hz
                  exact hret _ _ _ _ dX12_trial_163 hP hD hS
                · have hf := mb_if_t c_20 hf
                  refine lv_bipush (v := (-3)) hx hb dX12_trial_88 (by decide) ?_
                  have hz := Option.some.inj hf
                  subst hz
                  exact hret _ _ _ _ dX12_trial_90 hP hD hS
              · have hf := mb_if_f c_21 hf
                refine lv_bipush (v := (-2)) hx hb dX12_trial_76 (by decide) ?_
                have hz := Option.some.inj hf
                subst hz
                exact hret _ _ _ _ dX12_trial_78 hP hD hS
          · have hf := mb_if_t c_23 hf
            refine lv_iconst (v := (-1)) hx hb dX12_trial_54 (by decide) ?_
            have hz := Option.some.inj hf
            subst hz
            exact hret _ _ _ _ dX12_trial_55 hP hD hS
