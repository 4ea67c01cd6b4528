def f_Ref_layOwed_92_b (P0 : PI) (x3_1 : Int32) (x4_5 : Int32) (x5_10 : Int32) (x6_20 : Int32) (K278_25 : PL → Option (Int32 × PL)) (self_32 : Int32 → PL → Option (Int32 × PL)) (x7_30 : Int32) (L0_31 : PL) : Option (Int32 × PL) := (if (2 : Int32) ≤ x7_30 then K278_25 L0_31 else (if ((x4_5 >>> (x6_20 &&& 31)) &&& (1 : Int32)) = (1 : Int32) then mb_chk x6_20 16 (mb_jn (fun (y_34 : Int32) => mb_let y_34 (fun (x8_37 : Int32) => (if x8_37 = 0 then mb_let (x7_30 + (1 : Int32)) (fun (x7_38 : Int32) => self_32 x7_38 L0_31) else mb_chk (x3_1 + (3 : Int32)) 50 (mb_chk x6_20 16 (mb_let (((P0 17 (x3_1 + (3 : Int32)).toNatClampNeg)).toInt64 * ((P0 3 x6_20.toNatClampNeg)).toInt64) (fun (x9_41 : Int64) => mb_jn (fun (y_42 : Int64) => mb_let y_42 (fun (x9_45 : Int64) => mb_dvl (1000 : Int64) (mb_let (x9_45 / (1000 : Int64)) (fun (x9_47 : Int64) => mb_jn (fun (y_48 : Int64) => mb_let (mb_uoL L0_31 34 y_48) (fun (L0_51 : PL) => mb_jn (fun (y_52 : Int64) => mb_let (mb_uoL L0_51 35 y_52) (fun (L0_55 : PL) => mb_let (x7_30 + (1 : Int32)) (fun (x7_56 : Int32) => self_32 x7_56 L0_55))) (fun J269_53 => (if (lg_cmp x9_47 (L0_51 0 35)) ≤ 0 then J269_53 (L0_51 0 35) else J269_53 x9_47)))) (fun J246_49 => mb_jn (J246_49 x9_47) (fun J237_58 => (if (lg_cmp (L0_31 0 34) (0 : Int64)) < 0 then J237_58 else (if 0 ≤ (lg_cmp x9_47 (L0_31 0 34)) then J246_49 (L0_31 0 34) else J237_58)))))))) (fun J207_43 => (if x7_30 = (1 : Int32) then mb_chk x6_20 16 (mb_dvl (100 : Int64) (J207_43 ((x9_41 * (((100 : Int32) + (P0 4 x6_20.toNatClampNeg))).toInt64) / (100 : Int64)))) else J207_43 x9_41)))))))) (fun J151_35 => (if (P0 2 x6_20.toNatClampNeg) = 0 then (if x7_30 = 0 then J151_35 (1 : Int32) else J151_35 (0 : Int32)) else mb_jn (J151_35 (1 : Int32)) (fun J146_66 => (if x5_10 = (-4 : Int32) then J146_66 else (if x5_10 = x7_30 then J146_66 else J151_35 (0 : Int32))))))) else K278_25 L0_31))
def f_Ref_layOwed_92 (P0 : PI) (x3_1 : Int32) (x4_5 : Int32) (x5_10 : Int32) (x6_20 : Int32) (K278_25 : PL → Option (Int32 × PL)) : Nat → Int32 → PL → Option (Int32 × PL)
  | 0, _, _ => none
  | n + 1, x7_30, L0_31 => f_Ref_layOwed_92_b P0 x3_1 x4_5 x5_10 x6_20 K278_25 (f_Ref_layOwed_92 P0 x3_1 x4_5 x5_10 x6_20 K278_25 n) x7_30 L0_31
def f_Ref_layOwed_80_b (P0 : PI) (x3_1 : Int32) (x4_5 : Int32) (x5_10 : Int32) (K284_15 : PL → Option (Int32 × PL)) (self_22 : Int32 → PL → Option (Int32 × PL)) (x6_20 : Int32) (L0_21 : PL) : Option (Int32 × PL) := (if (P0 0 0) ≤ x6_20 then K284_15 L0_21 else mb_let (0 : Int32) (fun (x7_23 : Int32) => mb_jn (fun (L0_24 : PL) => mb_let (x6_20 + (1 : Int32)) (fun (x6_27 : Int32) => self_22 x6_27 L0_24)) (fun K278_25 => f_Ref_layOwed_92 P0 x3_1 x4_5 x5_10 x6_20 K278_25 mb_fu x7_23 L0_21)))
def f_Ref_layOwed_80 (P0 : PI) (x3_1 : Int32) (x4_5 : Int32) (x5_10 : Int32) (K284_15 : PL → Option (Int32 × PL)) : Nat → Int32 → PL → Option (Int32 × PL)
  | 0, _, _ => none
  | n + 1, x6_20, L0_21 => f_Ref_layOwed_80_b P0 x3_1 x4_5 x5_10 K284_15 (f_Ref_layOwed_80 P0 x3_1 x4_5 x5_10 K284_15 n) x6_20 L0_21
def f_Ref_layOwed (P0 : PI) (L0 : PL) (x1 : Int32) (x2 : Int32) : Option (Int32 × PL) := mb_let ((5 : Int32) * x1) (fun (x3_1 : Int32) => mb_chk (x3_1 + (1 : Int32)) 50 (mb_chk x3_1 50 (mb_bd1 (f_Ref_meaning P0 (P0 17 (x3_1 + (1 : Int32)).toNatClampNeg) (P0 17 x3_1.toNatClampNeg) x2) (fun (r_4 : Int32) => mb_let r_4 (fun (x4_5 : Int32) => mb_chk (x3_1 + (4 : Int32)) 50 (mb_jn (fun (y_7 : Int32) => mb_let y_7 (fun (x5_10 : Int32) => mb_let (mb_uoL L0 34 (-1 : Int64)) (fun (L0_11 : PL) => mb_let (mb_uoL L0_11 35 (-1 : Int64)) (fun (L0_12 : PL) => mb_let (0 : Int32) (fun (x6_13 : Int32) => mb_jn (fun (L0_14 : PL) => (if (lg_cmp (L0_14 0 35) (0 : Int64)) < 0 then some ((0 : Int32), L0_14) else some ((1 : Int32), L0_14))) (fun K284_15 => f_Ref_layOwed_80 P0 x3_1 x4_5 x5_10 K284_15 mb_fu x6_13 L0_12)))))) (fun J61_8 => (if (P0 17 (x3_1 + (4 : Int32)).toNatClampNeg) = (2 : Int32) then mb_chk x3_1 50 (mb_bd1 (f_Ref_custom P0 (P0 17 x3_1.toNatClampNeg) x2) (fun (r_77 : Int32) => J61_8 r_77)) else mb_chk (x3_1 + (4 : Int32)) 50 (J61_8 ((1 : Int32) - (P0 17 (x3_1 + (4 : Int32)).toNatClampNeg)))))))))))
def rm_Ref_layOwed : Room := { frames := 2, cells := 0, slots := 0, locals := 50 }
set_option maxHeartbeats 4000000 in
set_option maxRecDepth 100000 in
theorem c_Ref_layOwed (l : Launch) (D : va_G) (k : Nat → ClassId) (sz : Nat) (b0 : Nat → Nat) (P0 : PI) (L0 : PL) (x1 : Int32) (x2 : Int32) (z : Int32 × PL) (hf : f_Ref_layOwed P0 L0 x1 x2 = some z) : Met l yX12_layOwed wsX12_layOwed rm_Ref_layOwed (va_Pc [.ref (b0 0), .int x1, .int x2] (gw_pre D vwCl (tyL k) (wC_Ref k b0 P0 L0) sz)) (va_Qi (fun (r : Int32) (_ : Unit) => r = z.1) (gw_b D vwCl (tyL k) (va_A (wC_Ref k b0 P0 L0) sz) (wC_Ref k b0 P0 z.2)) (va_A (wC_Ref k b0 P0 L0) sz)) 0 0 (va_A (wC_Ref k b0 P0 L0) sz) := by
  refine gm_z (cc := cX12_layOwed) (maxL := 11) (by decide) rfl (Nat.le_of_ble_eq_true rfl) ?_
  intro p e s m args below meth c A Q ls H locs hx hb hml hown hts hK hN hA hP hD hS hl hret
  have hown : s.vm.findClass RX12 = some m.cls := hown
  have hl : lv_has ls 11 [(0, .ref (b0 0)), (1, .int x1), (2, .int x2)] := hl
  have iw_Ref : ∀ w ∈ u_ws RX12 TX12 42, w ∈ wsX12_layOwed := by decide +kernel
  have fl_7 := hts (.fieldLink RX12 7 "OneMeasureModel" "sort" "[I") (by decide +kernel)
  have fl_13 := hts (.fieldLink RX12 13 "OneMeasureModel" "size" "[I") (by decide +kernel)
  have fl_16 := hts (.fieldLink RX12 16 "OneMeasureModel" "heap" "[I") (by decide +kernel)
  have fl_44 := hts (.fieldLink RX12 44 "OneMeasureModel" "papers" "[I") (by decide +kernel)
  have fl_90 := hts (.fieldLink RX12 90 "OneMeasureModel" "unitMany" "I") (by decide +kernel)
  have fl_239 := hts (.fieldLink RX12 239 "OneMeasureModel" "least" "J") (by decide +kernel)
  have fl_242 := hts (.fieldLink RX12 242 "OneMeasureModel" "most" "J") (by decide +kernel)
  have lc_99 := hts (.constantLong RX12 99 (100)) (by decide +kernel)
  have lc_109 := hts (.constantLong RX12 109 (1000)) (by decide +kernel)
  have lc_119 := hts (.constantLong RX12 119 (-1)) (by decide +kernel)
  unfold f_Ref_layOwed at hf
  refine lv_iconst (v := 5) hx hb dX12_layOwed_0 (by decide) ?_
  refine lv_iload_n hx hb dX12_layOwed_1 rfl (lv_at hl 1 rfl) ?_
  refine lv_imul hx hb dX12_layOwed_2 ?_
  obtain ⟨x3_1, e_, hf⟩ := mb_let_s hf
  refine mb_topi e_ ?_
  clear e_
  refine lv_istore_n (lv' := [(3, .int x3_1), (0, .ref (b0 0)), (1, .int x1), (2, .int x2)]) hx hb dX12_layOwed_3 rfl hl (by decide) rfl (fun ls hl => ?_)
  refine lv_aload_n hx hb dX12_layOwed_4 rfl (lv_at hl 1 rfl) ?_
  refine lv_aload_n hx hb dX12_layOwed_5 rfl (lv_at hl 1 rfl) ?_
  refine va_get (D := D) (ci := 12) (v := .ref (b0 17)) (C := RX12) (T := TX12) (N := 42) hx hb hts iw_Ref hown hK hP 0 rfl rfl 16 (by decide) fl_44 (fun _ h9 => h9) rfl dX12_layOwed_6 ?_
  refine lv_iload_n hx hb dX12_layOwed_9 rfl (lv_at hl 0 rfl) ?_
  refine lv_iconst (v := 1) hx hb dX12_layOwed_10 (by decide) ?_
  refine lv_iadd hx hb dX12_layOwed_11 ?_
  obtain ⟨h_2, hf⟩ := mb_chk_s hf
  refine va_iald hx hb hK hP 12 0 rfl rfl h_2 dX12_layOwed_12 ?_
  refine lv_aload_n hx hb dX12_layOwed_13 rfl (lv_at hl 1 rfl) ?_
  refine va_get (D := D) (ci := 12) (v := .ref (b0 17)) (C := RX12) (T := TX12) (N := 42) hx hb hts iw_Ref hown hK hP 0 rfl rfl 16 (by decide) fl_44 (fun _ h9 => h9) rfl dX12_layOwed_14 ?_
  refine lv_iload_n hx hb dX12_layOwed_17 rfl (lv_at hl 0 rfl) ?_
  obtain ⟨h_3, hf⟩ := mb_chk_s hf
  refine va_iald hx hb hK hP 12 0 rfl rfl h_3 dX12_layOwed_18 ?_
  refine lv_iload_n hx hb dX12_layOwed_19 rfl (lv_at hl 3 rfl) ?_
  obtain ⟨r_4, hz, hf⟩ := mb_bd1_s hf
  refine gc_i (r0 := r_4) (ws' := (wC_Ref k b0 P0 L0)) (wr := ([] : va_W)) (va_runV (As := [.int (P0 17 (x3_1 + (1 : Int32)).toNatClampNeg), .int (P0 17 x3_1.toNatClampNeg), .int x2]) (rest := []) ⟨hx, hb, hml, hown, hts⟩ (c_Ref_meaning l D k H.size b0 P0 L0 (P0 17 (x3_1 + (1 : Int32)).toNatClampNeg) (P0 17 x3_1.toNatClampNeg) x2 r_4 hz) (cwV 3 hts gX12_layOwed_X12_meaning rfl rfl rfl (by decide +kernel) ⟨Nat.le_of_ble_eq_true rfl, Nat.le_of_ble_eq_true rfl⟩) (gp_V (ci := 12) (q0 := 0) (q := (RX12, TX12, 42)) hP hD hK hN [0, 1, 2, 3, 4, 5, 6, 7, 8, 9, 10, 11, 12, 13, 14, 15, 16, 17, 18, 19, 20, 21, 22, 23, 24, 25] (by decide +kernel) rfl rfl rfl) rfl rfl hl.1 rfl (lv_room (Nat.le_of_ble_eq_true rfl)) dX12_layOwed_20 ⟨Nat.zero_le _, Nat.zero_le _⟩) hP hD hS hA [0, 1, 2, 3, 4, 5, 6, 7, 8, 9, 10, 11, 12, 13, 14, 15, 16, 17, 18, 19, 20, 21, 22, 23, 24, 25] [] rfl rfl (by decide +kernel) (by decide +kernel) [0, 1, 2, 3, 4, 5, 6, 7, 8, 9, 10, 11, 12, 13, 14, 15, 16, 17, 18, 19, 20, 21, 22, 23, 24, 25] (by decide +kernel) rfl (fun H locs hP hD hS => ?_)
  clear hz
  obtain ⟨x4_5, e_, hf⟩ := mb_let_s hf
  refine mb_topi e_ ?_
  clear e_
  refine lv_istore (lv' := [(4, .int x4_5), (3, .int x3_1), (0, .ref (b0 0)), (1, .int x1), (2, .int x2)]) hx hb dX12_layOwed_23 hl (by decide) rfl (fun ls hl => ?_)
  refine lv_aload_n hx hb dX12_layOwed_25 rfl (lv_at hl 2 rfl) ?_
  refine va_get (D := D) (ci := 12) (v := .ref (b0 17)) (C := RX12) (T := TX12) (N := 42) hx hb hts iw_Ref hown hK hP 0 rfl rfl 16 (by decide) fl_44 (fun _ h9 => h9) rfl dX12_layOwed_26 ?_
  refine lv_iload_n hx hb dX12_layOwed_29 rfl (lv_at hl 1 rfl) ?_
  refine lv_iconst (v := 4) hx hb dX12_layOwed_30 (by decide) ?_
  refine lv_iadd hx hb dX12_layOwed_31 ?_
  obtain ⟨h_6, hf⟩ := mb_chk_s hf
  refine va_iald hx hb hK hP 12 0 rfl rfl h_6 dX12_layOwed_32 ?_
  refine lv_iconst (v := 2) hx hb dX12_layOwed_33 (by decide) ?_
  obtain ⟨J61_8, eJ61_8, hf⟩ := mb_jn_s hf
  have j61_9 : ∀ (y_7 : Int32) (H : Heap) (locs : List Loc) (ls : Array Slot), J61_8 y_7 = some z → va_P D vwCl (wC_Ref k b0 P0 L0) H → va_D A (wC_Ref k b0 P0 L0) → va_S A s.heap H locs → lv_has ls 11 [(0, .ref (b0 0)), (3, .int x3_1), (4, .int x4_5)] → W p l e rm_Ref_layOwed s m args below meth c H locs 0 0 Q (F0 m 61 ls [.int y_7]) := by
    intro y_7 H locs ls hf hP hD hS hl
    have hf := mb_j1 eJ61_8 hf
    obtain ⟨x5_10, e_, hf⟩ := mb_let_s hf
    refine mb_topi e_ ?_
    clear e_
    refine lv_istore (lv' := [(5, .int x5_10), (0, .ref (b0 0)), (3, .int x3_1), (4, .int x4_5)]) hx hb dX12_layOwed_61 hl (by decide) rfl (fun ls hl => ?_)
    refine lv_aload_n hx hb dX12_layOwed_63 rfl (lv_at hl 1 rfl) ?_
    refine lv_ldc2 (v := (-1)) hx hb hown lc_119 dX12_layOwed_64 ?_
    obtain ⟨L0_11, e_, hf⟩ := mb_let_s hf
    refine va_put (D := D) (ci := 12) (v := .long (-1 : Int64)) (ty := .long) (C := RX12) (T := TX12) (N := 42) hx hb hts iw_Ref tyX12 tyX12_ok nmX12 hown hK hP hD hS 0 rfl rfl 34 (by decide) fl_239 (fun _ h9 => h9) rfl (by decide +kernel) rfl rfl (Nat.le_of_ble_eq_true rfl) dX12_layOwed_67 (fun H locs hP hD hS => ?_)
    have hP : va_P D vwCl (wC_Ref k b0 P0 L0_11) H := by rw [e_]; exact hP
    have hD : va_D A (wC_Ref k b0 P0 L0_11) := by rw [e_]; exact hD
    clear e_
    refine lv_aload_n hx hb dX12_layOwed_70 rfl (lv_at hl 1 rfl) ?_
    refine lv_ldc2 (v := (-1)) hx hb hown lc_119 dX12_layOwed_71 ?_
    obtain ⟨L0_12, e_, hf⟩ := mb_let_s hf
    refine va_put (D := D) (ci := 12) (v := .long (-1 : Int64)) (ty := .long) (C := RX12) (T := TX12) (N := 42) hx hb hts iw_Ref tyX12 tyX12_ok nmX12 hown hK hP hD hS 0 rfl rfl 35 (by decide) fl_242 (fun _ h9 => h9) rfl (by decide +kernel) rfl rfl (Nat.le_of_ble_eq_true rfl) dX12_layOwed_74 (fun H locs hP hD hS => ?_)
    have hP : va_P D vwCl (wC_Ref k b0 P0 L0_12) H := by rw [e_]; exact hP
    have hD : va_D A (wC_Ref k b0 P0 L0_12) := by rw [e_]; exact hD
    clear e_
    refine lv_iconst (v := 0) hx hb dX12_layOwed_77 (by decide) ?_
    obtain ⟨x6_13, e_, hf⟩ := mb_let_s hf
    refine mb_topi e_ ?_
    clear e_
    refine lv_istore (lv' := [(6, .int x6_13), (5, .int x5_10), (0, .ref (b0 0)), (3, .int x3_1), (4, .int x4_5)]) hx hb dX12_layOwed_78 hl (by decide) rfl (fun ls hl => ?_)
    obtain ⟨K284_15, eK284_15, hf⟩ := mb_jn_s hf
    have k284_16 : ∀ (L0_14 : PL) (H : Heap) (locs : List Loc) (ls : Array Slot), K284_15 L0_14 = some z → va_P D vwCl (wC_Ref k b0 P0 L0_14) H → va_D A (wC_Ref k b0 P0 L0_14) → va_S A s.heap H locs → lv_has ls 11 [(0, .ref (b0 0))] → W p l e rm_Ref_layOwed s m args below meth c H locs 0 0 Q (F0 m 284 ls []) := by
      intro L0_14 H locs ls hf hP hD hS hl
      have hf := mb_j1 eK284_15 hf
      refine lv_aload_n hx hb dX12_layOwed_284 rfl (lv_at hl 0 rfl) ?_
      refine va_get (D := D) (ci := 12) (v := .long (L0_14 0 35)) (C := RX12) (T := TX12) (N := 42) hx hb hts iw_Ref hown hK hP 0 rfl rfl 35 (by decide) fl_242 (fun _ h9 => h9) rfl dX12_layOwed_285 ?_
      refine lv_lconst (v := 0) hx hb dX12_layOwed_288 (by decide) ?_
      refine W.lcmp hx hb dX12_layOwed_289 ?_
      refine lv_if_lt (tgt := 297) hx hb dX12_layOwed_290 (by decide) (fun c_17 => ?_) (fun c_17 => ?_)
      · have hf := mb_if_t c_17 hf
        refine lv_iconst (v := 0) hx hb dX12_layOwed_297 (by decide) ?_
        have hz := Option.some.inj hf
        subst hz
        exact hret _ _ _ _ mb_n0 dX12_layOwed_298 hP hD hS
      · have hf := mb_if_f c_17 hf
        refine lv_iconst (v := 1) hx hb dX12_layOwed_293 (by decide) ?_
        refine lv_goto (tgt := 298) hx hb dX12_layOwed_294 (by decide) ?_
        have hz := Option.some.inj hf
        subst hz
        exact hret _ _ _ _ mb_n1 dX12_layOwed_298 hP hD hS
    have lp80_18 : ∀ (n : Nat) (x6_20 : Int32) (L0_21 : PL) (H : Heap) (locs : List Loc) (ls : Array Slot), f_Ref_layOwed_80 P0 x3_1 x4_5 x5_10 K284_15 n x6_20 L0_21 = some z → va_P D vwCl (wC_Ref k b0 P0 L0_21) H → va_D A (wC_Ref k b0 P0 L0_21) → va_S A s.heap H locs → lv_has ls 11 [(0, .ref (b0 0)), (3, .int x3_1), (4, .int x4_5), (5, .int x5_10), (6, .int x6_20)] → W p l e rm_Ref_layOwed s m args below meth c H locs 0 0 Q (F0 m 80 ls []) := by
      intro n
      induction n with
      | zero =>
        intro x6_20 L0_21 H locs ls hf
        exact nomatch (show (none : Option (Int32 × PL)) = some z from hf)
      | succ n ih_19 =>
        intro x6_20 L0_21 H locs ls hf hP hD hS hl
        have hf : f_Ref_layOwed_80_b P0 x3_1 x4_5 x5_10 K284_15 (f_Ref_layOwed_80 P0 x3_1 x4_5 x5_10 K284_15 n) x6_20 L0_21 = some z := hf
        unfold f_Ref_layOwed_80_b at hf
        refine lv_iload hx hb dX12_layOwed_80 (lv_at hl 4 rfl) ?_
        refine lv_aload_n hx hb dX12_layOwed_82 rfl (lv_at hl 0 rfl) ?_
        refine va_get (D := D) (ci := 12) (v := .int (P0 0 0)) (C := RX12) (T := TX12) (N := 42) hx hb hts iw_Ref hown hK hP 0 rfl rfl 0 (by decide) fl_90 (fun _ h9 => h9) rfl dX12_layOwed_83 ?_
        refine lv_icmp_ge (tgt := 284) hx hb dX12_layOwed_86 (by decide) (fun c_74 => ?_) (fun c_74 => ?_)
        · have hf := mb_if_t c_74 hf
          exact k284_16 L0_21 _ _ _ hf hP hD hS (lv_sub hl [0] rfl)
        · have hf := mb_if_f c_74 hf
          refine lv_iconst (v := 0) hx hb dX12_layOwed_89 (by decide) ?_
          obtain ⟨x7_23, e_, hf⟩ := mb_let_s hf
          refine mb_topi e_ ?_
          clear e_
          refine lv_istore (lv' := [(7, .int x7_23), (0, .ref (b0 0)), (3, .int x3_1), (4, .int x4_5), (5, .int x5_10), (6, .int x6_20)]) hx hb dX12_layOwed_90 hl (by decide) rfl (fun ls hl => ?_)
          obtain ⟨K278_25, eK278_25, hf⟩ := mb_jn_s hf
          have k278_26 : ∀ (L0_24 : PL) (H : Heap) (locs : List Loc) (ls : Array Slot), K278_25 L0_24 = some z → va_P D vwCl (wC_Ref k b0 P0 L0_24) H → va_D A (wC_Ref k b0 P0 L0_24) → va_S A s.heap H locs → lv_has ls 11 [(0, .ref (b0 0)), (3, .int x3_1), (4, .int x4_5), (5, .int x5_10), (6, .int x6_20)] → W p l e rm_Ref_layOwed s m args below meth c H locs 0 0 Q (F0 m 278 ls []) := by
            intro L0_24 H locs ls hf hP hD hS hl
            have hf := mb_j1 eK278_25 hf
            obtain ⟨x6_27, e_, hf⟩ := mb_let_s hf
            refine lv_iinc (v := x6_27) (lv' := [(6, .int x6_27), (0, .ref (b0 0)), (3, .int x3_1), (4, .int x4_5), (5, .int x5_10)]) hx hb dX12_layOwed_278 hl (k := 4) rfl (by rw [e_]; rfl) (by decide) rfl (fun ls hl => ?_)
            clear e_
            refine lv_goto (tgt := 80) hx hb dX12_layOwed_281 (by decide) ?_
            exact ih_19 x6_27 L0_24 _ _ _ hf hP hD hS (lv_sub hl [1, 2, 3, 4, 0] rfl)
          have lp92_28 : ∀ (n : Nat) (x7_30 : Int32) (L0_31 : PL) (H : Heap) (locs : List Loc) (ls : Array Slot), f_Ref_layOwed_92 P0 x3_1 x4_5 x5_10 x6_20 K278_25 n x7_30 L0_31 = some z → va_P D vwCl (wC_Ref k b0 P0 L0_31) H → va_D A (wC_Ref k b0 P0 L0_31) → va_S A s.heap H locs → lv_has ls 11 [(0, .ref (b0 0)), (3, .int x3_1), (4, .int x4_5), (5, .int x5_10), (6, .int x6_20), (7, .int x7_30)] → W p l e rm_Ref_layOwed s m args below meth c H locs 0 0 Q (F0 m 92 ls []) := by
            intro n
            induction n with
            | zero =>
              intro x7_30 L0_31 H locs ls hf
              exact nomatch (show (none : Option (Int32 × PL)) = some z from hf)
            | succ n ih_29 =>
              intro x7_30 L0_31 H locs ls hf hP hD hS hl
              have hf : f_Ref_layOwed_92_b P0 x3_1 x4_5 x5_10 x6_20 K278_25 (f_Ref_layOwed_92 P0 x3_1 x4_5 x5_10 x6_20 K278_25 n) x7_30 L0_31 = some z := hf
              unfold f_Ref_layOwed_92_b at hf
              refine lv_iload hx hb dX12_layOwed_92 (lv_at hl 5 rfl) ?_
              refine lv_iconst (v := 2) hx hb dX12_layOwed_94 (by decide) ?_
              refine lv_icmp_ge (tgt := 278) hx hb dX12_layOwed_95 (by decide) (fun c_73 => ?_) (fun c_73 => ?_)
              · have hf := mb_if_t c_73 hf
                exact k278_26 L0_31 _ _ _ hf hP hD hS (lv_sub hl [0, 1, 2, 3, 4] rfl)
              · have hf := mb_if_f c_73 hf
                refine lv_iload hx hb dX12_layOwed_98 (lv_at hl 2 rfl) ?_
                refine lv_iload hx hb dX12_layOwed_100 (lv_at hl 4 rfl) ?_
                refine lv_ishr hx hb dX12_layOwed_102 ?_
                refine lv_iconst (v := 1) hx hb dX12_layOwed_103 (by decide) ?_
                refine lv_iand hx hb dX12_layOwed_104 ?_
                refine lv_iconst (v := 1) hx hb dX12_layOwed_105 (by decide) ?_
                refine lv_icmp_ne (tgt := 278) hx hb dX12_layOwed_106 (by decide) (fun c_72 => ?_) (fun c_72 => ?_)
                · have hf := mb_if_f c_72 hf
                  exact k278_26 L0_31 _ _ _ hf hP hD hS (lv_sub hl [0, 1, 2, 3, 4] rfl)
                · have hf := mb_if_t c_72 hf
                  refine lv_aload_n hx hb dX12_layOwed_109 rfl (lv_at hl 0 rfl) ?_
                  refine va_get (D := D) (ci := 12) (v := .ref (b0 2)) (C := RX12) (T := TX12) (N := 42) hx hb hts iw_Ref hown hK hP 0 rfl rfl 1 (by decide) fl_7 (fun _ h9 => h9) rfl dX12_layOwed_110 ?_
                  refine lv_iload hx hb dX12_layOwed_113 (lv_at hl 4 rfl) ?_
                  obtain ⟨h_33, hf⟩ := mb_chk_s hf
                  refine va_iald hx hb hK hP 1 0 rfl rfl h_33 dX12_layOwed_115 ?_
                  obtain ⟨J151_35, eJ151_35, hf⟩ := mb_jn_s hf
                  have j151_36 : ∀ (y_34 : Int32) (H : Heap) (locs : List Loc) (ls : Array Slot), J151_35 y_34 = some z → va_P D vwCl (wC_Ref k b0 P0 L0_31) H → va_D A (wC_Ref k b0 P0 L0_31) → va_S A s.heap H locs → lv_has ls 11 [(0, .ref (b0 0)), (3, .int x3_1), (4, .int x4_5), (5, .int x5_10), (6, .int x6_20), (7, .int x7_30)] → W p l e rm_Ref_layOwed s m args below meth c H locs 0 0 Q (F0 m 151 ls [.int y_34]) := by
                    intro y_34 H locs ls hf hP hD hS hl
                    have hf := mb_j1 eJ151_35 hf
                    obtain ⟨x8_37, e_, hf⟩ := mb_let_s hf
                    refine mb_topi e_ ?_
                    clear e_
                    refine lv_istore (lv' := [(8, .int x8_37), (0, .ref (b0 0)), (3, .int x3_1), (4, .int x4_5), (5, .int x5_10), (6, .int x6_20), (7, .int x7_30)]) hx hb dX12_layOwed_151 hl (by decide) rfl (fun ls hl => ?_)
                    refine lv_iload hx hb dX12_layOwed_153 (lv_at hl 0 rfl) ?_
                    refine lv_if_eq (tgt := 272) hx hb dX12_layOwed_155 (by decide) (fun c_65 => ?_) (fun c_65 => ?_)
                    · have hf := mb_if_t c_65 hf
                      obtain ⟨x7_38, e_, hf⟩ := mb_let_s hf
                      refine lv_iinc (v := x7_38) (lv' := [(7, .int x7_38), (8, .int x8_37), (0, .ref (b0 0)), (3, .int x3_1), (4, .int x4_5), (5, .int x5_10), (6, .int x6_20)]) hx hb dX12_layOwed_272 hl (k := 6) rfl (by rw [e_]; rfl) (by decide) rfl (fun ls hl => ?_)
                      clear e_
                      refine lv_goto (tgt := 92) hx hb dX12_layOwed_275 (by decide) ?_
                      exact ih_29 x7_38 L0_31 _ _ _ hf hP hD hS (lv_sub hl [2, 3, 4, 5, 6, 0] rfl)
                    · have hf := mb_if_f c_65 hf
                      refine lv_aload_n hx hb dX12_layOwed_158 rfl (lv_at hl 1 rfl) ?_
                      refine va_get (D := D) (ci := 12) (v := .ref (b0 17)) (C := RX12) (T := TX12) (N := 42) hx hb hts iw_Ref hown hK hP 0 rfl rfl 16 (by decide) fl_44 (fun _ h9 => h9) rfl dX12_layOwed_159 ?_
                      refine lv_iload_n hx hb dX12_layOwed_162 rfl (lv_at hl 2 rfl) ?_
                      refine lv_iconst (v := 3) hx hb dX12_layOwed_163 (by decide) ?_
                      refine lv_iadd hx hb dX12_layOwed_164 ?_
                      obtain ⟨h_39, hf⟩ := mb_chk_s hf
                      refine va_iald hx hb hK hP 12 0 rfl rfl h_39 dX12_layOwed_165 ?_
                      refine lv_i2l hx hb dX12_layOwed_166 rfl ?_
                      refine lv_aload_n hx hb dX12_layOwed_167 rfl (lv_at hl 1 rfl) ?_
                      refine va_get (D := D) (ci := 12) (v := .ref (b0 3)) (C := RX12) (T := TX12) (N := 42) hx hb hts iw_Ref hown hK hP 0 rfl rfl 2 (by decide) fl_13 (fun _ h9 => h9) rfl dX12_layOwed_168 ?_
                      refine lv_iload hx hb dX12_layOwed_171 (lv_at hl 5 rfl) ?_
                      obtain ⟨h_40, hf⟩ := mb_chk_s hf
                      refine va_iald hx hb hK hP 2 0 rfl rfl h_40 dX12_layOwed_173 ?_
                      refine lv_i2l hx hb dX12_layOwed_174 rfl ?_
                      refine lv_lmul hx hb dX12_layOwed_175 ?_
                      obtain ⟨x9_41, e_, hf⟩ := mb_let_s hf
                      refine mb_topl e_ ?_
                      clear e_
                      refine lv_lstore (lv' := [(9, .long x9_41), (8, .int x8_37), (0, .ref (b0 0)), (3, .int x3_1), (4, .int x4_5), (5, .int x5_10), (6, .int x6_20), (7, .int x7_30)]) hx hb dX12_layOwed_176 hl (by decide) rfl (fun ls hl => ?_)
                      refine lv_iload hx hb dX12_layOwed_178 (lv_at hl 7 rfl) ?_
                      refine lv_iconst (v := 1) hx hb dX12_layOwed_180 (by decide) ?_
                      obtain ⟨J207_43, eJ207_43, hf⟩ := mb_jn_s hf
                      have j207_44 : ∀ (y_42 : Int64) (H : Heap) (locs : List Loc) (ls : Array Slot), J207_43 y_42 = some z → va_P D vwCl (wC_Ref k b0 P0 L0_31) H → va_D A (wC_Ref k b0 P0 L0_31) → va_S A s.heap H locs → lv_has ls 11 [(0, .ref (b0 0)), (3, .int x3_1), (4, .int x4_5), (5, .int x5_10), (6, .int x6_20), (7, .int x7_30)] → W p l e rm_Ref_layOwed s m args below meth c H locs 0 0 Q (F0 m 207 ls [.long y_42]) := by
                        intro y_42 H locs ls hf hP hD hS hl
                        have hf := mb_j1 eJ207_43 hf
                        obtain ⟨x9_45, e_, hf⟩ := mb_let_s hf
                        refine mb_topl e_ ?_
                        clear e_
                        refine lv_lstore (lv' := [(9, .long x9_45), (0, .ref (b0 0)), (3, .int x3_1), (4, .int x4_5), (5, .int x5_10), (6, .int x6_20), (7, .int x7_30)]) hx hb dX12_layOwed_207 hl (by decide) rfl (fun ls hl => ?_)
                        refine lv_lload hx hb dX12_layOwed_209 (lv_at hl 0 rfl) ?_
                        refine lv_ldc2 (v := (1000)) hx hb hown lc_109 dX12_layOwed_211 ?_
                        obtain ⟨h_46, hf⟩ := mb_dvl_s hf
                        refine lv_ldiv hx hb dX12_layOwed_214 h_46 ?_
                        obtain ⟨x9_47, e_, hf⟩ := mb_let_s hf
                        refine mb_topl e_ ?_
                        clear e_
                        refine lv_lstore (lv' := [(9, .long x9_47), (0, .ref (b0 0)), (3, .int x3_1), (4, .int x4_5), (5, .int x5_10), (6, .int x6_20), (7, .int x7_30)]) hx hb dX12_layOwed_215 hl (by decide) rfl (fun ls hl => ?_)
                        refine lv_aload_n hx hb dX12_layOwed_217 rfl (lv_at hl 1 rfl) ?_
                        refine lv_aload_n hx hb dX12_layOwed_218 rfl (lv_at hl 1 rfl) ?_
                        refine va_get (D := D) (ci := 12) (v := .long (L0_31 0 34)) (C := RX12) (T := TX12) (N := 42) hx hb hts iw_Ref hown hK hP 0 rfl rfl 34 (by decide) fl_239 (fun _ h9 => h9) rfl dX12_layOwed_219 ?_
                        refine lv_lconst (v := 0) hx hb dX12_layOwed_222 (by decide) ?_
                        refine W.lcmp hx hb dX12_layOwed_223 ?_
                        obtain ⟨J246_49, eJ246_49, hf⟩ := mb_jn_s hf
                        have j246_50 : ∀ (y_48 : Int64) (H : Heap) (locs : List Loc) (ls : Array Slot), J246_49 y_48 = some z → va_P D vwCl (wC_Ref k b0 P0 L0_31) H → va_D A (wC_Ref k b0 P0 L0_31) → va_S A s.heap H locs → lv_has ls 11 [(0, .ref (b0 0)), (3, .int x3_1), (4, .int x4_5), (5, .int x5_10), (6, .int x6_20), (7, .int x7_30), (9, .long x9_47)] → W p l e rm_Ref_layOwed s m args below meth c H locs 0 0 Q (F0 m 246 ls [.long y_48, .ref (b0 0)]) := by
                          intro y_48 H locs ls hf hP hD hS hl
                          have hf := mb_j1 eJ246_49 hf
                          obtain ⟨L0_51, e_, hf⟩ := mb_let_s hf
                          refine va_put (D := D) (ci := 12) (v := .long y_48) (ty := .long) (C := RX12) (T := TX12) (N := 42) hx hb hts iw_Ref tyX12 tyX12_ok nmX12 hown hK hP hD hS 0 rfl rfl 34 (by decide) fl_239 (fun _ h9 => h9) rfl (by decide +kernel) rfl rfl (Nat.le_of_ble_eq_true rfl) dX12_layOwed_246 (fun H locs hP hD hS => ?_)
                          have hP : va_P D vwCl (wC_Ref k b0 P0 L0_51) H := by rw [e_]; exact hP
                          have hD : va_D A (wC_Ref k b0 P0 L0_51) := by rw [e_]; exact hD
                          clear e_
                          refine lv_aload_n hx hb dX12_layOwed_249 rfl (lv_at hl 0 rfl) ?_
                          refine lv_lload hx hb dX12_layOwed_250 (lv_at hl 6 rfl) ?_
                          refine lv_aload_n hx hb dX12_layOwed_252 rfl (lv_at hl 0 rfl) ?_
                          refine va_get (D := D) (ci := 12) (v := .long (L0_51 0 35)) (C := RX12) (T := TX12) (N := 42) hx hb hts iw_Ref hown hK hP 0 rfl rfl 35 (by decide) fl_242 (fun _ h9 => h9) rfl dX12_layOwed_253 ?_
                          refine W.lcmp hx hb dX12_layOwed_256 ?_
                          obtain ⟨J269_53, eJ269_53, hf⟩ := mb_jn_s hf
                          have j269_54 : ∀ (y_52 : Int64) (H : Heap) (locs : List Loc) (ls : Array Slot), J269_53 y_52 = some z → va_P D vwCl (wC_Ref k b0 P0 L0_51) H → va_D A (wC_Ref k b0 P0 L0_51) → va_S A s.heap H locs → lv_has ls 11 [(0, .ref (b0 0)), (3, .int x3_1), (4, .int x4_5), (5, .int x5_10), (6, .int x6_20), (7, .int x7_30)] → W p l e rm_Ref_layOwed s m args below meth c H locs 0 0 Q (F0 m 269 ls [.long y_52, .ref (b0 0)]) := by
                            intro y_52 H locs ls hf hP hD hS hl
                            have hf := mb_j1 eJ269_53 hf
                            obtain ⟨L0_55, e_, hf⟩ := mb_let_s hf
                            refine va_put (D := D) (ci := 12) (v := .long y_52) (ty := .long) (C := RX12) (T := TX12) (N := 42) hx hb hts iw_Ref tyX12 tyX12_ok nmX12 hown hK hP hD hS 0 rfl rfl 35 (by decide) fl_242 (fun _ h9 => h9) rfl (by decide +kernel) rfl rfl (Nat.le_of_ble_eq_true rfl) dX12_layOwed_269 (fun H locs hP hD hS => ?_)
                            have hP : va_P D vwCl (wC_Ref k b0 P0 L0_55) H := by rw [e_]; exact hP
                            have hD : va_D A (wC_Ref k b0 P0 L0_55) := by rw [e_]; exact hD
                            clear e_
                            obtain ⟨x7_56, e_, hf⟩ := mb_let_s hf
                            refine lv_iinc (v := x7_56) (lv' := [(7, .int x7_56), (0, .ref (b0 0)), (3, .int x3_1), (4, .int x4_5), (5, .int x5_10), (6, .int x6_20)]) hx hb dX12_layOwed_272 hl (k := 5) rfl (by rw [e_]; rfl) (by decide) rfl (fun ls hl => ?_)
                            clear e_
                            refine lv_goto (tgt := 92) hx hb dX12_layOwed_275 (by decide) ?_
                            exact ih_29 x7_56 L0_55 _ _ _ hf hP hD hS (lv_sub hl [1, 2, 3, 4, 5, 0] rfl)
                          refine lv_if_le (tgt := 265) hx hb dX12_layOwed_257 (by decide) (fun c_57 => ?_) (fun c_57 => ?_)
                          · have hf := mb_if_t c_57 hf
                            refine lv_aload_n hx hb dX12_layOwed_265 rfl (lv_at hl 0 rfl) ?_
                            refine va_get (D := D) (ci := 12) (v := .long (L0_51 0 35)) (C := RX12) (T := TX12) (N := 42) hx hb hts iw_Ref hown hK hP 0 rfl rfl 35 (by decide) fl_242 (fun _ h9 => h9) rfl dX12_layOwed_266 ?_
                            exact j269_54 (L0_51 0 35) _ _ _ hf hP hD hS (lv_sub hl [0, 1, 2, 3, 4, 5] rfl)
                          · have hf := mb_if_f c_57 hf
                            refine lv_lload hx hb dX12_layOwed_260 (lv_at hl 6 rfl) ?_
                            refine lv_goto (tgt := 269) hx hb dX12_layOwed_262 (by decide) ?_
                            exact j269_54 x9_47 _ _ _ hf hP hD hS (lv_sub hl [0, 1, 2, 3, 4, 5] rfl)
                        obtain ⟨J237_58, eJ237_58, hf⟩ := mb_jn_s hf
                        have j237_59 : ∀ (H : Heap) (locs : List Loc) (ls : Array Slot), J237_58 = some z → va_P D vwCl (wC_Ref k b0 P0 L0_31) H → va_D A (wC_Ref k b0 P0 L0_31) → va_S A s.heap H locs → lv_has ls 11 [(0, .ref (b0 0)), (3, .int x3_1), (4, .int x4_5), (5, .int x5_10), (6, .int x6_20), (7, .int x7_30), (9, .long x9_47)] → W p l e rm_Ref_layOwed s m args below meth c H locs 0 0 Q (F0 m 237 ls [.ref (b0 0)]) := by
                          intro  H locs ls hf hP hD hS hl
                          have hf := mb_j0 eJ237_58 hf
                          refine lv_lload hx hb dX12_layOwed_237 (lv_at hl 6 rfl) ?_
                          refine lv_goto (tgt := 246) hx hb dX12_layOwed_239 (by decide) ?_
                          exact j246_50 x9_47 _ _ _ hf hP hD hS (lv_sub hl [0, 1, 2, 3, 4, 5, 6] rfl)
                        refine lv_if_lt (tgt := 237) hx hb dX12_layOwed_224 (by decide) (fun c_61 => ?_) (fun c_61 => ?_)
                        · have hf := mb_if_t c_61 hf
                          exact j237_59  _ _ _ hf hP hD hS (lv_sub hl [1, 2, 3, 4, 5, 6, 0] rfl)
                        · have hf := mb_if_f c_61 hf
                          refine lv_lload hx hb dX12_layOwed_227 (lv_at hl 0 rfl) ?_
                          refine lv_aload_n hx hb dX12_layOwed_229 rfl (lv_at hl 1 rfl) ?_
                          refine va_get (D := D) (ci := 12) (v := .long (L0_31 0 34)) (C := RX12) (T := TX12) (N := 42) hx hb hts iw_Ref hown hK hP 0 rfl rfl 34 (by decide) fl_239 (fun _ h9 => h9) rfl dX12_layOwed_230 ?_
                          refine W.lcmp hx hb dX12_layOwed_233 ?_
                          refine lv_if_ge (tgt := 242) hx hb dX12_layOwed_234 (by decide) (fun c_60 => ?_) (fun c_60 => ?_)
                          · have hf := mb_if_t c_60 hf
                            refine lv_aload_n hx hb dX12_layOwed_242 rfl (lv_at hl 1 rfl) ?_
                            refine va_get (D := D) (ci := 12) (v := .long (L0_31 0 34)) (C := RX12) (T := TX12) (N := 42) hx hb hts iw_Ref hown hK hP 0 rfl rfl 34 (by decide) fl_239 (fun _ h9 => h9) rfl dX12_layOwed_243 ?_
                            exact j246_50 (L0_31 0 34) _ _ _ hf hP hD hS (lv_sub hl [1, 2, 3, 4, 5, 6, 0] rfl)
                          · have hf := mb_if_f c_60 hf
                            exact j237_59  _ _ _ hf hP hD hS (lv_sub hl [1, 2, 3, 4, 5, 6, 0] rfl)
                      refine lv_icmp_ne (tgt := 205) hx hb dX12_layOwed_181 (by decide) (fun c_64 => ?_) (fun c_64 => ?_)
                      · have hf := mb_if_f c_64 hf
                        refine lv_lload hx hb dX12_layOwed_205 (lv_at hl 0 rfl) ?_
                        exact j207_44 x9_41 _ _ _ hf hP hD hS (lv_sub hl [2, 3, 4, 5, 6, 7] rfl)
                      · have hf := mb_if_t c_64 hf
                        refine lv_lload hx hb dX12_layOwed_184 (lv_at hl 0 rfl) ?_
                        refine lv_bipush (v := 100) hx hb dX12_layOwed_186 (by decide) ?_
                        refine lv_aload_n hx hb dX12_layOwed_188 rfl (lv_at hl 2 rfl) ?_
                        refine va_get (D := D) (ci := 12) (v := .ref (b0 4)) (C := RX12) (T := TX12) (N := 42) hx hb hts iw_Ref hown hK hP 0 rfl rfl 3 (by decide) fl_16 (fun _ h9 => h9) rfl dX12_layOwed_189 ?_
                        refine lv_iload hx hb dX12_layOwed_192 (lv_at hl 6 rfl) ?_
                        obtain ⟨h_62, hf⟩ := mb_chk_s hf
                        refine va_iald hx hb hK hP 3 0 rfl rfl h_62 dX12_layOwed_194 ?_
                        refine lv_iadd hx hb dX12_layOwed_195 ?_
                        refine lv_i2l hx hb dX12_layOwed_196 rfl ?_
                        refine lv_lmul hx hb dX12_layOwed_197 ?_
                        refine lv_ldc2 (v := (100)) hx hb hown lc_99 dX12_layOwed_198 ?_
                        obtain ⟨h_63, hf⟩ := mb_dvl_s hf
                        refine lv_ldiv hx hb dX12_layOwed_201 h_63 ?_
                        refine lv_goto (tgt := 207) hx hb dX12_layOwed_202 (by decide) ?_
                        exact j207_44 ((x9_41 * (((100 : Int32) + (P0 4 x6_20.toNatClampNeg))).toInt64) / (100 : Int64)) _ _ _ hf hP hD hS (lv_sub hl [2, 3, 4, 5, 6, 7] rfl)
                  refine lv_if_ne (tgt := 132) hx hb dX12_layOwed_116 (by decide) (fun c_71 => ?_) (fun c_71 => ?_)
                  · have hf := mb_if_f c_71 hf
                    refine lv_iload hx hb dX12_layOwed_132 (lv_at hl 3 rfl) ?_
                    refine lv_bipush (v := (-4)) hx hb dX12_layOwed_134 (by decide) ?_
                    obtain ⟨J146_66, eJ146_66, hf⟩ := mb_jn_s hf
                    have j146_67 : ∀ (H : Heap) (locs : List Loc) (ls : Array Slot), J146_66 = some z → va_P D vwCl (wC_Ref k b0 P0 L0_31) H → va_D A (wC_Ref k b0 P0 L0_31) → va_S A s.heap H locs → lv_has ls 11 [(0, .ref (b0 0)), (3, .int x3_1), (4, .int x4_5), (5, .int x5_10), (6, .int x6_20), (7, .int x7_30)] → W p l e rm_Ref_layOwed s m args below meth c H locs 0 0 Q (F0 m 146 ls []) := by
                      intro  H locs ls hf hP hD hS hl
                      have hf := mb_j0 eJ146_66 hf
                      refine lv_iconst (v := 1) hx hb dX12_layOwed_146 (by decide) ?_
                      refine lv_goto (tgt := 151) hx hb dX12_layOwed_147 (by decide) ?_
                      exact j151_36 (1 : Int32) _ _ _ hf hP hD hS (lv_sub hl [0, 1, 2, 3, 4, 5] rfl)
                    refine lv_icmp_eq (tgt := 146) hx hb dX12_layOwed_136 (by decide) (fun c_69 => ?_) (fun c_69 => ?_)
                    · have hf := mb_if_t c_69 hf
                      exact j146_67  _ _ _ hf hP hD hS (lv_sub hl [0, 1, 2, 3, 4, 5] rfl)
                    · have hf := mb_if_f c_69 hf
                      refine lv_iload hx hb dX12_layOwed_139 (lv_at hl 3 rfl) ?_
                      refine lv_iload hx hb dX12_layOwed_141 (lv_at hl 5 rfl) ?_
                      refine lv_icmp_ne (tgt := 150) hx hb dX12_layOwed_143 (by decide) (fun c_68 => ?_) (fun c_68 => ?_)
                      · have hf := mb_if_f c_68 hf
                        refine lv_iconst (v := 0) hx hb dX12_layOwed_150 (by decide) ?_
                        exact j151_36 (0 : Int32) _ _ _ hf hP hD hS (lv_sub hl [0, 1, 2, 3, 4, 5] rfl)
                      · have hf := mb_if_t c_68 hf
                        exact j146_67  _ _ _ hf hP hD hS (lv_sub hl [0, 1, 2, 3, 4, 5] rfl)
                  · have hf := mb_if_t c_71 hf
                    refine lv_iload hx hb dX12_layOwed_119 (lv_at hl 5 rfl) ?_
                    refine lv_if_ne (tgt := 128) hx hb dX12_layOwed_121 (by decide) (fun c_70 => ?_) (fun c_70 => ?_)
                    · have hf := mb_if_f c_70 hf
                      refine lv_iconst (v := 0) hx hb dX12_layOwed_128 (by decide) ?_
                      refine lv_goto (tgt := 151) hx hb dX12_layOwed_129 (by decide) ?_
                      exact j151_36 (0 : Int32) _ _ _ hf hP hD hS (lv_sub hl [0, 1, 2, 3, 4, 5] rfl)
                    · have hf := mb_if_t c_70 hf
                      refine lv_iconst (v := 1) hx hb dX12_layOwed_124 (by decide) ?_
                      refine lv_goto (tgt := 151) hx hb dX12_layOwed_125 (by decide) ?_
                      exact j151_36 (1 : Int32) _ _ _ hf hP hD hS (lv_sub hl [0, 1, 2, 3, 4, 5] rfl)
          exact lp92_28 mb_fu x7_23 L0_21 _ _ _ hf hP hD hS (lv_sub hl [1, 2, 3, 4, 5, 0] rfl)
    exact lp80_18 mb_fu x6_13 L0_12 _ _ _ hf hP hD hS (lv_sub hl [2, 3, 4, 1, 0] rfl)
  refine lv_icmp_ne (tgt := 51) hx hb dX12_layOwed_34 (by decide) (fun c_78 => ?_) (fun c_78 => ?_)
  · have hf := mb_if_f c_78 hf
    refine lv_iconst (v := 1) hx hb dX12_layOwed_51 (by decide) ?_
    refine lv_aload_n hx hb dX12_layOwed_52 rfl (lv_at hl 2 rfl) ?_
    refine va_get (D := D) (ci := 12) (v := .ref (b0 17)) (C := RX12) (T := TX12) (N := 42) hx hb hts iw_Ref hown hK hP 0 rfl rfl 16 (by decide) fl_44 (fun _ h9 => h9) rfl dX12_layOwed_53 ?_
    refine lv_iload_n hx hb dX12_layOwed_56 rfl (lv_at hl 1 rfl) ?_
    refine lv_iconst (v := 4) hx hb dX12_layOwed_57 (by decide) ?_
    refine lv_iadd hx hb dX12_layOwed_58 ?_
    obtain ⟨h_75, hf⟩ := mb_chk_s hf
    refine va_iald hx hb hK hP 12 0 rfl rfl h_75 dX12_layOwed_59 ?_
    refine lv_isub hx hb dX12_layOwed_60 ?_
    exact j61_9 ((1 : Int32) - (P0 17 (x3_1 + (4 : Int32)).toNatClampNeg)) _ _ _ hf hP hD hS (lv_sub hl [2, 1, 0] rfl)
  · have hf := mb_if_t c_78 hf
    refine lv_aload_n hx hb dX12_layOwed_37 rfl (lv_at hl 2 rfl) ?_
    refine lv_aload_n hx hb dX12_layOwed_38 rfl (lv_at hl 2 rfl) ?_
    refine va_get (D := D) (ci := 12) (v := .ref (b0 17)) (C := RX12) (T := TX12) (N := 42) hx hb hts iw_Ref hown hK hP 0 rfl rfl 16 (by decide) fl_44 (fun _ h9 => h9) rfl dX12_layOwed_39 ?_
    refine lv_iload_n hx hb dX12_layOwed_42 rfl (lv_at hl 1 rfl) ?_
    obtain ⟨h_76, hf⟩ := mb_chk_s hf
    refine va_iald hx hb hK hP 12 0 rfl rfl h_76 dX12_layOwed_43 ?_
    refine lv_iload_n hx hb dX12_layOwed_44 rfl (lv_at hl 4 rfl) ?_
    obtain ⟨r_77, hz, hf⟩ := mb_bd1_s hf
    refine gc_i (r0 := r_77) (ws' := (wC_Ref k b0 P0 L0)) (wr := ([] : va_W)) (va_runV (As := [.int (P0 17 x3_1.toNatClampNeg), .int x2]) (rest := []) ⟨hx, hb, hml, hown, hts⟩ (c_Ref_custom l D k H.size b0 P0 L0 (P0 17 x3_1.toNatClampNeg) x2 r_77 hz) (cwV 2 hts gX12_layOwed_X12_custom rfl rfl rfl (by decide +kernel) ⟨Nat.le_of_ble_eq_true rfl, Nat.le_of_ble_eq_true rfl⟩) (gp_V (ci := 12) (q0 := 0) (q := (RX12, TX12, 42)) hP hD hK hN [0, 1, 2, 3, 4, 5, 6, 7, 8, 9, 10, 11, 12, 13, 14, 15, 16, 17, 18, 19, 20, 21, 22, 23, 24, 25] (by decide +kernel) rfl rfl rfl) rfl rfl hl.1 rfl (lv_room (Nat.le_of_ble_eq_true rfl)) dX12_layOwed_45 ⟨Nat.zero_le _, Nat.zero_le _⟩) hP hD hS hA [0, 1, 2, 3, 4, 5, 6, 7, 8, 9, 10, 11, 12, 13, 14, 15, 16, 17, 18, 19, 20, 21, 22, 23, 24, 25] [] rfl rfl (by decide +kernel) (by decide +kernel) [0, 1, 2, 3, 4, 5, 6, 7, 8, 9, 10, 11, 12, 13, 14, 15, 16, 17, 18, 19, 20, 21, 22, 23, 24, 25] (by decide +kernel) rfl (fun H locs hP hD hS => ?_)
    clear hz
    refine lv_goto (tgt := 61) hx hb dX12_layOwed_48 (by decide) ?_
    exact j61_9 r_77 _ _ _ hf hP hD hS (lv_sub hl [2, 1, 0] rfl)
def f_Ref_owed (P0 : PI) (L0 : PL) (x1 : Int32) (x2 : Int32) (x3 : Int32) : Option (Int64 × PL) := mb_bd1 (f_Ref_in ((x1).toInt64) (0 : Int64) ((((P0 0 15) - (1 : Int32))).toInt64)) (fun (r_1 : Int32) => (if r_1 = 0 then some ((-1 : Int64), L0) else mb_bd1 (f_Ref_in ((x2).toInt64) (-1 : Int64) (9999 : Int64)) (fun (r_2 : Int32) => (if r_2 = 0 then some ((-1 : Int64), L0) else mb_bd1 (f_Ref_in ((x3).toInt64) (0 : Int64) (1 : Int64)) (fun (r_3 : Int32) => (if r_3 = 0 then some ((-1 : Int64), L0) else mb_jn (fun (y_4 : Int32) (y_5 : Int32) => mb_bd2 (f_Ref_layOwed P0 L0 y_5 y_4) (fun (r_8 : Int32) (L0_9 : PL) => (if r_8 = 0 then some ((-4 : Int64), L0_9) else (if x3 = 0 then some ((L0_9 0 34), L0_9) else some ((L0_9 0 35), L0_9))))) (fun J64_6 => (if 0 ≤ x2 then J64_6 x2 x1 else mb_chk (((5 : Int32) * x1) + (2 : Int32)) 50 (J64_6 (P0 17 (((5 : Int32) * x1) + (2 : Int32)).toNatClampNeg) x1)))))))))
def rm_Ref_owed : Room := { frames := 3, cells := 0, slots := 0, locals := 80 }
set_option maxHeartbeats 4000000 in
set_option maxRecDepth 100000 in
theorem c_Ref_owed (l : Launch) (D : va_G) (k : Nat → ClassId) (sz : Nat) (b0 : Nat → Nat) (P0 : PI) (L0 : PL) (x1 : Int32) (x2 : Int32) (x3 : Int32) (z : Int64 × PL) (hf : f_Ref_owed P0 L0 x1 x2 x3 = some z) : Met l yX12_owed wsX12_owed rm_Ref_owed (va_Pc [.ref (b0 0), .int x1, .int x2, .int x3] (gw_pre D vwCl (tyL k) (wC_Ref k b0 P0 L0) sz)) (va_Ql (fun (r : Int64) (_ : Unit) => r = z.1) (gw_b D vwCl (tyL k) (va_A (wC_Ref k b0 P0 L0) sz) (wC_Ref k b0 P0 z.2)) (va_A (wC_Ref k b0 P0 L0) sz)) 0 0 (va_A (wC_Ref k b0 P0 L0) sz) := by
  refine gm_l (cc := cX12_owed) (maxL := 4) (by decide) rfl (Nat.le_of_ble_eq_true rfl) ?_
  intro p e s m args below meth c A Q ls H locs hx hb hml hown hts hK hN hA hP hD hS hl hret
  have hown : s.vm.findClass RX12 = some m.cls := hown
  have hl : lv_has ls 4 [(0, .ref (b0 0)), (1, .int x1), (2, .int x2), (3, .int x3)] := hl
  have iw_Ref : ∀ w ∈ u_ws RX12 TX12 42, w ∈ wsX12_owed := by decide +kernel
  have fl_44 := hts (.fieldLink RX12 44 "OneMeasureModel" "papers" "[I") (by decide +kernel)
  have fl_232 := hts (.fieldLink RX12 232 "OneMeasureModel" "paperMany" "I") (by decide +kernel)
  have fl_239 := hts (.fieldLink RX12 239 "OneMeasureModel" "least" "J") (by decide +kernel)
  have fl_242 := hts (.fieldLink RX12 242 "OneMeasureModel" "most" "J") (by decide +kernel)
  have lc_119 := hts (.constantLong RX12 119 (-1)) (by decide +kernel)
  have lc_135 := hts (.constantLong RX12 135 (-4)) (by decide +kernel)
  have lc_211 := hts (.constantLong RX12 211 (9999)) (by decide +kernel)
  unfold f_Ref_owed at hf
  refine lv_iload_n hx hb dX12_owed_0 rfl (lv_at hl 1 rfl) ?_
  refine lv_i2l hx hb dX12_owed_1 rfl ?_
  refine lv_lconst (v := 0) hx hb dX12_owed_2 (by decide) ?_
  refine lv_aload_n hx hb dX12_owed_3 rfl (lv_at hl 0 rfl) ?_
  refine va_get (D := D) (ci := 12) (v := .int (P0 0 15)) (C := RX12) (T := TX12) (N := 42) hx hb hts iw_Ref hown hK hP 0 rfl rfl 15 (by decide) fl_232 (fun _ h9 => h9) rfl dX12_owed_4 ?_
  refine lv_iconst (v := 1) hx hb dX12_owed_7 (by decide) ?_
  refine lv_isub hx hb dX12_owed_8 ?_
  refine lv_i2l hx hb dX12_owed_9 rfl ?_
  obtain ⟨r_1, hz, hf⟩ := mb_bd1_s hf
  refine gc_i (r0 := r_1) (ws' := (wC_Ref k b0 P0 L0)) (wr := (wC_Ref k b0 P0 L0)) (va_runS (As := [.long (x1).toInt64, .long (0 : Int64), .long (((P0 0 15) - (1 : Int32))).toInt64]) (rest := []) ⟨hx, hb, hml, hown, hts⟩ (c_Ref_in l D k H.size ((x1).toInt64) (0 : Int64) ((((P0 0 15) - (1 : Int32))).toInt64) r_1 hz) (cwS 3 hts gX12_owed_X12_in rfl rfl rfl (by decide +kernel) ⟨Nat.le_of_ble_eq_true rfl, Nat.le_of_ble_eq_true rfl⟩) (gp_S hP hD hK hN [] (by decide +kernel) rfl) rfl rfl hl.1 rfl (lv_room (Nat.le_of_ble_eq_true rfl)) dX12_owed_10 ⟨Nat.zero_le _, Nat.zero_le _⟩) hP hD hS hA [] [0, 1, 2, 3, 4, 5, 6, 7, 8, 9, 10, 11, 12, 13, 14, 15, 16, 17, 18, 19, 20, 21, 22, 23, 24, 25] rfl rfl (by decide +kernel) (by decide +kernel) [0, 1, 2, 3, 4, 5, 6, 7, 8, 9, 10, 11, 12, 13, 14, 15, 16, 17, 18, 19, 20, 21, 22, 23, 24, 25] (by decide +kernel) rfl (fun H locs hP hD hS => ?_)
  clear hz
  refine lv_if_eq (tgt := 40) hx hb dX12_owed_13 (by decide) (fun c_16 => ?_) (fun c_16 => ?_)
  · have hf := mb_if_t c_16 hf
    refine lv_ldc2 (v := (-1)) hx hb hown lc_119 dX12_owed_40 ?_
    have hz := Option.some.inj hf
    subst hz
    exact hret _ _ _ _ dX12_owed_43 hP hD hS
  · have hf := mb_if_f c_16 hf
    refine lv_iload_n hx hb dX12_owed_16 rfl (lv_at hl 2 rfl) ?_
    refine lv_i2l hx hb dX12_owed_17 rfl ?_
    refine lv_ldc2 (v := (-1)) hx hb hown lc_119 dX12_owed_18 ?_
    refine lv_ldc2 (v := (9999)) hx hb hown lc_211 dX12_owed_21 ?_
    obtain ⟨r_2, hz, hf⟩ := mb_bd1_s hf
    refine gc_i (r0 := r_2) (ws' := (wC_Ref k b0 P0 L0)) (wr := (wC_Ref k b0 P0 L0)) (va_runS (As := [.long (x2).toInt64, .long (-1 : Int64), .long (9999 : Int64)]) (rest := []) ⟨hx, hb, hml, hown, hts⟩ (c_Ref_in l D k H.size ((x2).toInt64) (-1 : Int64) (9999 : Int64) r_2 hz) (cwS 3 hts gX12_owed_X12_in rfl rfl rfl (by decide +kernel) ⟨Nat.le_of_ble_eq_true rfl, Nat.le_of_ble_eq_true rfl⟩) (gp_S hP hD hK hN [] (by decide +kernel) rfl) rfl rfl hl.1 rfl (lv_room (Nat.le_of_ble_eq_true rfl)) dX12_owed_24 ⟨Nat.zero_le _, Nat.zero_le _⟩) hP hD hS hA [] [0, 1, 2, 3, 4, 5, 6, 7, 8, 9, 10, 11, 12, 13, 14, 15, 16, 17, 18, 19, 20, 21, 22, 23, 24, 25] rfl rfl (by decide +kernel) (by decide +kernel) [0, 1, 2, 3, 4, 5, 6, 7, 8, 9, 10, 11, 12, 13, 14, 15, 16, 17, 18, 19, 20, 21, 22, 23, 24, 25] (by decide +kernel) rfl (fun H locs hP hD hS => ?_)
    clear hz
    refine lv_if_eq (tgt := 40) hx hb dX12_owed_27 (by decide) (fun c_15 => ?_) (fun c_15 => ?_)
    · have hf := mb_if_t c_15 hf
      refine lv_ldc2 (v := (-1)) hx hb hown lc_119 dX12_owed_40 ?_
      have hz := Option.some.inj hf
      subst hz
      exact hret _ _ _ _ dX12_owed_43 hP hD hS
    · have hf := mb_if_f c_15 hf
      refine lv_iload_n hx hb dX12_owed_30 rfl (lv_at hl 3 rfl) ?_
      refine lv_i2l hx hb dX12_owed_31 rfl ?_
      refine lv_lconst (v := 0) hx hb dX12_owed_32 (by decide) ?_
      refine lv_lconst (v := 1) hx hb dX12_owed_33 (by decide) ?_
      obtain ⟨r_3, hz, hf⟩ := mb_bd1_s hf
      refine gc_i (r0 := r_3) (ws' := (wC_Ref k b0 P0 L0)) (wr := (wC_Ref k b0 P0 L0)) (va_runS (As := [.long (x3).toInt64, .long (0 : Int64), .long (1 : Int64)]) (rest := []) ⟨hx, hb, hml, hown, hts⟩ (c_Ref_in l D k H.size ((x3).toInt64) (0 : Int64) (1 : Int64) r_3 hz) (cwS 3 hts gX12_owed_X12_in rfl rfl rfl (by decide +kernel) ⟨Nat.le_of_ble_eq_true rfl, Nat.le_of_ble_eq_true rfl⟩) (gp_S hP hD hK hN [] (by decide +kernel) rfl) rfl rfl hl.1 rfl (lv_room (Nat.le_of_ble_eq_true rfl)) dX12_owed_34 ⟨Nat.zero_le _, Nat.zero_le _⟩) hP hD hS hA [] [0, 1, 2, 3, 4, 5, 6, 7, 8, 9, 10, 11, 12, 13, 14, 15, 16, 17, 18, 19, 20, 21, 22, 23, 24, 25] rfl rfl (by decide +kernel) (by decide +kernel) [0, 1, 2, 3, 4, 5, 6, 7, 8, 9, 10, 11, 12, 13, 14, 15, 16, 17, 18, 19, 20, 21, 22, 23, 24, 25] (by decide +kernel) rfl (fun H locs hP hD hS => ?_)
      clear hz
      refine lv_if_ne (tgt := 44) hx hb dX12_owed_37 (by decide) (fun c_14 => ?_) (fun c_14 => ?_)
      · have hf := mb_if_f c_14 hf
        refine lv_aload_n hx hb dX12_owed_44 rfl (lv_at hl 0 rfl) ?_
        refine lv_iload_n hx hb dX12_owed_45 rfl (lv_at hl 1 rfl) ?_
        refine lv_iload_n hx hb dX12_owed_46 rfl (lv_at hl 2 rfl) ?_
        obtain ⟨J64_6, eJ64_6, hf⟩ := mb_jn_s hf
        have j64_7 : ∀ (y_4 : Int32) (y_5 : Int32) (H : Heap) (locs : List Loc) (ls : Array Slot), J64_6 y_4 y_5 = some z → va_P D vwCl (wC_Ref k b0 P0 L0) H → va_D A (wC_Ref k b0 P0 L0) → va_S A s.heap H locs → lv_has ls 4 [(0, .ref (b0 0)), (3, .int x3)] → W p l e rm_Ref_owed s m args below meth c H locs 0 0 Q (F0 m 64 ls [.int y_4, .int y_5, .ref (b0 0)]) := by
          intro y_4 y_5 H locs ls hf hP hD hS hl
          have hf := mb_j2 eJ64_6 hf
          obtain ⟨r_8, L0_9, hz, hf⟩ := mb_bd2_s hf
          refine gc_i (r0 := r_8) (ws' := (wC_Ref k b0 P0 L0_9)) (wr := ([] : va_W)) (va_runV (As := [.int y_5, .int y_4]) (rest := []) ⟨hx, hb, hml, hown, hts⟩ (c_Ref_layOwed l D k H.size b0 P0 L0 y_5 y_4 (r_8, L0_9) hz) (cwV 2 hts gX12_owed_X12_layOwed rfl rfl rfl (by decide +kernel) ⟨Nat.le_of_ble_eq_true rfl, Nat.le_of_ble_eq_true rfl⟩) (gp_V (ci := 12) (q0 := 0) (q := (RX12, TX12, 42)) hP hD hK hN [0, 1, 2, 3, 4, 5, 6, 7, 8, 9, 10, 11, 12, 13, 14, 15, 16, 17, 18, 19, 20, 21, 22, 23, 24, 25] (by decide +kernel) rfl rfl rfl) rfl rfl hl.1 rfl (lv_room (Nat.le_of_ble_eq_true rfl)) dX12_owed_64 ⟨Nat.zero_le _, Nat.zero_le _⟩) hP hD hS hA [0, 1, 2, 3, 4, 5, 6, 7, 8, 9, 10, 11, 12, 13, 14, 15, 16, 17, 18, 19, 20, 21, 22, 23, 24, 25] [] rfl rfl (by decide +kernel) (by decide +kernel) [0, 1, 2, 3, 4, 5, 6, 7, 8, 9, 10, 11, 12, 13, 14, 15, 16, 17, 18, 19, 20, 21, 22, 23, 24, 25] (by decide +kernel) rfl (fun H locs hP hD hS => ?_)
          clear hz
          refine lv_if_ne (tgt := 74) hx hb dX12_owed_67 (by decide) (fun c_11 => ?_) (fun c_11 => ?_)
          · have hf := mb_if_f c_11 hf
            refine lv_iload_n hx hb dX12_owed_74 rfl (lv_at hl 1 rfl) ?_
            refine lv_if_ne (tgt := 85) hx hb dX12_owed_75 (by decide) (fun c_10 => ?_) (fun c_10 => ?_)
            · have hf := mb_if_f c_10 hf
              refine lv_aload_n hx hb dX12_owed_85 rfl (lv_at hl 0 rfl) ?_
              refine va_get (D := D) (ci := 12) (v := .long (L0_9 0 35)) (C := RX12) (T := TX12) (N := 42) hx hb hts iw_Ref hown hK hP 0 rfl rfl 35 (by decide) fl_242 (fun _ h9 => h9) rfl dX12_owed_86 ?_
              have hz := Option.some.inj hf
              subst hz
              exact hret _ _ _ _ dX12_owed_89 hP hD hS
            · have hf := mb_if_t c_10 hf
              refine lv_aload_n hx hb dX12_owed_78 rfl (lv_at hl 0 rfl) ?_
              refine va_get (D := D) (ci := 12) (v := .long (L0_9 0 34)) (C := RX12) (T := TX12) (N := 42) hx hb hts iw_Ref hown hK hP 0 rfl rfl 34 (by decide) fl_239 (fun _ h9 => h9) rfl dX12_owed_79 ?_
              refine lv_goto (tgt := 89) hx hb dX12_owed_82 (by decide) ?_
              have hz := Option.some.inj hf
              subst hz
              exact hret _ _ _ _ dX12_owed_89 hP hD hS
          · have hf := mb_if_t c_11 hf
            refine lv_ldc2 (v := (-4)) hx hb hown lc_135 dX12_owed_70 ?_
            have hz := Option.some.inj hf
            subst hz
            exact hret _ _ _ _ dX12_owed_73 hP hD hS
        refine lv_if_ge (tgt := 63) hx hb dX12_owed_47 (by decide) (fun c_13 => ?_) (fun c_13 => ?_)
        · have hf := mb_if_t c_13 hf
          refine lv_iload_n hx hb dX12_owed_63 rfl (lv_at hl 2 rfl) ?_
          exact j64_7 x2 x1 _ _ _ hf hP hD hS (lv_sub hl [0, 3] rfl)
        · have hf := mb_if_f c_13 hf
          refine lv_aload_n hx hb dX12_owed_50 rfl (lv_at hl 0 rfl) ?_
          refine va_get (D := D) (ci := 12) (v := .ref (b0 17)) (C := RX12) (T := TX12) (N := 42) hx hb hts iw_Ref hown hK hP 0 rfl rfl 16 (by decide) fl_44 (fun _ h9 => h9) rfl dX12_owed_51 ?_
          refine lv_iconst (v := 5) hx hb dX12_owed_54 (by decide) ?_
          refine lv_iload_n hx hb dX12_owed_55 rfl (lv_at hl 1 rfl) ?_
          refine lv_imul hx hb dX12_owed_56 ?_
          refine lv_iconst (v := 2) hx hb dX12_owed_57 (by decide) ?_
          refine lv_iadd hx hb dX12_owed_58 ?_
          obtain ⟨h_12, hf⟩ := mb_chk_s hf
          refine va_iald hx hb hK hP 12 0 rfl rfl h_12 dX12_owed_59 ?_
          refine lv_goto (tgt := 64) hx hb dX12_owed_60 (by decide) ?_
          exact j64_7 (P0 17 (((5 : Int32) * x1) + (2 : Int32)).toNatClampNeg) x1 _ _ _ hf hP hD hS (lv_sub hl [0, 3] rfl)
      · have hf := mb_if_t c_14 hf
        refine lv_ldc2 (v := (-1)) hx hb hown lc_119 dX12_owed_40 ?_
        have hz := Option.some.inj hf
        subst hz
        exact hret _ _ _ _ dX12_owed_43 hP hD hS
def f_Ref_gained (P0 : PI) (L0 : PL) (x1 : Int32) (x2 : Int32) : Option (Int64 × PL) := mb_bd1 (f_Ref_in ((x1).toInt64) (0 : Int64) ((((P0 0 15) - (1 : Int32))).toInt64)) (fun (r_1 : Int32) => (if r_1 = 0 then some ((-1000000000000000 : Int64), L0) else mb_bd1 (f_Ref_in ((x2).toInt64) (0 : Int64) (9999 : Int64)) (fun (r_2 : Int32) => (if r_2 = 0 then some ((-1000000000000000 : Int64), L0) else mb_bd2 (f_Ref_layOwed P0 L0 x1 x2) (fun (r_3 : Int32) (L0_4 : PL) => (if r_3 = 0 then some ((-1000000000000004 : Int64), L0_4) else mb_let (L0_4 0 35) (fun (x3_5 : Int64) => mb_chk (((5 : Int32) * x1) + (2 : Int32)) 50 (mb_bd2 (f_Ref_layOwed P0 L0_4 x1 (P0 17 (((5 : Int32) * x1) + (2 : Int32)).toNatClampNeg)) (fun (r_7 : Int32) (L0_8 : PL) => (if r_7 = 0 then some ((-1000000000000004 : Int64), L0_8) else some ((x3_5 - (L0_8 0 34)), L0_8)))))))))))
def rm_Ref_gained : Room := { frames := 3, cells := 0, slots := 0, locals := 80 }
set_option maxHeartbeats 4000000 in
set_option maxRecDepth 100000 in
theorem c_Ref_gained (l : Launch) (D : va_G) (k : Nat → ClassId) (sz : Nat) (b0 : Nat → Nat) (P0 : PI) (L0 : PL) (x1 : Int32) (x2 : Int32) (z : Int64 × PL) (hf : f_Ref_gained P0 L0 x1 x2 = some z) : Met l yX12_gained wsX12_gained rm_Ref_gained (va_Pc [.ref (b0 0), .int x1, .int x2] (gw_pre D vwCl (tyL k) (wC_Ref k b0 P0 L0) sz)) (va_Ql (fun (r : Int64) (_ : Unit) => r = z.1) (gw_b D vwCl (tyL k) (va_A (wC_Ref k b0 P0 L0) sz) (wC_Ref k b0 P0 z.2)) (va_A (wC_Ref k b0 P0 L0) sz)) 0 0 (va_A (wC_Ref k b0 P0 L0) sz) := by
  refine gm_l (cc := cX12_gained) (maxL := 5) (by decide) rfl (Nat.le_of_ble_eq_true rfl) ?_
  intro p e s m args below meth c A Q ls H locs hx hb hml hown hts hK hN hA hP hD hS hl hret
  have hown : s.vm.findClass RX12 = some m.cls := hown
  have hl : lv_has ls 5 [(0, .ref (b0 0)), (1, .int x1), (2, .int x2)] := hl
  have iw_Ref : ∀ w ∈ u_ws RX12 TX12 42, w ∈ wsX12_gained := by decide +kernel
  have fl_44 := hts (.fieldLink RX12 44 "OneMeasureModel" "papers" "[I") (by decide +kernel)
  have fl_232 := hts (.fieldLink RX12 232 "OneMeasureModel" "paperMany" "I") (by decide +kernel)
  have fl_239 := hts (.fieldLink RX12 239 "OneMeasureModel" "least" "J") (by decide +kernel)
  have fl_242 := hts (.fieldLink RX12 242 "OneMeasureModel" "most" "J") (by decide +kernel)
  have lc_211 := hts (.constantLong RX12 211 (9999)) (by decide +kernel)
  have lc_248 := hts (.constantLong RX12 248 (-1000000000000000)) (by decide +kernel)
  have lc_250 := hts (.constantLong RX12 250 (-1000000000000004)) (by decide +kernel)
  unfold f_Ref_gained at hf
  refine lv_iload_n hx hb dX12_gained_0 rfl (lv_at hl 1 rfl) ?_
  refine lv_i2l hx hb dX12_gained_1 rfl ?_
  refine lv_lconst (v := 0) hx hb dX12_gained_2 (by decide) ?_
  refine lv_aload_n hx hb dX12_gained_3 rfl (lv_at hl 0 rfl) ?_
  refine va_get (D := D) (ci := 12) (v := .int (P0 0 15)) (C := RX12) (T := TX12) (N := 42) hx hb hts iw_Ref hown hK hP 0 rfl rfl 15 (by decide) fl_232 (fun _ h9 => h9) rfl dX12_gained_4 ?_
  refine lv_iconst (v := 1) hx hb dX12_gained_7 (by decide) ?_
  refine lv_isub hx hb dX12_gained_8 ?_
  refine lv_i2l hx hb dX12_gained_9 rfl ?_
  obtain ⟨r_1, hz, hf⟩ := mb_bd1_s hf
  refine gc_i (r0 := r_1) (ws' := (wC_Ref k b0 P0 L0)) (wr := (wC_Ref k b0 P0 L0)) (va_runS (As := [.long (x1).toInt64, .long (0 : Int64), .long (((P0 0 15) - (1 : Int32))).toInt64]) (rest := []) ⟨hx, hb, hml, hown, hts⟩ (c_Ref_in l D k H.size ((x1).toInt64) (0 : Int64) ((((P0 0 15) - (1 : Int32))).toInt64) r_1 hz) (cwS 3 hts gX12_gained_X12_in rfl rfl rfl (by decide +kernel) ⟨Nat.le_of_ble_eq_true rfl, Nat.le_of_ble_eq_true rfl⟩) (gp_S hP hD hK hN [] (by decide +kernel) rfl) rfl rfl hl.1 rfl (lv_room (Nat.le_of_ble_eq_true rfl)) dX12_gained_10 ⟨Nat.zero_le _, Nat.zero_le _⟩) hP hD hS hA [] [0, 1, 2, 3, 4, 5, 6, 7, 8, 9, 10, 11, 12, 13, 14, 15, 16, 17, 18, 19, 20, 21, 22, 23, 24, 25] rfl rfl (by decide +kernel) (by decide +kernel) [0, 1, 2, 3, 4, 5, 6, 7, 8, 9, 10, 11, 12, 13, 14, 15, 16, 17, 18, 19, 20, 21, 22, 23, 24, 25] (by decide +kernel) rfl (fun H locs hP hD hS => ?_)
  clear hz
  refine lv_if_eq (tgt := 28) hx hb dX12_gained_13 (by decide) (fun c_12 => ?_) (fun c_12 => ?_)
  · have hf := mb_if_t c_12 hf
    refine lv_ldc2 (v := (-1000000000000000)) hx hb hown lc_248 dX12_gained_28 ?_
    have hz := Option.some.inj hf
    subst hz
    exact hret _ _ _ _ dX12_gained_31 hP hD hS
  · have hf := mb_if_f c_12 hf
    refine lv_iload_n hx hb dX12_gained_16 rfl (lv_at hl 2 rfl) ?_
    refine lv_i2l hx hb dX12_gained_17 rfl ?_
    refine lv_lconst (v := 0) hx hb dX12_gained_18 (by decide) ?_
    refine lv_ldc2 (v := (9999)) hx hb hown lc_211 dX12_gained_19 ?_
    obtain ⟨r_2, hz, hf⟩ := mb_bd1_s hf
    refine gc_i (r0 := r_2) (ws' := (wC_Ref k b0 P0 L0)) (wr := (wC_Ref k b0 P0 L0)) (va_runS (As := [.long (x2).toInt64, .long (0 : Int64), .long (9999 : Int64)]) (rest := []) ⟨hx, hb, hml, hown, hts⟩ (c_Ref_in l D k H.size ((x2).toInt64) (0 : Int64) (9999 : Int64) r_2 hz) (cwS 3 hts gX12_gained_X12_in rfl rfl rfl (by decide +kernel) ⟨Nat.le_of_ble_eq_true rfl, Nat.le_of_ble_eq_true rfl⟩) (gp_S hP hD hK hN [] (by decide +kernel) rfl) rfl rfl hl.1 rfl (lv_room (Nat.le_of_ble_eq_true rfl)) dX12_gained_22 ⟨Nat.zero_le _, Nat.zero_le _⟩) hP hD hS hA [] [0, 1, 2, 3, 4, 5, 6, 7, 8, 9, 10, 11, 12, 13, 14, 15, 16, 17, 18, 19, 20, 21, 22, 23, 24, 25] rfl rfl (by decide +kernel) (by decide +kernel) [0, 1, 2, 3, 4, 5, 6, 7, 8, 9, 10, 11, 12, 13, 14, 15, 16, 17, 18, 19, 20, 21, 22, 23, 24, 25] (by decide +kernel) rfl (fun H locs hP hD hS => ?_)
    clear hz
    refine lv_if_ne (tgt := 32) hx hb dX12_gained_25 (by decide) (fun c_11 => ?_) (fun c_11 => ?_)
    · have hf := mb_if_f c_11 hf
      refine lv_aload_n hx hb dX12_gained_32 rfl (lv_at hl 0 rfl) ?_
      refine lv_iload_n hx hb dX12_gained_33 rfl (lv_at hl 1 rfl) ?_
      refine lv_iload_n hx hb dX12_gained_34 rfl (lv_at hl 2 rfl) ?_
      obtain ⟨r_3, L0_4, hz, hf⟩ := mb_bd2_s hf
      refine gc_i (r0 := r_3) (ws' := (wC_Ref k b0 P0 L0_4)) (wr := ([] : va_W)) (va_runV (As := [.int x1, .int x2]) (rest := []) ⟨hx, hb, hml, hown, hts⟩ (c_Ref_layOwed l D k H.size b0 P0 L0 x1 x2 (r_3, L0_4) hz) (cwV 2 hts gX12_gained_X12_layOwed rfl rfl rfl (by decide +kernel) ⟨Nat.le_of_ble_eq_true rfl, Nat.le_of_ble_eq_true rfl⟩) (gp_V (ci := 12) (q0 := 0) (q := (RX12, TX12, 42)) hP hD hK hN [0, 1, 2, 3, 4, 5, 6, 7, 8, 9, 10, 11, 12, 13, 14, 15, 16, 17, 18, 19, 20, 21, 22, 23, 24, 25] (by decide +kernel) rfl rfl rfl) rfl rfl hl.1 rfl (lv_room (Nat.le_of_ble_eq_true rfl)) dX12_gained_35 ⟨Nat.zero_le _, Nat.zero_le _⟩) hP hD hS hA [0, 1, 2, 3, 4, 5, 6, 7, 8, 9, 10, 11, 12, 13, 14, 15, 16, 17, 18, 19, 20, 21, 22, 23, 24, 25] [] rfl rfl (by decide +kernel) (by decide +kernel) [0, 1, 2, 3, 4, 5, 6, 7, 8, 9, 10, 11, 12, 13, 14, 15, 16, 17, 18, 19, 20, 21, 22, 23, 24, 25] (by decide +kernel) rfl (fun H locs hP hD hS => ?_)
      clear hz
      refine lv_if_ne (tgt := 45) hx hb dX12_gained_38 (by decide) (fun c_10 => ?_) (fun c_10 => ?_)
      · have hf := mb_if_f c_10 hf
        refine lv_aload_n hx hb dX12_gained_45 rfl (lv_at hl 0 rfl) ?_
        refine va_get (D := D) (ci := 12) (v := .long (L0_4 0 35)) (C := RX12) (T := TX12) (N := 42) hx hb hts iw_Ref hown hK hP 0 rfl rfl 35 (by decide) fl_242 (fun _ h9 => h9) rfl dX12_gained_46 ?_
        obtain ⟨x3_5, e_, hf⟩ := mb_let_s hf
        refine mb_topl e_ ?_
        clear e_
        refine lv_lstore_n (lv' := [(3, .long x3_5), (0, .ref (b0 0)), (1, .int x1), (2, .int x2)]) hx hb dX12_gained_49 rfl hl (by decide) rfl (fun ls hl => ?_)
        refine lv_aload_n hx hb dX12_gained_50 rfl (lv_at hl 1 rfl) ?_
        refine lv_iload_n hx hb dX12_gained_51 rfl (lv_at hl 2 rfl) ?_
        refine lv_aload_n hx hb dX12_gained_52 rfl (lv_at hl 1 rfl) ?_
        refine va_get (D := D) (ci := 12) (v := .ref (b0 17)) (C := RX12) (T := TX12) (N := 42) hx hb hts iw_Ref hown hK hP 0 rfl rfl 16 (by decide) fl_44 (fun _ h9 => h9) rfl dX12_gained_53 ?_
        refine lv_iconst (v := 5) hx hb dX12_gained_56 (by decide) ?_
        refine lv_iload_n hx hb dX12_gained_57 rfl (lv_at hl 2 rfl) ?_
        refine lv_imul hx hb dX12_gained_58 ?_
        refine lv_iconst (v := 2) hx hb dX12_gained_59 (by decide) ?_
        refine lv_iadd hx hb dX12_gained_60 ?_
        obtain ⟨h_6, hf⟩ := mb_chk_s hf
        refine va_iald hx hb hK hP 12 0 rfl rfl h_6 dX12_gained_61 ?_
        obtain ⟨r_7, L0_8, hz, hf⟩ := mb_bd2_s hf
        refine gc_i (r0 := r_7) (ws' := (wC_Ref k b0 P0 L0_8)) (wr := ([] : va_W)) (va_runV (As := [.int x1, .int (P0 17 (((5 : Int32) * x1) + (2 : Int32)).toNatClampNeg)]) (rest := []) ⟨hx, hb, hml, hown, hts⟩ (c_Ref_layOwed l D k H.size b0 P0 L0_4 x1 (P0 17 (((5 : Int32) * x1) + (2 : Int32)).toNatClampNeg) (r_7, L0_8) hz) (cwV 2 hts gX12_gained_X12_layOwed rfl rfl rfl (by decide +kernel) ⟨Nat.le_of_ble_eq_true rfl, Nat.le_of_ble_eq_true rfl⟩) (gp_V (ci := 12) (q0 := 0) (q := (RX12, TX12, 42)) hP hD hK hN [0, 1, 2, 3, 4, 5, 6, 7, 8, 9, 10, 11, 12, 13, 14, 15, 16, 17, 18, 19, 20, 21, 22, 23, 24, 25] (by decide +kernel) rfl rfl rfl) rfl rfl hl.1 rfl (lv_room (Nat.le_of_ble_eq_true rfl)) dX12_gained_62 ⟨Nat.zero_le _, Nat.zero_le _⟩) hP hD hS hA [0, 1, 2, 3, 4, 5, 6, 7, 8, 9, 10, 11, 12, 13, 14, 15, 16, 17, 18, 19, 20, 21, 22, 23, 24, 25] [] rfl rfl (by decide +kernel) (by decide +kernel) [0, 1, 2, 3, 4, 5, 6, 7, 8, 9, 10, 11, 12, 13, 14, 15, 16, 17, 18, 19, 20, 21, 22, 23, 24, 25] (by decide +kernel) rfl (fun H locs hP hD hS => ?_)
        clear hz
        refine lv_if_eq (tgt := 77) hx hb dX12_gained_65 (by decide) (fun c_9 => ?_) (fun c_9 => ?_)
        · have hf := mb_if_t c_9 hf
          refine lv_ldc2 (v := (-1000000000000004)) hx hb hown lc_250 dX12_gained_77 ?_
          have hz := Option.some.inj hf
          subst hz
          exact hret _ _ _ _ dX12_gained_80 hP hD hS
        · have hf := mb_if_f c_9 hf
          refine lv_lload_n hx hb dX12_gained_68 rfl (lv_at hl 0 rfl) ?_
          refine lv_aload_n hx hb dX12_gained_69 rfl (lv_at hl 1 rfl) ?_
          refine va_get (D := D) (ci := 12) (v := .long (L0_8 0 34)) (C := RX12) (T := TX12) (N := 42) hx hb hts iw_Ref hown hK hP 0 rfl rfl 34 (by decide) fl_239 (fun _ h9 => h9) rfl dX12_gained_70 ?_
          refine lv_lsub hx hb dX12_gained_73 ?_
          refine lv_goto (tgt := 80) hx hb dX12_gained_74 (by decide) ?_
          have hz := Option.some.inj hf
          subst hz
          exact hret _ _ _ _ dX12_gained_80 hP hD hS
      · have hf := mb_if_t c_10 hf
        refine lv_ldc2 (v := (-1000000000000004)) hx hb hown lc_250 dX12_gained_41 ?_
        have hz := Option.some.inj hf
        subst hz
        exact hret _ _ _ _ dX12_gained_44 hP hD hS
    · have hf := mb_if_t c_11 hf
      refine lv_ldc2 (v := (-1000000000000000)) hx hb hown lc_248 dX12_gained_28 ?_
      have hz := Option.some.inj hf
      subst hz
      exact hret _ _ _ _ dX12_gained_31 hP hD hS
def f_Ref_rod (P0 : PI) (x1 : Int32) (x2 : Int32) (x3 : Int32) (x4 : Int32) (x5 : Int32) : Option (Int32 × PI) := mb_bd1 (f_Ref_isUnit P0 x1) (fun (r_1 : Int32) => (if r_1 = 0 then some ((-1 : Int32), P0) else mb_bd1 (f_Ref_in ((x2).toInt64) (0 : Int64) (5 : Int64)) (fun (r_2 : Int32) => (if r_2 = 0 then some ((-1 : Int32), P0) else mb_bd1 (f_Ref_in ((x3).toInt64) (-200 : Int64) (200 : Int64)) (fun (r_3 : Int32) => (if r_3 = 0 then some ((-1 : Int32), P0) else mb_bd1 (f_Ref_in ((x4).toInt64) (0 : Int64) (20 : Int64)) (fun (r_4 : Int32) => (if r_4 = 0 then some ((-1 : Int32), P0) else mb_bd1 (f_Ref_in ((x5).toInt64) (0 : Int64) (1000 : Int64)) (fun (r_5 : Int32) => (if r_5 = 0 then some ((-1 : Int32), P0) else mb_chk (0 : Int32) 3 ((if (P0 18 (0 : Int32).toNatClampNeg) = (12 : Int32) then some ((-3 : Int32), P0) else mb_chk (0 : Int32) 3 (mb_let ((8 : Int32) * (P0 18 (0 : Int32).toNatClampNeg)) (fun (x6_8 : Int32) => mb_chk x6_8 288 (mb_let (mb_u2 P0 19 x6_8.toNatClampNeg x1) (fun (P0_9 : PI) => mb_chk (x6_8 + (1 : Int32)) 288 (mb_let (mb_u2 P0_9 19 (x6_8 + (1 : Int32)).toNatClampNeg x2) (fun (P0_11 : PI) => mb_chk (x6_8 + (2 : Int32)) 288 (mb_let (mb_u2 P0_11 19 (x6_8 + (2 : Int32)).toNatClampNeg x3) (fun (P0_13 : PI) => mb_chk (x6_8 + (3 : Int32)) 288 (mb_let (mb_u2 P0_13 19 (x6_8 + (3 : Int32)).toNatClampNeg x4) (fun (P0_15 : PI) => mb_chk (x6_8 + (4 : Int32)) 288 (mb_let (mb_u2 P0_15 19 (x6_8 + (4 : Int32)).toNatClampNeg x5) (fun (P0_17 : PI) => mb_chk (0 : Int32) 3 (mb_chk (x6_8 + (5 : Int32)) 288 (mb_let (mb_u2 P0_17 19 (x6_8 + (5 : Int32)).toNatClampNeg (P0_17 20 (0 : Int32).toNatClampNeg)) (fun (P0_20 : PI) => mb_chk (x6_8 + (6 : Int32)) 288 (mb_let (mb_u2 P0_20 19 (x6_8 + (6 : Int32)).toNatClampNeg (0 : Int32)) (fun (P0_22 : PI) => mb_chk (x6_8 + (7 : Int32)) 288 (mb_let (mb_u2 P0_22 19 (x6_8 + (7 : Int32)).toNatClampNeg (-1 : Int32)) (fun (P0_24 : PI) => mb_chk (0 : Int32) 3 (mb_chk (0 : Int32) 3 (mb_let (mb_u2 P0_24 18 (0 : Int32).toNatClampNeg ((P0_24 18 (0 : Int32).toNatClampNeg) + (1 : Int32))) (fun (P0_27 : PI) => mb_chk (0 : Int32) 3 (some (((P0_27 18 (0 : Int32).toNatClampNeg) - (1 : Int32)), P0_27))))))))))))))))))))))))))))))))))))
def rm_Ref_rod : Room := { frames := 2, cells := 0, slots := 0, locals := 46 }
set_option maxHeartbeats 4000000 in
set_option maxRecDepth 100000 in
theorem c_Ref_rod (l : Launch) (D : va_G) (k : Nat → ClassId) (sz : Nat) (b0 : Nat → Nat) (P0 : PI) (L0 : PL) (x1 : Int32) (x2 : Int32) (x3 : Int32) (x4 : Int32) (x5 : Int32) (z : Int32 × PI) (hf : f_Ref_rod P0 x1 x2 x3 x4 x5 = some z) : Met l yX12_rod wsX12_rod rm_Ref_rod (va_Pc [.ref (b0 0), .int x1, .int x2, .int x3, .int x4, .int x5] (gw_pre D vwCl (tyL k) (wC_Ref k b0 P0 L0) sz)) (va_Qi (fun (r : Int32) (_ : Unit) => r = z.1) (gw_b D vwCl (tyL k) (va_A (wC_Ref k b0 P0 L0) sz) (wC_Ref k b0 z.2 L0)) (va_A (wC_Ref k b0 P0 L0) sz)) 0 0 (va_A (wC_Ref k b0 P0 L0) sz) := by
  refine gm_i (cc := cX12_rod) (maxL := 7) (by decide) rfl (Nat.le_of_ble_eq_true rfl) ?_
  intro p e s m args below meth c A Q ls H locs hx hb hml hown hts hK hN hA hP hD hS hl hret
  have hown : s.vm.findClass RX12 = some m.cls := hown
  have hl : lv_has ls 7 [(0, .ref (b0 0)), (1, .int x1), (2, .int x2), (3, .int x3), (4, .int x4), (5, .int x5)] := hl
  have iw_Ref : ∀ w ∈ u_ws RX12 TX12 42, w ∈ wsX12_rod := by decide +kernel
  have fl_47 := hts (.fieldLink RX12 47 "OneMeasureModel" "rodMany" "[I") (by decide +kernel)
  have fl_50 := hts (.fieldLink RX12 50 "OneMeasureModel" "rods" "[I") (by decide +kernel)
  have fl_53 := hts (.fieldLink RX12 53 "OneMeasureModel" "week" "[I") (by decide +kernel)
  have lc_109 := hts (.constantLong RX12 109 (1000)) (by decide +kernel)
  have lc_200 := hts (.constantLong RX12 200 (5)) (by decide +kernel)
  have lc_252 := hts (.constantLong RX12 252 (-200)) (by decide +kernel)
  have lc_254 := hts (.constantLong RX12 254 (200)) (by decide +kernel)
  have lc_256 := hts (.constantLong RX12 256 (20)) (by decide +kernel)
  unfold f_Ref_rod at hf
  refine lv_aload_n hx hb dX12_rod_0 rfl (lv_at hl 0 rfl) ?_
  refine lv_iload_n hx hb dX12_rod_1 rfl (lv_at hl 1 rfl) ?_
  obtain ⟨r_1, hz, hf⟩ := mb_bd1_s hf
  refine gc_i (r0 := r_1) (ws' := (wC_Ref k b0 P0 L0)) (wr := ([] : va_W)) (va_runV (As := [.int x1]) (rest := []) ⟨hx, hb, hml, hown, hts⟩ (c_Ref_isUnit l D k H.size b0 P0 L0 x1 r_1 hz) (cwV 1 hts gX12_rod_X12_isUnit rfl rfl rfl (by decide +kernel) ⟨Nat.le_of_ble_eq_true rfl, Nat.le_of_ble_eq_true rfl⟩) (gp_V (ci := 12) (q0 := 0) (q := (RX12, TX12, 42)) hP hD hK hN [0, 1, 2, 3, 4, 5, 6, 7, 8, 9, 10, 11, 12, 13, 14, 15, 16, 17, 18, 19, 20, 21, 22, 23, 24, 25] (by decide +kernel) rfl rfl rfl) rfl rfl hl.1 rfl (lv_room (Nat.le_of_ble_eq_true rfl)) dX12_rod_2 ⟨Nat.zero_le _, Nat.zero_le _⟩) hP hD hS hA [0, 1, 2, 3, 4, 5, 6, 7, 8, 9, 10, 11, 12, 13, 14, 15, 16, 17, 18, 19, 20, 21, 22, 23, 24, 25] [] rfl rfl (by decide +kernel) (by decide +kernel) [0, 1, 2, 3, 4, 5, 6, 7, 8, 9, 10, 11, 12, 13, 14, 15, 16, 17, 18, 19, 20, 21, 22, 23, 24, 25] (by decide +kernel) rfl (fun H locs hP hD hS => ?_)
  clear hz
  refine lv_if_eq (tgt := 60) hx hb dX12_rod_5 (by decide) (fun c_35 => ?_) (fun c_35 => ?_)
  · have hf := mb_if_t c_35 hf
    refine lv_iconst (v := (-1)) hx hb dX12_rod_60 (by decide) ?_
    have hz := Option.some.inj hf
    subst hz
    exact hret _ _ _ _ dX12_rod_61 hP hD hS
  · have hf := mb_if_f c_35 hf
    refine lv_iload_n hx hb dX12_rod_8 rfl (lv_at hl 2 rfl) ?_
    refine lv_i2l hx hb dX12_rod_9 rfl ?_
    refine lv_lconst (v := 0) hx hb dX12_rod_10 (by decide) ?_
    refine lv_ldc2 (v := (5)) hx hb hown lc_200 dX12_rod_11 ?_
    obtain ⟨r_2, hz, hf⟩ := mb_bd1_s hf
    refine gc_i (r0 := r_2) (ws' := (wC_Ref k b0 P0 L0)) (wr := (wC_Ref k b0 P0 L0)) (va_runS (As := [.long (x2).toInt64, .long (0 : Int64), .long (5 : Int64)]) (rest := []) ⟨hx, hb, hml, hown, hts⟩ (c_Ref_in l D k H.size ((x2).toInt64) (0 : Int64) (5 : Int64) r_2 hz) (cwS 3 hts gX12_rod_X12_in rfl rfl rfl (by decide +kernel) ⟨Nat.le_of_ble_eq_true rfl, Nat.le_of_ble_eq_true rfl⟩) (gp_S hP hD hK hN [] (by decide +kernel) rfl) rfl rfl hl.1 rfl (lv_room (Nat.le_of_ble_eq_true rfl)) dX12_rod_14 ⟨Nat.zero_le _, Nat.zero_le _⟩) hP hD hS hA [] [0, 1, 2, 3, 4, 5, 6, 7, 8, 9, 10, 11, 12, 13, 14, 15, 16, 17, 18, 19, 20, 21, 22, 23, 24, 25] rfl rfl (by decide +kernel) (by decide +kernel) [0, 1, 2, 3, 4, 5, 6, 7, 8, 9, 10, 11, 12, 13, 14, 15, 16, 17, 18, 19, 20, 21, 22, 23, 24, 25] (by decide +kernel) rfl (fun H locs hP hD hS => ?_)
    clear hz
    refine lv_if_eq (tgt := 60) hx hb dX12_rod_17 (by decide) (fun c_34 => ?_) (fun c_34 => ?_)
    · have hf := mb_if_t c_34 hf
      refine lv_iconst (v := (-1)) hx hb dX12_rod_60 (by decide) ?_
      have hz := Option.some.inj hf
      subst hz
      exact hret _ _ _ _ dX12_rod_61 hP hD hS
    · have hf := mb_if_f c_34 hf
      refine lv_iload_n hx hb dX12_rod_20 rfl (lv_at hl 3 rfl) ?_
      refine lv_i2l hx hb dX12_rod_21 rfl ?_
      refine lv_ldc2 (v := (-200)) hx hb hown lc_252 dX12_rod_22 ?_
      refine lv_ldc2 (v := (200)) hx hb hown lc_254 dX12_rod_25 ?_
      obtain ⟨r_3, hz, hf⟩ := mb_bd1_s hf
      refine gc_i (r0 := r_3) (ws' := (wC_Ref k b0 P0 L0)) (wr := (wC_Ref k b0 P0 L0)) (va_runS (As := [.long (x3).toInt64, .long (-200 : Int64), .long (200 : Int64)]) (rest := []) ⟨hx, hb, hml, hown, hts⟩ (c_Ref_in l D k H.size ((x3).toInt64) (-200 : Int64) (200 : Int64) r_3 hz) (cwS 3 hts gX12_rod_X12_in rfl rfl rfl (by decide +kernel) ⟨Nat.le_of_ble_eq_true rfl, Nat.le_of_ble_eq_true rfl⟩) (gp_S hP hD hK hN [] (by decide +kernel) rfl) rfl rfl hl.1 rfl (lv_room (Nat.le_of_ble_eq_true rfl)) dX12_rod_28 ⟨Nat.zero_le _, Nat.zero_le _⟩) hP hD hS hA [] [0, 1, 2, 3, 4, 5, 6, 7, 8, 9, 10, 11, 12, 13, 14, 15, 16, 17, 18, 19, 20, 21, 22, 23, 24, 25] rfl rfl (by decide +kernel) (by decide +kernel) [0, 1, 2, 3, 4, 5, 6, 7, 8, 9, 10, 11, 12, 13, 14, 15, 16, 17, 18, 19, 20, 21, 22, 23, 24, 25] (by decide +kernel) rfl (fun H locs hP hD hS => ?_)
      clear hz
      refine lv_if_eq (tgt := 60) hx hb dX12_rod_31 (by decide) (fun c_33 => ?_) (fun c_33 => ?_)
      · have hf := mb_if_t c_33 hf
        refine lv_iconst (v := (-1)) hx hb dX12_rod_60 (by decide) ?_
        have hz := Option.some.inj hf
        subst hz
        exact hret _ _ _ _ dX12_rod_61 hP hD hS
      · have hf := mb_if_f c_33 hf
        refine lv_iload hx hb dX12_rod_34 (lv_at hl 4 rfl) ?_
        refine lv_i2l hx hb dX12_rod_36 rfl ?_
        refine lv_lconst (v := 0) hx hb dX12_rod_37 (by decide) ?_
        refine lv_ldc2 (v := (20)) hx hb hown lc_256 dX12_rod_38 ?_
        obtain ⟨r_4, hz, hf⟩ := mb_bd1_s hf
        refine gc_i (r0 := r_4) (ws' := (wC_Ref k b0 P0 L0)) (wr := (wC_Ref k b0 P0 L0)) (va_runS (As := [.long (x4).toInt64, .long (0 : Int64), .long (20 : Int64)]) (rest := []) ⟨hx, hb, hml, hown, hts⟩ (c_Ref_in l D k H.size ((x4).toInt64) (0 : Int64) (20 : Int64) r_4 hz) (cwS 3 hts gX12_rod_X12_in rfl rfl rfl (by decide +kernel) ⟨Nat.le_of_ble_eq_true rfl, Nat.le_of_ble_eq_true rfl⟩) (gp_S hP hD hK hN [] (by decide +kernel) rfl) rfl rfl hl.1 rfl (lv_room (Nat.le_of_ble_eq_true rfl)) dX12_rod_41 ⟨Nat.zero_le _, Nat.zero_le _⟩) hP hD hS hA [] [0, 1, 2, 3, 4, 5, 6, 7, 8, 9, 10, 11, 12, 13, 14, 15, 16, 17, 18, 19, 20, 21, 22, 23, 24, 25] rfl rfl (by decide +kernel) (by decide +kernel) [0, 1, 2, 3, 4, 5, 6, 7, 8, 9, 10, 11, 12, 13, 14, 15, 16, 17, 18, 19, 20, 21, 22, 23, 24, 25] (by decide +kernel) rfl (fun H locs hP hD hS => ?_)
        clear hz
        refine lv_if_eq (tgt := 60) hx hb dX12_rod_44 (by decide) (fun c_32 => ?_) (fun c_32 => ?_)
        · have hf := mb_if_t c_32 hf
          refine lv_iconst (v := (-1)) hx hb dX12_rod_60 (by decide) ?_
          have hz := Option.some.inj hf
          subst hz
          exact hret _ _ _ _ dX12_rod_61 hP hD hS
        · have hf := mb_if_f c_32 hf
          refine lv_iload hx hb dX12_rod_47 (lv_at hl 5 rfl) ?_
          refine lv_i2l hx hb dX12_rod_49 rfl ?_
          refine lv_lconst (v := 0) hx hb dX12_rod_50 (by decide) ?_
          refine lv_ldc2 (v := (1000)) hx hb hown lc_109 dX12_rod_51 ?_
          obtain ⟨r_5, hz, hf⟩ := mb_bd1_s hf
          refine gc_i (r0 := r_5) (ws' := (wC_Ref k b0 P0 L0)) (wr := (wC_Ref k b0 P0 L0)) (va_runS (As := [.long (x5).toInt64, .long (0 : Int64), .long (1000 : Int64)]) (rest := []) ⟨hx, hb, hml, hown, hts⟩ (c_Ref_in l D k H.size ((x5).toInt64) (0 : Int64) (1000 : Int64) r_5 hz) (cwS 3 hts gX12_rod_X12_in rfl rfl rfl (by decide +kernel) ⟨Nat.le_of_ble_eq_true rfl, Nat.le_of_ble_eq_true rfl⟩) (gp_S hP hD hK hN [] (by decide +kernel) rfl) rfl rfl hl.1 rfl (lv_room (Nat.le_of_ble_eq_true rfl)) dX12_rod_54 ⟨Nat.zero_le _, Nat.zero_le _⟩) hP hD hS hA [] [0, 1, 2, 3, 4, 5, 6, 7, 8, 9, 10, 11, 12, 13, 14, 15, 16, 17, 18, 19, 20, 21, 22, 23, 24, 25] rfl rfl (by decide +kernel) (by decide +kernel) [0, 1, 2, 3, 4, 5, 6, 7, 8, 9, 10, 11, 12, 13, 14, 15, 16, 17, 18, 19, 20, 21, 22, 23, 24, 25] (by decide +kernel) rfl (fun H locs hP hD hS => ?_)
          clear hz
          refine lv_if_ne (tgt := 62) hx hb dX12_rod_57 (by decide) (fun c_31 => ?_) (fun c_31 => ?_)
          · have hf := mb_if_f c_31 hf
            refine lv_aload_n hx hb dX12_rod_62 rfl (lv_at hl 0 rfl) ?_
            refine va_get (D := D) (ci := 12) (v := .ref (b0 18)) (C := RX12) (T := TX12) (N := 42) hx hb hts iw_Ref hown hK hP 0 rfl rfl 17 (by decide) fl_47 (fun _ h9 => h9) rfl dX12_rod_63 ?_
            refine lv_iconst (v := 0) hx hb dX12_rod_66 (by decide) ?_
            obtain ⟨h_6, hf⟩ := mb_chk_s hf
            refine va_iald hx hb hK hP 13 0 rfl rfl h_6 dX12_rod_67 ?_
            refine lv_bipush (v := 12) hx hb dX12_rod_68 (by decide) ?_
            refine lv_icmp_ne (tgt := 76) hx hb dX12_rod_70 (by decide) (fun c_30 => ?_) (fun c_30 => ?_)
            · have hf := mb_if_f c_30 hf
              refine lv_bipush (v := 8) hx hb dX12_rod_76 (by decide) ?_
              refine lv_aload_n hx hb dX12_rod_78 rfl (lv_at hl 0 rfl) ?_
              refine va_get (D := D) (ci := 12) (v := .ref (b0 18)) (C := RX12) (T := TX12) (N := 42) hx hb hts iw_Ref hown hK hP 0 rfl rfl 17 (by decide) fl_47 (fun _ h9 => h9) rfl dX12_rod_79 ?_
              refine lv_iconst (v := 0) hx hb dX12_rod_82 (by decide) ?_
              obtain ⟨h_7, hf⟩ := mb_chk_s hf
              refine va_iald hx hb hK hP 13 0 rfl rfl h_7 dX12_rod_83 ?_
              refine lv_imul hx hb dX12_rod_84 ?_
              obtain ⟨x6_8, e_, hf⟩ := mb_let_s hf
              refine mb_topi e_ ?_
              clear e_
              refine lv_istore (lv' := [(6, .int x6_8), (0, .ref (b0 0)), (1, .int x1), (2, .int x2), (3, .int x3), (4, .int x4), (5, .int x5)]) hx hb dX12_rod_85 hl (by decide) rfl (fun ls hl => ?_)
              refine lv_aload_n hx hb dX12_rod_87 rfl (lv_at hl 1 rfl) ?_
              refine va_get (D := D) (ci := 12) (v := .ref (b0 19)) (C := RX12) (T := TX12) (N := 42) hx hb hts iw_Ref hown hK hP 0 rfl rfl 18 (by decide) fl_50 (fun _ h9 => h9) rfl dX12_rod_88 ?_
              refine lv_iload hx hb dX12_rod_91 (lv_at hl 0 rfl) ?_
              refine lv_iload_n hx hb dX12_rod_93 rfl (lv_at hl 2 rfl) ?_
              obtain ⟨h_10, hf⟩ := mb_chk_s hf
              obtain ⟨P0_9, e_, hf⟩ := mb_let_s hf
              refine va_iast hx hb hK hP hD hS 14 0 rfl rfl h_10 dX12_rod_94 (fun H locs hP hD hS => ?_)
              have hP : va_P D vwCl (wC_Ref k b0 P0_9 L0) H := by rw [e_]; exact hP
              have hD : va_D A (wC_Ref k b0 P0_9 L0) := by rw [e_]; exact hD
              clear e_
              refine lv_aload_n hx hb dX12_rod_95 rfl (lv_at hl 1 rfl) ?_
              refine va_get (D := D) (ci := 12) (v := .ref (b0 19)) (C := RX12) (T := TX12) (N := 42) hx hb hts iw_Ref hown hK hP 0 rfl rfl 18 (by decide) fl_50 (fun _ h9 => h9) rfl dX12_rod_96 ?_
              refine lv_iload hx hb dX12_rod_99 (lv_at hl 0 rfl) ?_
              refine lv_iconst (v := 1) hx hb dX12_rod_101 (by decide) ?_
              refine lv_iadd hx hb dX12_rod_102 ?_
              refine lv_iload_n hx hb dX12_rod_103 rfl (lv_at hl 3 rfl) ?_
              obtain ⟨h_12, hf⟩ := mb_chk_s hf
              obtain ⟨P0_11, e_, hf⟩ := mb_let_s hf
              refine va_iast hx hb hK hP hD hS 14 0 rfl rfl h_12 dX12_rod_104 (fun H locs hP hD hS => ?_)
              have hP : va_P D vwCl (wC_Ref k b0 P0_11 L0) H := by rw [e_]; exact hP
              have hD : va_D A (wC_Ref k b0 P0_11 L0) := by rw [e_]; exact hD
              clear e_
              refine lv_aload_n hx hb dX12_rod_105 rfl (lv_at hl 1 rfl) ?_
              refine va_get (D := D) (ci := 12) (v := .ref (b0 19)) (C := RX12) (T := TX12) (N := 42) hx hb hts iw_Ref hown hK hP 0 rfl rfl 18 (by decide) fl_50 (fun _ h9 => h9) rfl dX12_rod_106 ?_
              refine lv_iload hx hb dX12_rod_109 (lv_at hl 0 rfl) ?_
              refine lv_iconst (v := 2) hx hb dX12_rod_111 (by decide) ?_
              refine lv_iadd hx hb dX12_rod_112 ?_
              refine lv_iload_n hx hb dX12_rod_113 rfl (lv_at hl 4 rfl) ?_
              obtain ⟨h_14, hf⟩ := mb_chk_s hf
              obtain ⟨P0_13, e_, hf⟩ := mb_let_s hf
              refine va_iast hx hb hK hP hD hS 14 0 rfl rfl h_14 dX12_rod_114 (fun H locs hP hD hS => ?_)
              have hP : va_P D vwCl (wC_Ref k b0 P0_13 L0) H := by rw [e_]; exact hP
              have hD : va_D A (wC_Ref k b0 P0_13 L0) := by rw [e_]; exact hD
              clear e_
              refine lv_aload_n hx hb dX12_rod_115 rfl (lv_at hl 1 rfl) ?_
              refine va_get (D := D) (ci := 12) (v := .ref (b0 19)) (C := RX12) (T := TX12) (N := 42) hx hb hts iw_Ref hown hK hP 0 rfl rfl 18 (by decide) fl_50 (fun _ h9 => h9) rfl dX12_rod_116 ?_
              refine lv_iload hx hb dX12_rod_119 (lv_at hl 0 rfl) ?_
              refine lv_iconst (v := 3) hx hb dX12_rod_121 (by decide) ?_
              refine lv_iadd hx hb dX12_rod_122 ?_
              refine lv_iload hx hb dX12_rod_123 (lv_at hl 5 rfl) ?_
              obtain ⟨h_16, hf⟩ := mb_chk_s hf
              obtain ⟨P0_15, e_, hf⟩ := mb_let_s hf
              refine va_iast hx hb hK hP hD hS 14 0 rfl rfl h_16 dX12_rod_125 (fun H locs hP hD hS => ?_)
              have hP : va_P D vwCl (wC_Ref k b0 P0_15 L0) H := by rw [e_]; exact hP
              have hD : va_D A (wC_Ref k b0 P0_15 L0) := by rw [e_]; exact hD
              clear e_
              refine lv_aload_n hx hb dX12_rod_126 rfl (lv_at hl 1 rfl) ?_
              refine va_get (D := D) (ci := 12) (v := .ref (b0 19)) (C := RX12) (T := TX12) (N := 42) hx hb hts iw_Ref hown hK hP 0 rfl rfl 18 (by decide) fl_50 (fun _ h9 => h9) rfl dX12_rod_127 ?_
              refine lv_iload hx hb dX12_rod_130 (lv_at hl 0 rfl) ?_
              refine lv_iconst (v := 4) hx hb dX12_rod_132 (by decide) ?_
              refine lv_iadd hx hb dX12_rod_133 ?_
              refine lv_iload hx hb dX12_rod_134 (lv_at hl 6 rfl) ?_
              obtain ⟨h_18, hf⟩ := mb_chk_s hf
              obtain ⟨P0_17, e_, hf⟩ := mb_let_s hf
              refine va_iast hx hb hK hP hD hS 14 0 rfl rfl h_18 dX12_rod_136 (fun H locs hP hD hS => ?_)
              have hP : va_P D vwCl (wC_Ref k b0 P0_17 L0) H := by rw [e_]; exact hP
              have hD : va_D A (wC_Ref k b0 P0_17 L0) := by rw [e_]; exact hD
              clear e_
              refine lv_aload_n hx hb dX12_rod_137 rfl (lv_at hl 1 rfl) ?_
              refine va_get (D := D) (ci := 12) (v := .ref (b0 19)) (C := RX12) (T := TX12) (N := 42) hx hb hts iw_Ref hown hK hP 0 rfl rfl 18 (by decide) fl_50 (fun _ h9 => h9) rfl dX12_rod_138 ?_
              refine lv_iload hx hb dX12_rod_141 (lv_at hl 0 rfl) ?_
              refine lv_iconst (v := 5) hx hb dX12_rod_143 (by decide) ?_
              refine lv_iadd hx hb dX12_rod_144 ?_
              refine lv_aload_n hx hb dX12_rod_145 rfl (lv_at hl 1 rfl) ?_
              refine va_get (D := D) (ci := 12) (v := .ref (b0 20)) (C := RX12) (T := TX12) (N := 42) hx hb hts iw_Ref hown hK hP 0 rfl rfl 19 (by decide) fl_53 (fun _ h9 => h9) rfl dX12_rod_146 ?_
              refine lv_iconst (v := 0) hx hb dX12_rod_149 (by decide) ?_
              obtain ⟨h_19, hf⟩ := mb_chk_s hf
              refine va_iald hx hb hK hP 15 0 rfl rfl h_19 dX12_rod_150 ?_
              obtain ⟨h_21, hf⟩ := mb_chk_s hf
              obtain ⟨P0_20, e_, hf⟩ := mb_let_s hf
              refine va_iast hx hb hK hP hD hS 14 0 rfl rfl h_21 dX12_rod_151 (fun H locs hP hD hS => ?_)
              have hP : va_P D vwCl (wC_Ref k b0 P0_20 L0) H := by rw [e_]; exact hP
              have hD : va_D A (wC_Ref k b0 P0_20 L0) := by rw [e_]; exact hD
              clear e_
              refine lv_aload_n hx hb dX12_rod_152 rfl (lv_at hl 1 rfl) ?_
              refine va_get (D := D) (ci := 12) (v := .ref (b0 19)) (C := RX12) (T := TX12) (N := 42) hx hb hts iw_Ref hown hK hP 0 rfl rfl 18 (by decide) fl_50 (fun _ h9 => h9) rfl dX12_rod_153 ?_
              refine lv_iload hx hb dX12_rod_156 (lv_at hl 0 rfl) ?_
              refine lv_bipush (v := 6) hx hb dX12_rod_158 (by decide) ?_
              refine lv_iadd hx hb dX12_rod_160 ?_
              refine lv_iconst (v := 0) hx hb dX12_rod_161 (by decide) ?_
              obtain ⟨h_23, hf⟩ := mb_chk_s hf
              obtain ⟨P0_22, e_, hf⟩ := mb_let_s hf
              refine va_iast hx hb hK hP hD hS 14 0 rfl rfl h_23 dX12_rod_162 (fun H locs hP hD hS => ?_)
              have hP : va_P D vwCl (wC_Ref k b0 P0_22 L0) H := by rw [e_]; exact hP
              have hD : va_D A (wC_Ref k b0 P0_22 L0) := by rw [e_]; exact hD
              clear e_
              refine lv_aload_n hx hb dX12_rod_163 rfl (lv_at hl 1 rfl) ?_
              refine va_get (D := D) (ci := 12) (v := .ref (b0 19)) (C := RX12) (T := TX12) (N := 42) hx hb hts iw_Ref hown hK hP 0 rfl rfl 18 (by decide) fl_50 (fun _ h9 => h9) rfl dX12_rod_164 ?_
              refine lv_iload hx hb dX12_rod_167 (lv_at hl 0 rfl) ?_
              refine lv_bipush (v := 7) hx hb dX12_rod_169 (by decide) ?_
              refine lv_iadd hx hb dX12_rod_171 ?_
              refine lv_iconst (v := (-1)) hx hb dX12_rod_172 (by decide) ?_
              obtain ⟨h_25, hf⟩ := mb_chk_s hf
              obtain ⟨P0_24, e_, hf⟩ := mb_let_s hf
              refine va_iast hx hb hK hP hD hS 14 0 rfl rfl h_25 dX12_rod_173 (fun H locs hP hD hS => ?_)
              have hP : va_P D vwCl (wC_Ref k b0 P0_24 L0) H := by rw [e_]; exact hP
              have hD : va_D A (wC_Ref k b0 P0_24 L0) := by rw [e_]; exact hD
              clear e_
              refine lv_aload_n hx hb dX12_rod_174 rfl (lv_at hl 1 rfl) ?_
              refine va_get (D := D) (ci := 12) (v := .ref (b0 18)) (C := RX12) (T := TX12) (N := 42) hx hb hts iw_Ref hown hK hP 0 rfl rfl 17 (by decide) fl_47 (fun _ h9 => h9) rfl dX12_rod_175 ?_
              refine lv_iconst (v := 0) hx hb dX12_rod_178 (by decide) ?_
              refine lv_dup2_11 hx hb dX12_rod_179 rfl rfl ?_
              obtain ⟨h_26, hf⟩ := mb_chk_s hf
              refine va_iald hx hb hK hP 13 0 rfl rfl h_26 dX12_rod_180 ?_
              refine lv_iconst (v := 1) hx hb dX12_rod_181 (by decide) ?_
              refine lv_iadd hx hb dX12_rod_182 ?_
              obtain ⟨h_28, hf⟩ := mb_chk_s hf
              obtain ⟨P0_27, e_, hf⟩ := mb_let_s hf
              refine va_iast hx hb hK hP hD hS 13 0 rfl rfl h_28 dX12_rod_183 (fun H locs hP hD hS => ?_)
              have hP : va_P D vwCl (wC_Ref k b0 P0_27 L0) H := by rw [e_]; exact hP
              have hD : va_D A (wC_Ref k b0 P0_27 L0) := by rw [e_]; exact hD
              clear e_
              refine lv_aload_n hx hb dX12_rod_184 rfl (lv_at hl 1 rfl) ?_
              refine va_get (D := D) (ci := 12) (v := .ref (b0 18)) (C := RX12) (T := TX12) (N := 42) hx hb hts iw_Ref hown hK hP 0 rfl rfl 17 (by decide) fl_47 (fun _ h9 => h9) rfl dX12_rod_185 ?_
              refine lv_iconst (v := 0) hx hb dX12_rod_188 (by decide) ?_
              obtain ⟨h_29, hf⟩ := mb_chk_s hf
              refine va_iald hx hb hK hP 13 0 rfl rfl h_29 dX12_rod_189 ?_
              refine lv_iconst (v := 1) hx hb dX12_rod_190 (by decide) ?_
              refine lv_isub hx hb dX12_rod_191 ?_
              have hz := Option.some.inj hf
              subst hz
              exact hret _ _ _ _ dX12_rod_192 hP hD hS
            · have hf := mb_if_t c_30 hf
              refine lv_bipush (v := (-3)) hx hb dX12_rod_73 (by decide) ?_
              have hz := Option.some.inj hf
              subst hz
              exact hret _ _ _ _ dX12_rod_75 hP hD hS
          · have hf := mb_if_t c_31 hf
            refine lv_iconst (v := (-1)) hx hb dX12_rod_60 (by decide) ?_
            have hz := Option.some.inj hf
            subst hz
            exact hret _ _ _ _ dX12_rod_61 hP hD hS
def f_Ref_allowed (P0 : PI) (x1 : Int32) : Option (Int32 × PI) := mb_bd1 (f_Ref_in ((x1).toInt64) (0 : Int64) (200 : Int64)) (fun (r_1 : Int32) => (if r_1 = 0 then some ((-1 : Int32), P0) else mb_let (P0 0 24) (fun (x2_2 : Int32) => mb_let (mb_uo P0 24 x1) (fun (P0_3 : PI) => some (x2_2, P0_3)))))
def rm_Ref_allowed : Room := { frames := 1, cells := 0, slots := 0, locals := 25 }
set_option maxHeartbeats 4000000 in
set_option maxRecDepth 100000 in
theorem c_Ref_allowed (l : Launch) (D : va_G) (k : Nat → ClassId) (sz : Nat) (b0 : Nat → Nat) (P0 : PI) (L0 : PL) (x1 : Int32) (z : Int32 × PI) (hf : f_Ref_allowed P0 x1 = some z) : Met l yX12_allowed wsX12_allowed rm_Ref_allowed (va_Pc [.ref (b0 0), .int x1] (gw_pre D vwCl (tyL k) (wC_Ref k b0 P0 L0) sz)) (va_Qi (fun (r : Int32) (_ : Unit) => r = z.1) (gw_b D vwCl (tyL k) (va_A (wC_Ref k b0 P0 L0) sz) (wC_Ref k b0 z.2 L0)) (va_A (wC_Ref k b0 P0 L0) sz)) 0 0 (va_A (wC_Ref k b0 P0 L0) sz) := by
  refine gm_i (cc := cX12_allowed) (maxL := 3) (by decide) rfl (Nat.le_of_ble_eq_true rfl) ?_
  intro p e s m args below meth c A Q ls H locs hx hb hml hown hts hK hN hA hP hD hS hl hret
  have hown : s.vm.findClass RX12 = some m.cls := hown
  have hl : lv_has ls 3 [(0, .ref (b0 0)), (1, .int x1)] := hl
  have iw_Ref : ∀ w ∈ u_ws RX12 TX12 42, w ∈ wsX12_allowed := by decide +kernel
  have fl_65 := hts (.fieldLink RX12 65 "OneMeasureModel" "allow" "I") (by decide +kernel)
  have lc_254 := hts (.constantLong RX12 254 (200)) (by decide +kernel)
  unfold f_Ref_allowed at hf
  refine lv_iload_n hx hb dX12_allowed_0 rfl (lv_at hl 1 rfl) ?_
  refine lv_i2l hx hb dX12_allowed_1 rfl ?_
  refine lv_lconst (v := 0) hx hb dX12_allowed_2 (by decide) ?_
  refine lv_ldc2 (v := (200)) hx hb hown lc_254 dX12_allowed_3 ?_
  obtain ⟨r_1, hz, hf⟩ := mb_bd1_s hf
  refine gc_i (r0 := r_1) (ws' := (wC_Ref k b0 P0 L0)) (wr := (wC_Ref k b0 P0 L0)) (va_runS (As := [.long (x1).toInt64, .long (0 : Int64), .long (200 : Int64)]) (rest := []) ⟨hx, hb, hml, hown, hts⟩ (c_Ref_in l D k H.size ((x1).toInt64) (0 : Int64) (200 : Int64) r_1 hz) (cwS 3 hts gX12_allowed_X12_in rfl rfl rfl (by decide +kernel) ⟨Nat.le_of_ble_eq_true rfl, Nat.le_of_ble_eq_true rfl⟩) (gp_S hP hD hK hN [] (by decide +kernel) rfl) rfl rfl hl.1 rfl (lv_room (Nat.le_of_ble_eq_true rfl)) dX12_allowed_6 ⟨Nat.zero_le _, Nat.zero_le _⟩) hP hD hS hA [] [0, 1, 2, 3, 4, 5, 6, 7, 8, 9, 10, 11, 12, 13, 14, 15, 16, 17, 18, 19, 20, 21, 22, 23, 24, 25] rfl rfl (by decide +kernel) (by decide +kernel) [0, 1, 2, 3, 4, 5, 6, 7, 8, 9, 10, 11, 12, 13, 14, 15, 16, 17, 18, 19, 20, 21, 22, 23, 24, 25] (by decide +kernel) rfl (fun H locs hP hD hS => ?_)
  clear hz
  refine lv_if_ne (tgt := 14) hx hb dX12_allowed_9 (by decide) (fun c_4 => ?_) (fun c_4 => ?_)
  · have hf := mb_if_f c_4 hf
    refine lv_aload_n hx hb dX12_allowed_14 rfl (lv_at hl 0 rfl) ?_
    refine va_get (D := D) (ci := 12) (v := .int (P0 0 24)) (C := RX12) (T := TX12) (N := 42) hx hb hts iw_Ref hown hK hP 0 rfl rfl 24 (by decide) fl_65 (fun _ h9 => h9) rfl dX12_allowed_15 ?_
    obtain ⟨x2_2, e_, hf⟩ := mb_let_s hf
    refine mb_topi e_ ?_
    clear e_
    refine lv_istore_n (lv' := [(2, .int x2_2), (0, .ref (b0 0)), (1, .int x1)]) hx hb dX12_allowed_18 rfl hl (by decide) rfl (fun ls hl => ?_)
    refine lv_aload_n hx hb dX12_allowed_19 rfl (lv_at hl 1 rfl) ?_
    refine lv_iload_n hx hb dX12_allowed_20 rfl (lv_at hl 2 rfl) ?_
    obtain ⟨P0_3, e_, hf⟩ := mb_let_s hf
    refine va_put (D := D) (ci := 12) (v := .int x1) (ty := .int) (C := RX12) (T := TX12) (N := 42) hx hb hts iw_Ref tyX12 tyX12_ok nmX12 hown hK hP hD hS 0 rfl rfl 24 (by decide) fl_65 (fun _ h9 => h9) rfl (by decide +kernel) rfl rfl (Nat.le_of_ble_eq_true rfl) dX12_allowed_21 (fun H locs hP hD hS => ?_)
    have hP : va_P D vwCl (wC_Ref k b0 P0_3 L0) H := by rw [e_]; exact hP
    have hD : va_D A (wC_Ref k b0 P0_3 L0) := by rw [e_]; exact hD
    clear e_
    refine lv_iload_n hx hb dX12_allowed_24 rfl (lv_at hl 0 rfl) ?_
    have hz := Option.some.inj hf
    subst hz
    exact hret _ _ _ _ dX12_allowed_25 hP hD hS
  · have hf := mb_if_t c_4 hf
    refine lv_iconst (v := (-1)) hx hb dX12_allowed_12 (by decide) ?_
    have hz := Option.some.inj hf
    subst hz
    exact hret _ _ _ _ dX12_allowed_13 hP hD hS
