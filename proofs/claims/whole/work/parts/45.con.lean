def f_Ref_laySpan_15_b (P0 : PI) (x1 : Int32) (x2 : Int32) (x3 : Int64) (self_8 : Int32 → PL → Option (PL)) (x5_6 : Int32) (L0_7 : PL) : Option (PL) := (if ((5 : Int32) * (P0 0 9)) ≤ x5_6 then some L0_7 else mb_chk x5_6 150 (mb_jn (fun (y_10 : Int32) => mb_let y_10 (fun (x6_13 : Int32) => mb_chk x5_6 150 (mb_jn (fun (y_15 : Int32) => mb_let y_15 (fun (x7_18 : Int32) => mb_jn (mb_jn (fun (y_21 : Int64) => mb_let y_21 (fun (x8_24 : Int64) => mb_jn (fun (y_25 : Int64) => mb_let y_25 (fun (x10_28 : Int64) => mb_chk (x5_6 + (4 : Int32)) 150 (mb_let ((x10_28 * x3) - ((P0 11 (x5_6 + (4 : Int32)).toNatClampNeg)).toInt64) (fun (x12_30 : Int64) => mb_chk (x5_6 + (4 : Int32)) 150 (mb_let ((x10_28 * x3) + ((P0 11 (x5_6 + (4 : Int32)).toNatClampNeg)).toInt64) (fun (x14_32 : Int64) => mb_jn (fun (y_33 : Int64) => mb_let y_33 (fun (x16_36 : Int64) => mb_jn (fun (y_37 : Int64) => mb_let (mb_uoL L0_7 30 y_37) (fun (L0_40 : PL) => mb_dvl x8_24 (mb_jn (fun (y_42 : Int64) => mb_let (mb_uoL L0_40 31 y_42) (fun (L0_45 : PL) => mb_let (x5_6 + (5 : Int32)) (fun (x5_46 : Int32) => self_8 x5_46 L0_45))) (fun J264_43 => (if 0 ≤ (lg_cmp (x14_32 / x8_24) (L0_40 0 31)) then J264_43 (L0_40 0 31) else mb_dvl x8_24 (J264_43 (x14_32 / x8_24))))))) (fun J235_38 => (if (lg_cmp x16_36 (L0_7 0 30)) ≤ 0 then J235_38 (L0_7 0 30) else J235_38 x16_36)))) (fun J213_34 => (if 0 < (lg_cmp x12_30 (0 : Int64)) then mb_dvl x8_24 (J213_34 (((x12_30 + x8_24) - (1 : Int64)) / x8_24)) else J213_34 (0 : Int64))))))))) (fun J156_26 => (if x6_13 = 0 then mb_chk (x5_6 + (2 : Int32)) 150 (J156_26 (((P0 11 (x5_6 + (2 : Int32)).toNatClampNeg)).toInt64)) else mb_chk (x5_6 + (3 : Int32)) 150 (J156_26 (((P0 11 (x5_6 + (3 : Int32)).toNatClampNeg)).toInt64)))))) (fun J126_22 => (if x6_13 = 0 then mb_chk (x5_6 + (3 : Int32)) 150 (J126_22 (((P0 11 (x5_6 + (3 : Int32)).toNatClampNeg)).toInt64)) else mb_chk (x5_6 + (2 : Int32)) 150 (J126_22 (((P0 11 (x5_6 + (2 : Int32)).toNatClampNeg)).toInt64))))) (fun J98_19 => (if x6_13 = 0 then (if x7_18 = 0 then mb_let (x5_6 + (5 : Int32)) (fun (x5_58 : Int32) => self_8 x5_58 L0_7) else J98_19) else J98_19)))) (fun J86_16 => mb_jn (J86_16 (0 : Int32)) (fun J85_61 => (if (P0 11 x5_6.toNatClampNeg) = x2 then mb_chk (x5_6 + (1 : Int32)) 150 ((if (P0 11 (x5_6 + (1 : Int32)).toNatClampNeg) = x1 then J86_16 (1 : Int32) else J85_61)) else J85_61)))))) (fun J55_11 => mb_jn (J55_11 (0 : Int32)) (fun J54_66 => (if (P0 11 x5_6.toNatClampNeg) = x1 then mb_chk (x5_6 + (1 : Int32)) 150 ((if (P0 11 (x5_6 + (1 : Int32)).toNatClampNeg) = x2 then J55_11 (1 : Int32) else J54_66)) else J54_66)))))
def f_Ref_laySpan_15 (P0 : PI) (x1 : Int32) (x2 : Int32) (x3 : Int64) : Nat → Int32 → PL → Option (PL)
  | 0, _, _ => none
  | n + 1, x5_6, L0_7 => f_Ref_laySpan_15_b P0 x1 x2 x3 (f_Ref_laySpan_15 P0 x1 x2 x3 n) x5_6 L0_7
def f_Ref_laySpan (P0 : PI) (L0 : PL) (x1 : Int32) (x2 : Int32) (x3 : Int64) : Option (PL) := mb_let (mb_uoL L0 30 (1 : Int64)) (fun (L0_1 : PL) => mb_let (mb_uoL L0_1 31 (1000000 : Int64)) (fun (L0_2 : PL) => mb_let (0 : Int32) (fun (x5_3 : Int32) => f_Ref_laySpan_15 P0 x1 x2 x3 mb_fu x5_3 L0_2)))
def rm_Ref_laySpan : Room := { frames := 0, cells := 0, slots := 0, locals := 0 }
set_option maxHeartbeats 4000000 in
set_option maxRecDepth 100000 in
theorem c_Ref_laySpan (l : Launch) (D : va_G) (k : Nat → ClassId) (sz : Nat) (b0 : Nat → Nat) (P0 : PI) (L0 : PL) (x1 : Int32) (x2 : Int32) (x3 : Int64) (z : PL) (hf : f_Ref_laySpan P0 L0 x1 x2 x3 = some z) : Met l yX12_laySpan wsX12_laySpan rm_Ref_laySpan (va_Pc [.ref (b0 0), .int x1, .int x2, .long x3] (gw_pre D vwCl (tyL k) (wC_Ref k b0 P0 L0) sz)) (va_Qv (fun (_ : Unit) => True) (gw_b D vwCl (tyL k) (va_A (wC_Ref k b0 P0 L0) sz) (wC_Ref k b0 P0 z)) (va_A (wC_Ref k b0 P0 L0) sz)) 0 0 (va_A (wC_Ref k b0 P0 L0) sz) := by
  refine gm_v (cc := cX12_laySpan) (maxL := 18) (by decide) rfl (Nat.le_of_ble_eq_true rfl) ?_
  intro p e s m args below meth c A Q ls H locs hx hb hml hown hts hK hN hA hP hD hS hl hret
  have hown : s.vm.findClass RX12 = some m.cls := hown
  have hl : lv_has ls 18 [(0, .ref (b0 0)), (1, .int x1), (2, .int x2), (3, .long x3)] := hl
  have iw_Ref : ∀ w ∈ u_ws RX12 TX12 42, w ∈ wsX12_laySpan := by decide +kernel
  have fl_32 := hts (.fieldLink RX12 32 "OneMeasureModel" "trials" "[I") (by decide +kernel)
  have fl_165 := hts (.fieldLink RX12 165 "OneMeasureModel" "trialMany" "I") (by decide +kernel)
  have fl_168 := hts (.fieldLink RX12 168 "OneMeasureModel" "low" "J") (by decide +kernel)
  have fl_171 := hts (.fieldLink RX12 171 "OneMeasureModel" "high" "J") (by decide +kernel)
  have lc_97 := hts (.constantLong RX12 97 (1000000)) (by decide +kernel)
  unfold f_Ref_laySpan at hf
  refine lv_aload_n hx hb dX12_laySpan_0 rfl (lv_at hl 0 rfl) ?_
  refine lv_lconst (v := 1) hx hb dX12_laySpan_1 (by decide) ?_
  obtain ⟨L0_1, e_, hf⟩ := mb_let_s hf
  refine va_put (D := D) (ci := 12) (v := .long (1 : Int64)) (ty := .long) (C := RX12) (T := TX12) (N := 42) hx hb hts iw_Ref tyX12 tyX12_ok nmX12 hown hK hP hD hS 0 rfl rfl 30 (by decide) fl_168 (fun _ h9 => h9) rfl (by decide +kernel) rfl rfl (Nat.le_of_ble_eq_true rfl) dX12_laySpan_2 (fun H locs hP hD hS => ?_)
  have hP : va_P D vwCl (wC_Ref k b0 P0 L0_1) H := by rw [e_]; exact hP
  have hD : va_D A (wC_Ref k b0 P0 L0_1) := by rw [e_]; exact hD
  clear e_
  refine lv_aload_n hx hb dX12_laySpan_5 rfl (lv_at hl 0 rfl) ?_
  refine lv_ldc2 (v := (1000000)) hx hb hown lc_97 dX12_laySpan_6 ?_
  obtain ⟨L0_2, e_, hf⟩ := mb_let_s hf
  refine va_put (D := D) (ci := 12) (v := .long (1000000 : Int64)) (ty := .long) (C := RX12) (T := TX12) (N := 42) hx hb hts iw_Ref tyX12 tyX12_ok nmX12 hown hK hP hD hS 0 rfl rfl 31 (by decide) fl_171 (fun _ h9 => h9) rfl (by decide +kernel) rfl rfl (Nat.le_of_ble_eq_true rfl) dX12_laySpan_9 (fun H locs hP hD hS => ?_)
  have hP : va_P D vwCl (wC_Ref k b0 P0 L0_2) H := by rw [e_]; exact hP
  have hD : va_D A (wC_Ref k b0 P0 L0_2) := by rw [e_]; exact hD
  clear e_
  refine lv_iconst (v := 0) hx hb dX12_laySpan_12 (by decide) ?_
  obtain ⟨x5_3, e_, hf⟩ := mb_let_s hf
  refine mb_topi e_ ?_
  clear e_
  refine lv_istore (lv' := [(5, .int x5_3), (0, .ref (b0 0)), (1, .int x1), (2, .int x2), (3, .long x3)]) hx hb dX12_laySpan_13 hl (by decide) rfl (fun ls hl => ?_)
  have lp15_4 : ∀ (n : Nat) (x5_6 : Int32) (L0_7 : PL) (H : Heap) (locs : List Loc) (ls : Array Slot), f_Ref_laySpan_15 P0 x1 x2 x3 n x5_6 L0_7 = some z → va_P D vwCl (wC_Ref k b0 P0 L0_7) H → va_D A (wC_Ref k b0 P0 L0_7) → va_S A s.heap H locs → lv_has ls 18 [(0, .ref (b0 0)), (1, .int x1), (2, .int x2), (3, .long x3), (5, .int x5_6)] → W p l e rm_Ref_laySpan s m args below meth c H locs 0 0 Q (F0 m 15 ls []) := by
    intro n
    induction n with
    | zero =>
      intro x5_6 L0_7 H locs ls hf
      exact nomatch (show (none : Option (PL)) = some z from hf)
    | succ n ih_5 =>
      intro x5_6 L0_7 H locs ls hf hP hD hS hl
      have hf : f_Ref_laySpan_15_b P0 x1 x2 x3 (f_Ref_laySpan_15 P0 x1 x2 x3 n) x5_6 L0_7 = some z := hf
      unfold f_Ref_laySpan_15_b at hf
      refine lv_iload hx hb dX12_laySpan_15 (lv_at hl 4 rfl) ?_
      refine lv_iconst (v := 5) hx hb dX12_laySpan_17 (by decide) ?_
      refine lv_aload_n hx hb dX12_laySpan_18 rfl (lv_at hl 0 rfl) ?_
      refine va_get (D := D) (ci := 12) (v := .int (P0 0 9)) (C := RX12) (T := TX12) (N := 42) hx hb hts iw_Ref hown hK hP 0 rfl rfl 9 (by decide) fl_165 (fun _ h9 => h9) rfl dX12_laySpan_19 ?_
      refine lv_imul hx hb dX12_laySpan_22 ?_
      refine lv_icmp_ge (tgt := 273) hx hb dX12_laySpan_23 (by decide) (fun c_71 => ?_) (fun c_71 => ?_)
      · have hf := mb_if_t c_71 hf
        have hz := Option.some.inj hf
        subst hz
        exact hret _ _ _ _ dX12_laySpan_273 hP hD hS
      · have hf := mb_if_f c_71 hf
        refine lv_aload_n hx hb dX12_laySpan_26 rfl (lv_at hl 0 rfl) ?_
        refine va_get (D := D) (ci := 12) (v := .ref (b0 11)) (C := RX12) (T := TX12) (N := 42) hx hb hts iw_Ref hown hK hP 0 rfl rfl 10 (by decide) fl_32 (fun _ h9 => h9) rfl dX12_laySpan_27 ?_
        refine lv_iload hx hb dX12_laySpan_30 (lv_at hl 4 rfl) ?_
        obtain ⟨h_9, hf⟩ := mb_chk_s hf
        refine va_iald hx hb hK hP 8 0 rfl rfl h_9 dX12_laySpan_32 ?_
        refine lv_iload_n hx hb dX12_laySpan_33 rfl (lv_at hl 1 rfl) ?_
        obtain ⟨J55_11, eJ55_11, hf⟩ := mb_jn_s hf
        have j55_12 : ∀ (y_10 : Int32) (H : Heap) (locs : List Loc) (ls : Array Slot), J55_11 y_10 = some z → va_P D vwCl (wC_Ref k b0 P0 L0_7) H → va_D A (wC_Ref k b0 P0 L0_7) → va_S A s.heap H locs → lv_has ls 18 [(0, .ref (b0 0)), (1, .int x1), (2, .int x2), (3, .long x3), (5, .int x5_6)] → W p l e rm_Ref_laySpan s m args below meth c H locs 0 0 Q (F0 m 55 ls [.int y_10]) := by
          intro y_10 H locs ls hf hP hD hS hl
          have hf := mb_j1 eJ55_11 hf
          obtain ⟨x6_13, e_, hf⟩ := mb_let_s hf
          refine mb_topi e_ ?_
          clear e_
          refine lv_istore (lv' := [(6, .int x6_13), (0, .ref (b0 0)), (1, .int x1), (2, .int x2), (3, .long x3), (5, .int x5_6)]) hx hb dX12_laySpan_55 hl (by decide) rfl (fun ls hl => ?_)
          refine lv_aload_n hx hb dX12_laySpan_57 rfl (lv_at hl 1 rfl) ?_
          refine va_get (D := D) (ci := 12) (v := .ref (b0 11)) (C := RX12) (T := TX12) (N := 42) hx hb hts iw_Ref hown hK hP 0 rfl rfl 10 (by decide) fl_32 (fun _ h9 => h9) rfl dX12_laySpan_58 ?_
          refine lv_iload hx hb dX12_laySpan_61 (lv_at hl 5 rfl) ?_
          obtain ⟨h_14, hf⟩ := mb_chk_s hf
          refine va_iald hx hb hK hP 8 0 rfl rfl h_14 dX12_laySpan_63 ?_
          refine lv_iload_n hx hb dX12_laySpan_64 rfl (lv_at hl 3 rfl) ?_
          obtain ⟨J86_16, eJ86_16, hf⟩ := mb_jn_s hf
          have j86_17 : ∀ (y_15 : Int32) (H : Heap) (locs : List Loc) (ls : Array Slot), J86_16 y_15 = some z → va_P D vwCl (wC_Ref k b0 P0 L0_7) H → va_D A (wC_Ref k b0 P0 L0_7) → va_S A s.heap H locs → lv_has ls 18 [(0, .ref (b0 0)), (1, .int x1), (2, .int x2), (3, .long x3), (5, .int x5_6), (6, .int x6_13)] → W p l e rm_Ref_laySpan s m args below meth c H locs 0 0 Q (F0 m 86 ls [.int y_15]) := by
            intro y_15 H locs ls hf hP hD hS hl
            have hf := mb_j1 eJ86_16 hf
            obtain ⟨x7_18, e_, hf⟩ := mb_let_s hf
            refine mb_topi e_ ?_
            clear e_
            refine lv_istore (lv' := [(7, .int x7_18), (0, .ref (b0 0)), (1, .int x1), (2, .int x2), (3, .long x3), (5, .int x5_6), (6, .int x6_13)]) hx hb dX12_laySpan_86 hl (by decide) rfl (fun ls hl => ?_)
            refine lv_iload hx hb dX12_laySpan_88 (lv_at hl 6 rfl) ?_
            obtain ⟨J98_19, eJ98_19, hf⟩ := mb_jn_s hf
            have j98_20 : ∀ (H : Heap) (locs : List Loc) (ls : Array Slot), J98_19 = some z → va_P D vwCl (wC_Ref k b0 P0 L0_7) H → va_D A (wC_Ref k b0 P0 L0_7) → va_S A s.heap H locs → lv_has ls 18 [(0, .ref (b0 0)), (1, .int x1), (2, .int x2), (3, .long x3), (5, .int x5_6), (6, .int x6_13)] → W p l e rm_Ref_laySpan s m args below meth c H locs 0 0 Q (F0 m 98 ls []) := by
              intro  H locs ls hf hP hD hS hl
              have hf := mb_j0 eJ98_19 hf
              refine lv_iload hx hb dX12_laySpan_98 (lv_at hl 5 rfl) ?_
              obtain ⟨J126_22, eJ126_22, hf⟩ := mb_jn_s hf
              have j126_23 : ∀ (y_21 : Int64) (H : Heap) (locs : List Loc) (ls : Array Slot), J126_22 y_21 = some z → va_P D vwCl (wC_Ref k b0 P0 L0_7) H → va_D A (wC_Ref k b0 P0 L0_7) → va_S A s.heap H locs → lv_has ls 18 [(0, .ref (b0 0)), (1, .int x1), (2, .int x2), (3, .long x3), (5, .int x5_6), (6, .int x6_13)] → W p l e rm_Ref_laySpan s m args below meth c H locs 0 0 Q (F0 m 126 ls [.long y_21]) := by
                intro y_21 H locs ls hf hP hD hS hl
                have hf := mb_j1 eJ126_22 hf
                obtain ⟨x8_24, e_, hf⟩ := mb_let_s hf
                refine mb_topl e_ ?_
                clear e_
                refine lv_lstore (lv' := [(8, .long x8_24), (0, .ref (b0 0)), (1, .int x1), (2, .int x2), (3, .long x3), (5, .int x5_6), (6, .int x6_13)]) hx hb dX12_laySpan_126 hl (by decide) rfl (fun ls hl => ?_)
                refine lv_iload hx hb dX12_laySpan_128 (lv_at hl 6 rfl) ?_
                obtain ⟨J156_26, eJ156_26, hf⟩ := mb_jn_s hf
                have j156_27 : ∀ (y_25 : Int64) (H : Heap) (locs : List Loc) (ls : Array Slot), J156_26 y_25 = some z → va_P D vwCl (wC_Ref k b0 P0 L0_7) H → va_D A (wC_Ref k b0 P0 L0_7) → va_S A s.heap H locs → lv_has ls 18 [(0, .ref (b0 0)), (1, .int x1), (2, .int x2), (3, .long x3), (5, .int x5_6), (8, .long x8_24)] → W p l e rm_Ref_laySpan s m args below meth c H locs 0 0 Q (F0 m 156 ls [.long y_25]) := by
                  intro y_25 H locs ls hf hP hD hS hl
                  have hf := mb_j1 eJ156_26 hf
                  obtain ⟨x10_28, e_, hf⟩ := mb_let_s hf
                  refine mb_topl e_ ?_
                  clear e_
                  refine lv_lstore (lv' := [(10, .long x10_28), (0, .ref (b0 0)), (1, .int x1), (2, .int x2), (3, .long x3), (5, .int x5_6), (8, .long x8_24)]) hx hb dX12_laySpan_156 hl (by decide) rfl (fun ls hl => ?_)
                  refine lv_lload hx hb dX12_laySpan_158 (lv_at hl 0 rfl) ?_
                  refine lv_lload_n hx hb dX12_laySpan_160 rfl (lv_at hl 4 rfl) ?_
                  refine lv_lmul hx hb dX12_laySpan_161 ?_
                  refine lv_aload_n hx hb dX12_laySpan_162 rfl (lv_at hl 1 rfl) ?_
                  refine va_get (D := D) (ci := 12) (v := .ref (b0 11)) (C := RX12) (T := TX12) (N := 42) hx hb hts iw_Ref hown hK hP 0 rfl rfl 10 (by decide) fl_32 (fun _ h9 => h9) rfl dX12_laySpan_163 ?_
                  refine lv_iload hx hb dX12_laySpan_166 (lv_at hl 5 rfl) ?_
                  refine lv_iconst (v := 4) hx hb dX12_laySpan_168 (by decide) ?_
                  refine lv_iadd hx hb dX12_laySpan_169 ?_
                  obtain ⟨h_29, hf⟩ := mb_chk_s hf
                  refine va_iald hx hb hK hP 8 0 rfl rfl h_29 dX12_laySpan_170 ?_
                  refine lv_i2l hx hb dX12_laySpan_171 rfl ?_
                  refine lv_lsub hx hb dX12_laySpan_172 ?_
                  obtain ⟨x12_30, e_, hf⟩ := mb_let_s hf
                  refine mb_topl e_ ?_
                  clear e_
                  refine lv_lstore (lv' := [(12, .long x12_30), (10, .long x10_28), (0, .ref (b0 0)), (1, .int x1), (2, .int x2), (3, .long x3), (5, .int x5_6), (8, .long x8_24)]) hx hb dX12_laySpan_173 hl (by decide) rfl (fun ls hl => ?_)
                  refine lv_lload hx hb dX12_laySpan_175 (lv_at hl 1 rfl) ?_
                  refine lv_lload_n hx hb dX12_laySpan_177 rfl (lv_at hl 5 rfl) ?_
                  refine lv_lmul hx hb dX12_laySpan_178 ?_
                  refine lv_aload_n hx hb dX12_laySpan_179 rfl (lv_at hl 2 rfl) ?_
                  refine va_get (D := D) (ci := 12) (v := .ref (b0 11)) (C := RX12) (T := TX12) (N := 42) hx hb hts iw_Ref hown hK hP 0 rfl rfl 10 (by decide) fl_32 (fun _ h9 => h9) rfl dX12_laySpan_180 ?_
                  refine lv_iload hx hb dX12_laySpan_183 (lv_at hl 6 rfl) ?_
                  refine lv_iconst (v := 4) hx hb dX12_laySpan_185 (by decide) ?_
                  refine lv_iadd hx hb dX12_laySpan_186 ?_
                  obtain ⟨h_31, hf⟩ := mb_chk_s hf
                  refine va_iald hx hb hK hP 8 0 rfl rfl h_31 dX12_laySpan_187 ?_
                  refine lv_i2l hx hb dX12_laySpan_188 rfl ?_
                  refine lv_ladd hx hb dX12_laySpan_189 ?_
                  obtain ⟨x14_32, e_, hf⟩ := mb_let_s hf
                  refine mb_topl e_ ?_
                  clear e_
                  refine lv_lstore (lv' := [(14, .long x14_32), (12, .long x12_30), (10, .long x10_28), (0, .ref (b0 0)), (1, .int x1), (2, .int x2), (3, .long x3), (5, .int x5_6), (8, .long x8_24)]) hx hb dX12_laySpan_190 hl (by decide) rfl (fun ls hl => ?_)
                  refine lv_lload hx hb dX12_laySpan_192 (lv_at hl 1 rfl) ?_
                  refine lv_lconst (v := 0) hx hb dX12_laySpan_194 (by decide) ?_
                  refine W.lcmp hx hb dX12_laySpan_195 ?_
                  obtain ⟨J213_34, eJ213_34, hf⟩ := mb_jn_s hf
                  have j213_35 : ∀ (y_33 : Int64) (H : Heap) (locs : List Loc) (ls : Array Slot), J213_34 y_33 = some z → va_P D vwCl (wC_Ref k b0 P0 L0_7) H → va_D A (wC_Ref k b0 P0 L0_7) → va_S A s.heap H locs → lv_has ls 18 [(0, .ref (b0 0)), (1, .int x1), (2, .int x2), (3, .long x3), (5, .int x5_6), (8, .long x8_24), (14, .long x14_32)] → W p l e rm_Ref_laySpan s m args below meth c H locs 0 0 Q (F0 m 213 ls [.long y_33]) := by
                    intro y_33 H locs ls hf hP hD hS hl
                    have hf := mb_j1 eJ213_34 hf
                    obtain ⟨x16_36, e_, hf⟩ := mb_let_s hf
                    refine mb_topl e_ ?_
                    clear e_
                    refine lv_lstore (lv' := [(16, .long x16_36), (0, .ref (b0 0)), (1, .int x1), (2, .int x2), (3, .long x3), (5, .int x5_6), (8, .long x8_24), (14, .long x14_32)]) hx hb dX12_laySpan_213 hl (by decide) rfl (fun ls hl => ?_)
                    refine lv_aload_n hx hb dX12_laySpan_215 rfl (lv_at hl 1 rfl) ?_
                    refine lv_lload hx hb dX12_laySpan_216 (lv_at hl 0 rfl) ?_
                    refine lv_aload_n hx hb dX12_laySpan_218 rfl (lv_at hl 1 rfl) ?_
                    refine va_get (D := D) (ci := 12) (v := .long (L0_7 0 30)) (C := RX12) (T := TX12) (N := 42) hx hb hts iw_Ref hown hK hP 0 rfl rfl 30 (by decide) fl_168 (fun _ h9 => h9) rfl dX12_laySpan_219 ?_
                    refine W.lcmp hx hb dX12_laySpan_222 ?_
                    obtain ⟨J235_38, eJ235_38, hf⟩ := mb_jn_s hf
                    have j235_39 : ∀ (y_37 : Int64) (H : Heap) (locs : List Loc) (ls : Array Slot), J235_38 y_37 = some z → va_P D vwCl (wC_Ref k b0 P0 L0_7) H → va_D A (wC_Ref k b0 P0 L0_7) → va_S A s.heap H locs → lv_has ls 18 [(0, .ref (b0 0)), (1, .int x1), (2, .int x2), (3, .long x3), (5, .int x5_6), (8, .long x8_24), (14, .long x14_32)] → W p l e rm_Ref_laySpan s m args below meth c H locs 0 0 Q (F0 m 235 ls [.long y_37, .ref (b0 0)]) := by
                      intro y_37 H locs ls hf hP hD hS hl
                      have hf := mb_j1 eJ235_38 hf
                      obtain ⟨L0_40, e_, hf⟩ := mb_let_s hf
                      refine va_put (D := D) (ci := 12) (v := .long y_37) (ty := .long) (C := RX12) (T := TX12) (N := 42) hx hb hts iw_Ref tyX12 tyX12_ok nmX12 hown hK hP hD hS 0 rfl rfl 30 (by decide) fl_168 (fun _ h9 => h9) rfl (by decide +kernel) rfl rfl (Nat.le_of_ble_eq_true rfl) dX12_laySpan_235 (fun H locs hP hD hS => ?_)
                      have hP : va_P D vwCl (wC_Ref k b0 P0 L0_40) H := by rw [e_]; exact hP
                      have hD : va_D A (wC_Ref k b0 P0 L0_40) := by rw [e_]; exact hD
                      clear e_
                      refine lv_aload_n hx hb dX12_laySpan_238 rfl (lv_at hl 0 rfl) ?_
                      refine lv_lload hx hb dX12_laySpan_239 (lv_at hl 6 rfl) ?_
                      refine lv_lload hx hb dX12_laySpan_241 (lv_at hl 5 rfl) ?_
                      obtain ⟨h_41, hf⟩ := mb_dvl_s hf
                      refine lv_ldiv hx hb dX12_laySpan_243 h_41 ?_
                      refine lv_aload_n hx hb dX12_laySpan_244 rfl (lv_at hl 0 rfl) ?_
                      refine va_get (D := D) (ci := 12) (v := .long (L0_40 0 31)) (C := RX12) (T := TX12) (N := 42) hx hb hts iw_Ref hown hK hP 0 rfl rfl 31 (by decide) fl_171 (fun _ h9 => h9) rfl dX12_laySpan_245 ?_
                      refine W.lcmp hx hb dX12_laySpan_248 ?_
                      obtain ⟨J264_43, eJ264_43, hf⟩ := mb_jn_s hf
                      have j264_44 : ∀ (y_42 : Int64) (H : Heap) (locs : List Loc) (ls : Array Slot), J264_43 y_42 = some z → va_P D vwCl (wC_Ref k b0 P0 L0_40) H → va_D A (wC_Ref k b0 P0 L0_40) → va_S A s.heap H locs → lv_has ls 18 [(0, .ref (b0 0)), (1, .int x1), (2, .int x2), (3, .long x3), (5, .int x5_6)] → W p l e rm_Ref_laySpan s m args below meth c H locs 0 0 Q (F0 m 264 ls [.long y_42, .ref (b0 0)]) := by
                        intro y_42 H locs ls hf hP hD hS hl
                        have hf := mb_j1 eJ264_43 hf
                        obtain ⟨L0_45, e_, hf⟩ := mb_let_s hf
                        refine va_put (D := D) (ci := 12) (v := .long y_42) (ty := .long) (C := RX12) (T := TX12) (N := 42) hx hb hts iw_Ref tyX12 tyX12_ok nmX12 hown hK hP hD hS 0 rfl rfl 31 (by decide) fl_171 (fun _ h9 => h9) rfl (by decide +kernel) rfl rfl (Nat.le_of_ble_eq_true rfl) dX12_laySpan_264 (fun H locs hP hD hS => ?_)
                        have hP : va_P D vwCl (wC_Ref k b0 P0 L0_45) H := by rw [e_]; exact hP
                        have hD : va_D A (wC_Ref k b0 P0 L0_45) := by rw [e_]; exact hD
                        clear e_
                        obtain ⟨x5_46, e_, hf⟩ := mb_let_s hf
                        refine lv_iinc (v := x5_46) (lv' := [(5, .int x5_46), (0, .ref (b0 0)), (1, .int x1), (2, .int x2), (3, .long x3)]) hx hb dX12_laySpan_267 hl (k := 4) rfl (by rw [e_]; rfl) (by decide) rfl (fun ls hl => ?_)
                        clear e_
                        refine lv_goto (tgt := 15) hx hb dX12_laySpan_270 (by decide) ?_
                        exact ih_5 x5_46 L0_45 _ _ _ hf hP hD hS (lv_sub hl [1, 2, 3, 4, 0] rfl)
                      refine lv_if_ge (tgt := 260) hx hb dX12_laySpan_249 (by decide) (fun c_48 => ?_) (fun c_48 => ?_)
                      · have hf := mb_if_t c_48 hf
                        refine lv_aload_n hx hb dX12_laySpan_260 rfl (lv_at hl 0 rfl) ?_
                        refine va_get (D := D) (ci := 12) (v := .long (L0_40 0 31)) (C := RX12) (T := TX12) (N := 42) hx hb hts iw_Ref hown hK hP 0 rfl rfl 31 (by decide) fl_171 (fun _ h9 => h9) rfl dX12_laySpan_261 ?_
                        exact j264_44 (L0_40 0 31) _ _ _ hf hP hD hS (lv_sub hl [0, 1, 2, 3, 4] rfl)
                      · have hf := mb_if_f c_48 hf
                        refine lv_lload hx hb dX12_laySpan_252 (lv_at hl 6 rfl) ?_
                        refine lv_lload hx hb dX12_laySpan_254 (lv_at hl 5 rfl) ?_
                        obtain ⟨h_47, hf⟩ := mb_dvl_s hf
                        refine lv_ldiv hx hb dX12_laySpan_256 h_47 ?_
                        refine lv_goto (tgt := 264) hx hb dX12_laySpan_257 (by decide) ?_
                        exact j264_44 (x14_32 / x8_24) _ _ _ hf hP hD hS (lv_sub hl [0, 1, 2, 3, 4] rfl)
                    refine lv_if_le (tgt := 231) hx hb dX12_laySpan_223 (by decide) (fun c_49 => ?_) (fun c_49 => ?_)
                    · have hf := mb_if_t c_49 hf
                      refine lv_aload_n hx hb dX12_laySpan_231 rfl (lv_at hl 1 rfl) ?_
                      refine va_get (D := D) (ci := 12) (v := .long (L0_7 0 30)) (C := RX12) (T := TX12) (N := 42) hx hb hts iw_Ref hown hK hP 0 rfl rfl 30 (by decide) fl_168 (fun _ h9 => h9) rfl dX12_laySpan_232 ?_
                      exact j235_39 (L0_7 0 30) _ _ _ hf hP hD hS (lv_sub hl [1, 2, 3, 4, 5, 6, 7] rfl)
                    · have hf := mb_if_f c_49 hf
                      refine lv_lload hx hb dX12_laySpan_226 (lv_at hl 0 rfl) ?_
                      refine lv_goto (tgt := 235) hx hb dX12_laySpan_228 (by decide) ?_
                      exact j235_39 x16_36 _ _ _ hf hP hD hS (lv_sub hl [1, 2, 3, 4, 5, 6, 7] rfl)
                  refine lv_if_gt (tgt := 203) hx hb dX12_laySpan_196 (by decide) (fun c_51 => ?_) (fun c_51 => ?_)
                  · have hf := mb_if_t c_51 hf
                    refine lv_lload hx hb dX12_laySpan_203 (lv_at hl 1 rfl) ?_
                    refine lv_lload hx hb dX12_laySpan_205 (lv_at hl 8 rfl) ?_
                    refine lv_ladd hx hb dX12_laySpan_207 ?_
                    refine lv_lconst (v := 1) hx hb dX12_laySpan_208 (by decide) ?_
                    refine lv_lsub hx hb dX12_laySpan_209 ?_
                    refine lv_lload hx hb dX12_laySpan_210 (lv_at hl 8 rfl) ?_
                    obtain ⟨h_50, hf⟩ := mb_dvl_s hf
                    refine lv_ldiv hx hb dX12_laySpan_212 h_50 ?_
                    exact j213_35 (((x12_30 + x8_24) - (1 : Int64)) / x8_24) _ _ _ hf hP hD hS (lv_sub hl [3, 4, 5, 6, 7, 8, 0] rfl)
                  · have hf := mb_if_f c_51 hf
                    refine lv_lconst (v := 0) hx hb dX12_laySpan_199 (by decide) ?_
                    refine lv_goto (tgt := 213) hx hb dX12_laySpan_200 (by decide) ?_
                    exact j213_35 (0 : Int64) _ _ _ hf hP hD hS (lv_sub hl [3, 4, 5, 6, 7, 8, 0] rfl)
                refine lv_if_eq (tgt := 146) hx hb dX12_laySpan_130 (by decide) (fun c_54 => ?_) (fun c_54 => ?_)
                · have hf := mb_if_t c_54 hf
                  refine lv_aload_n hx hb dX12_laySpan_146 rfl (lv_at hl 1 rfl) ?_
                  refine va_get (D := D) (ci := 12) (v := .ref (b0 11)) (C := RX12) (T := TX12) (N := 42) hx hb hts iw_Ref hown hK hP 0 rfl rfl 10 (by decide) fl_32 (fun _ h9 => h9) rfl dX12_laySpan_147 ?_
                  refine lv_iload hx hb dX12_laySpan_150 (lv_at hl 5 rfl) ?_
                  refine lv_iconst (v := 2) hx hb dX12_laySpan_152 (by decide) ?_
                  refine lv_iadd hx hb dX12_laySpan_153 ?_
                  obtain ⟨h_52, hf⟩ := mb_chk_s hf
                  refine va_iald hx hb hK hP 8 0 rfl rfl h_52 dX12_laySpan_154 ?_
                  refine lv_i2l hx hb dX12_laySpan_155 rfl ?_
                  exact j156_27 (((P0 11 (x5_6 + (2 : Int32)).toNatClampNeg)).toInt64) _ _ _ hf hP hD hS (lv_sub hl [1, 2, 3, 4, 5, 0] rfl)
                · have hf := mb_if_f c_54 hf
                  refine lv_aload_n hx hb dX12_laySpan_133 rfl (lv_at hl 1 rfl) ?_
                  refine va_get (D := D) (ci := 12) (v := .ref (b0 11)) (C := RX12) (T := TX12) (N := 42) hx hb hts iw_Ref hown hK hP 0 rfl rfl 10 (by decide) fl_32 (fun _ h9 => h9) rfl dX12_laySpan_134 ?_
                  refine lv_iload hx hb dX12_laySpan_137 (lv_at hl 5 rfl) ?_
                  refine lv_iconst (v := 3) hx hb dX12_laySpan_139 (by decide) ?_
                  refine lv_iadd hx hb dX12_laySpan_140 ?_
                  obtain ⟨h_53, hf⟩ := mb_chk_s hf
                  refine va_iald hx hb hK hP 8 0 rfl rfl h_53 dX12_laySpan_141 ?_
                  refine lv_i2l hx hb dX12_laySpan_142 rfl ?_
                  refine lv_goto (tgt := 156) hx hb dX12_laySpan_143 (by decide) ?_
                  exact j156_27 (((P0 11 (x5_6 + (3 : Int32)).toNatClampNeg)).toInt64) _ _ _ hf hP hD hS (lv_sub hl [1, 2, 3, 4, 5, 0] rfl)
              refine lv_if_eq (tgt := 116) hx hb dX12_laySpan_100 (by decide) (fun c_57 => ?_) (fun c_57 => ?_)
              · have hf := mb_if_t c_57 hf
                refine lv_aload_n hx hb dX12_laySpan_116 rfl (lv_at hl 0 rfl) ?_
                refine va_get (D := D) (ci := 12) (v := .ref (b0 11)) (C := RX12) (T := TX12) (N := 42) hx hb hts iw_Ref hown hK hP 0 rfl rfl 10 (by decide) fl_32 (fun _ h9 => h9) rfl dX12_laySpan_117 ?_
                refine lv_iload hx hb dX12_laySpan_120 (lv_at hl 4 rfl) ?_
                refine lv_iconst (v := 3) hx hb dX12_laySpan_122 (by decide) ?_
                refine lv_iadd hx hb dX12_laySpan_123 ?_
                obtain ⟨h_55, hf⟩ := mb_chk_s hf
                refine va_iald hx hb hK hP 8 0 rfl rfl h_55 dX12_laySpan_124 ?_
                refine lv_i2l hx hb dX12_laySpan_125 rfl ?_
                exact j126_23 (((P0 11 (x5_6 + (3 : Int32)).toNatClampNeg)).toInt64) _ _ _ hf hP hD hS (lv_sub hl [0, 1, 2, 3, 4, 5] rfl)
              · have hf := mb_if_f c_57 hf
                refine lv_aload_n hx hb dX12_laySpan_103 rfl (lv_at hl 0 rfl) ?_
                refine va_get (D := D) (ci := 12) (v := .ref (b0 11)) (C := RX12) (T := TX12) (N := 42) hx hb hts iw_Ref hown hK hP 0 rfl rfl 10 (by decide) fl_32 (fun _ h9 => h9) rfl dX12_laySpan_104 ?_
                refine lv_iload hx hb dX12_laySpan_107 (lv_at hl 4 rfl) ?_
                refine lv_iconst (v := 2) hx hb dX12_laySpan_109 (by decide) ?_
                refine lv_iadd hx hb dX12_laySpan_110 ?_
                obtain ⟨h_56, hf⟩ := mb_chk_s hf
                refine va_iald hx hb hK hP 8 0 rfl rfl h_56 dX12_laySpan_111 ?_
                refine lv_i2l hx hb dX12_laySpan_112 rfl ?_
                refine lv_goto (tgt := 126) hx hb dX12_laySpan_113 (by decide) ?_
                exact j126_23 (((P0 11 (x5_6 + (2 : Int32)).toNatClampNeg)).toInt64) _ _ _ hf hP hD hS (lv_sub hl [0, 1, 2, 3, 4, 5] rfl)
            refine lv_if_ne (tgt := 98) hx hb dX12_laySpan_90 (by decide) (fun c_60 => ?_) (fun c_60 => ?_)
            · have hf := mb_if_f c_60 hf
              exact j98_20  _ _ _ hf hP hD hS (lv_sub hl [1, 2, 3, 4, 5, 6] rfl)
            · have hf := mb_if_t c_60 hf
              refine lv_iload hx hb dX12_laySpan_93 (lv_at hl 0 rfl) ?_
              refine lv_if_eq (tgt := 267) hx hb dX12_laySpan_95 (by decide) (fun c_59 => ?_) (fun c_59 => ?_)
              · have hf := mb_if_t c_59 hf
                obtain ⟨x5_58, e_, hf⟩ := mb_let_s hf
                refine lv_iinc (v := x5_58) (lv' := [(5, .int x5_58), (7, .int x7_18), (0, .ref (b0 0)), (1, .int x1), (2, .int x2), (3, .long x3), (6, .int x6_13)]) hx hb dX12_laySpan_267 hl (k := 5) rfl (by rw [e_]; rfl) (by decide) rfl (fun ls hl => ?_)
                clear e_
                refine lv_goto (tgt := 15) hx hb dX12_laySpan_270 (by decide) ?_
                exact ih_5 x5_58 L0_7 _ _ _ hf hP hD hS (lv_sub hl [2, 3, 4, 5, 0] rfl)
              · have hf := mb_if_f c_59 hf
                exact j98_20  _ _ _ hf hP hD hS (lv_sub hl [1, 2, 3, 4, 5, 6] rfl)
          obtain ⟨J85_61, eJ85_61, hf⟩ := mb_jn_s hf
          have j85_62 : ∀ (H : Heap) (locs : List Loc) (ls : Array Slot), J85_61 = some z → va_P D vwCl (wC_Ref k b0 P0 L0_7) H → va_D A (wC_Ref k b0 P0 L0_7) → va_S A s.heap H locs → lv_has ls 18 [(0, .ref (b0 0)), (1, .int x1), (2, .int x2), (3, .long x3), (5, .int x5_6), (6, .int x6_13)] → W p l e rm_Ref_laySpan s m args below meth c H locs 0 0 Q (F0 m 85 ls []) := by
            intro  H locs ls hf hP hD hS hl
            have hf := mb_j0 eJ85_61 hf
            refine lv_iconst (v := 0) hx hb dX12_laySpan_85 (by decide) ?_
            exact j86_17 (0 : Int32) _ _ _ hf hP hD hS (lv_sub hl [0, 1, 2, 3, 4, 5] rfl)
          refine lv_icmp_ne (tgt := 85) hx hb dX12_laySpan_65 (by decide) (fun c_65 => ?_) (fun c_65 => ?_)
          · have hf := mb_if_f c_65 hf
            exact j85_62  _ _ _ hf hP hD hS (lv_sub hl [1, 2, 3, 4, 5, 0] rfl)
          · have hf := mb_if_t c_65 hf
            refine lv_aload_n hx hb dX12_laySpan_68 rfl (lv_at hl 1 rfl) ?_
            refine va_get (D := D) (ci := 12) (v := .ref (b0 11)) (C := RX12) (T := TX12) (N := 42) hx hb hts iw_Ref hown hK hP 0 rfl rfl 10 (by decide) fl_32 (fun _ h9 => h9) rfl dX12_laySpan_69 ?_
            refine lv_iload hx hb dX12_laySpan_72 (lv_at hl 5 rfl) ?_
            refine lv_iconst (v := 1) hx hb dX12_laySpan_74 (by decide) ?_
            refine lv_iadd hx hb dX12_laySpan_75 ?_
            obtain ⟨h_63, hf⟩ := mb_chk_s hf
            refine va_iald hx hb hK hP 8 0 rfl rfl h_63 dX12_laySpan_76 ?_
            refine lv_iload_n hx hb dX12_laySpan_77 rfl (lv_at hl 2 rfl) ?_
            refine lv_icmp_ne (tgt := 85) hx hb dX12_laySpan_78 (by decide) (fun c_64 => ?_) (fun c_64 => ?_)
            · have hf := mb_if_f c_64 hf
              exact j85_62  _ _ _ hf hP hD hS (lv_sub hl [1, 2, 3, 4, 5, 0] rfl)
            · have hf := mb_if_t c_64 hf
              refine lv_iconst (v := 1) hx hb dX12_laySpan_81 (by decide) ?_
              refine lv_goto (tgt := 86) hx hb dX12_laySpan_82 (by decide) ?_
              exact j86_17 (1 : Int32) _ _ _ hf hP hD hS (lv_sub hl [1, 2, 3, 4, 5, 0] rfl)
        obtain ⟨J54_66, eJ54_66, hf⟩ := mb_jn_s hf
        have j54_67 : ∀ (H : Heap) (locs : List Loc) (ls : Array Slot), J54_66 = some z → va_P D vwCl (wC_Ref k b0 P0 L0_7) H → va_D A (wC_Ref k b0 P0 L0_7) → va_S A s.heap H locs → lv_has ls 18 [(0, .ref (b0 0)), (1, .int x1), (2, .int x2), (3, .long x3), (5, .int x5_6)] → W p l e rm_Ref_laySpan s m args below meth c H locs 0 0 Q (F0 m 54 ls []) := by
          intro  H locs ls hf hP hD hS hl
          have hf := mb_j0 eJ54_66 hf
          refine lv_iconst (v := 0) hx hb dX12_laySpan_54 (by decide) ?_
          exact j55_12 (0 : Int32) _ _ _ hf hP hD hS (lv_sub hl [0, 1, 2, 3, 4] rfl)
        refine lv_icmp_ne (tgt := 54) hx hb dX12_laySpan_34 (by decide) (fun c_70 => ?_) (fun c_70 => ?_)
        · have hf := mb_if_f c_70 hf
          exact j54_67  _ _ _ hf hP hD hS (lv_sub hl [0, 1, 2, 3, 4] rfl)
        · have hf := mb_if_t c_70 hf
          refine lv_aload_n hx hb dX12_laySpan_37 rfl (lv_at hl 0 rfl) ?_
          refine va_get (D := D) (ci := 12) (v := .ref (b0 11)) (C := RX12) (T := TX12) (N := 42) hx hb hts iw_Ref hown hK hP 0 rfl rfl 10 (by decide) fl_32 (fun _ h9 => h9) rfl dX12_laySpan_38 ?_
          refine lv_iload hx hb dX12_laySpan_41 (lv_at hl 4 rfl) ?_
          refine lv_iconst (v := 1) hx hb dX12_laySpan_43 (by decide) ?_
          refine lv_iadd hx hb dX12_laySpan_44 ?_
          obtain ⟨h_68, hf⟩ := mb_chk_s hf
          refine va_iald hx hb hK hP 8 0 rfl rfl h_68 dX12_laySpan_45 ?_
          refine lv_iload_n hx hb dX12_laySpan_46 rfl (lv_at hl 2 rfl) ?_
          refine lv_icmp_ne (tgt := 54) hx hb dX12_laySpan_47 (by decide) (fun c_69 => ?_) (fun c_69 => ?_)
          · have hf := mb_if_f c_69 hf
            exact j54_67  _ _ _ hf hP hD hS (lv_sub hl [0, 1, 2, 3, 4] rfl)
          · have hf := mb_if_t c_69 hf
            refine lv_iconst (v := 1) hx hb dX12_laySpan_50 (by decide) ?_
            refine lv_goto (tgt := 55) hx hb dX12_laySpan_51 (by decide) ?_
            exact j55_12 (1 : Int32) _ _ _ hf hP hD hS (lv_sub hl [0, 1, 2, 3, 4] rfl)
  exact lp15_4 mb_fu x5_3 L0_2 _ _ _ hf hP hD hS (lv_sub hl [1, 2, 3, 4, 0] rfl)
def f_Ref_span_137_b (L0_7 : PL) (x3 : Int32) (x9_22 : Int32) (K262_28 : Int64 → Int32 → Int32 → Option (Int32 × PL)) (self_37 : Int64 → Int32 → Int32 → Int32 → Option (Int32 × PL)) (x5_33 : Int64) (x7_34 : Int32) (x8_35 : Int32) (x10_36 : Int32) : Option (Int32 × PL) := (if (10 : Int32) < x10_36 then K262_28 x5_33 x7_34 x8_35 else mb_dvl (x9_22).toInt64 (mb_let (((x10_36).toInt64 * (x3).toInt64) / (x9_22).toInt64) (fun (x11_39 : Int64) => mb_jn (fun (y_40 : Int64) => mb_let y_40 (fun (x13_43 : Int64) => mb_let ((((L0_7 0 31) - (L0_7 0 30)) + (1 : Int64)) - x13_43) (fun (x15_44 : Int64) => mb_jn (fun (y_45 : Int64) => mb_let y_45 (fun (x17_48 : Int64) => (if 0 ≤ (lg_cmp x17_48 x5_33) then mb_let (x10_36 + (1 : Int32)) (fun (x10_49 : Int32) => self_37 x5_33 x7_34 x8_35 x10_49) else mb_let x17_48 (fun (x5_50 : Int64) => mb_let x9_22 (fun (x7_51 : Int32) => mb_let x10_36 (fun (x8_52 : Int32) => mb_let (x10_36 + (1 : Int32)) (fun (x10_53 : Int32) => self_37 x5_50 x7_51 x8_52 x10_53))))))) (fun J234_46 => (if (lg_cmp x13_43 x15_44) ≤ 0 then J234_46 x15_44 else J234_46 x13_43))))) (fun J201_41 => (if (lg_cmp x11_39 (L0_7 0 31)) < 0 then (if 0 ≤ (lg_cmp x11_39 (L0_7 0 30)) then J201_41 ((L0_7 0 31) - x11_39) else J201_41 (((L0_7 0 31) - (L0_7 0 30)) + (1 : Int64))) else J201_41 (0 : Int64))))))
def f_Ref_span_137 (L0_7 : PL) (x3 : Int32) (x9_22 : Int32) (K262_28 : Int64 → Int32 → Int32 → Option (Int32 × PL)) : Nat → Int64 → Int32 → Int32 → Int32 → Option (Int32 × PL)
  | 0, _, _, _, _ => none
  | n + 1, x5_33, x7_34, x8_35, x10_36 => f_Ref_span_137_b L0_7 x3 x9_22 K262_28 (f_Ref_span_137 L0_7 x3 x9_22 K262_28 n) x5_33 x7_34 x8_35 x10_36
def f_Ref_span_127_b (L0_7 : PL) (x3 : Int32) (K268_14 : Int32 → Int32 → Option (Int32 × PL)) (self_23 : Int64 → Int32 → Int32 → Int32 → Option (Int32 × PL)) (x5_19 : Int64) (x7_20 : Int32) (x8_21 : Int32) (x9_22 : Int32) : Option (Int32 × PL) := (if (10 : Int32) < x9_22 then K268_14 x7_20 x8_21 else mb_let (1 : Int32) (fun (x10_24 : Int32) => mb_jn (fun (x5_25 : Int64) (x7_26 : Int32) (x8_27 : Int32) => mb_let (x9_22 + (1 : Int32)) (fun (x9_30 : Int32) => self_23 x5_25 x7_26 x8_27 x9_30)) (fun K262_28 => f_Ref_span_137 L0_7 x3 x9_22 K262_28 mb_fu x5_19 x7_20 x8_21 x10_24)))
def f_Ref_span_127 (L0_7 : PL) (x3 : Int32) (K268_14 : Int32 → Int32 → Option (Int32 × PL)) : Nat → Int64 → Int32 → Int32 → Int32 → Option (Int32 × PL)
  | 0, _, _, _, _ => none
  | n + 1, x5_19, x7_20, x8_21, x9_22 => f_Ref_span_127_b L0_7 x3 K268_14 (f_Ref_span_127 L0_7 x3 K268_14 n) x5_19 x7_20 x8_21 x9_22
def f_Ref_span (P0 : PI) (L0 : PL) (x1 : Int32) (x2 : Int32) (x3 : Int32) (x4 : Int32) : Option (Int32 × PL) := mb_bd1 (f_Ref_isUnit P0 x1) (fun (r_1 : Int32) => (if r_1 = 0 then some ((-1 : Int32), L0) else mb_bd1 (f_Ref_isUnit P0 x2) (fun (r_2 : Int32) => (if r_2 = 0 then some ((-1 : Int32), L0) else mb_bd1 (f_Ref_in ((x3).toInt64) (1 : Int64) (1000000 : Int64)) (fun (r_3 : Int32) => (if r_3 = 0 then some ((-1 : Int32), L0) else mb_bd1 (f_Ref_in ((x4).toInt64) (0 : Int64) (3 : Int64)) (fun (r_4 : Int32) => (if r_4 = 0 then some ((-1 : Int32), L0) else (if x1 = x2 then some ((-2 : Int32), L0) else mb_chk x1 16 (mb_chk x2 16 ((if (P0 2 x1.toNatClampNeg) = (P0 2 x2.toNatClampNeg) then mb_bd1 (f_Ref_laySpan P0 L0 x1 x2 ((x3).toInt64)) (fun (L0_7 : PL) => (if (lg_cmp (L0_7 0 30) (L0_7 0 31)) ≤ 0 then (if (2 : Int32) ≤ x4 then mb_let (2000000 : Int64) (fun (x5_8 : Int64) => mb_let (0 : Int32) (fun (x7_9 : Int32) => mb_let (0 : Int32) (fun (x8_10 : Int32) => mb_let (1 : Int32) (fun (x9_11 : Int32) => mb_jn (fun (x7_12 : Int32) (x8_13 : Int32) => (if x4 = (2 : Int32) then some (x7_12, L0_7) else some (x8_13, L0_7))) (fun K268_14 => f_Ref_span_127 L0_7 x3 K268_14 mb_fu x5_8 x7_9 x8_10 x9_11))))) else (if x4 = 0 then some (((L0_7 0 30)).toInt32, L0_7) else some (((L0_7 0 31)).toInt32, L0_7))) else some ((-4 : Int32), L0_7))) else some ((-2 : Int32), L0)))))))))))))
def rm_Ref_span : Room := { frames := 2, cells := 0, slots := 0, locals := 46 }
set_option maxHeartbeats 4000000 in
set_option maxRecDepth 100000 in
theorem c_Ref_span (l : Launch) (D : va_G) (k : Nat → ClassId) (sz : Nat) (b0 : Nat → Nat) (P0 : PI) (L0 : PL) (x1 : Int32) (x2 : Int32) (x3 : Int32) (x4 : Int32) (z : Int32 × PL) (hf : f_Ref_span P0 L0 x1 x2 x3 x4 = some z) : Met l yX12_span wsX12_span rm_Ref_span (va_Pc [.ref (b0 0), .int x1, .int x2, .int x3, .int x4] (gw_pre D vwCl (tyL k) (wC_Ref k b0 P0 L0) sz)) (va_Qi (fun (r : Int32) (_ : Unit) => r = z.1) (gw_b D vwCl (tyL k) (va_A (wC_Ref k b0 P0 L0) sz) (wC_Ref k b0 P0 z.2)) (va_A (wC_Ref k b0 P0 L0) sz)) 0 0 (va_A (wC_Ref k b0 P0 L0) sz) := by
  refine gm_i (cc := cX12_span) (maxL := 19) (by decide) rfl (Nat.le_of_ble_eq_true rfl) ?_
  intro p e s m args below meth c A Q ls H locs hx hb hml hown hts hK hN hA hP hD hS hl hret
  have hown : s.vm.findClass RX12 = some m.cls := hown
  have hl : lv_has ls 19 [(0, .ref (b0 0)), (1, .int x1), (2, .int x2), (3, .int x3), (4, .int x4)] := hl
  have iw_Ref : ∀ w ∈ u_ws RX12 TX12 42, w ∈ wsX12_span := by decide +kernel
  have fl_7 := hts (.fieldLink RX12 7 "OneMeasureModel" "sort" "[I") (by decide +kernel)
  have fl_168 := hts (.fieldLink RX12 168 "OneMeasureModel" "low" "J") (by decide +kernel)
  have fl_171 := hts (.fieldLink RX12 171 "OneMeasureModel" "high" "J") (by decide +kernel)
  have lc_97 := hts (.constantLong RX12 97 (1000000)) (by decide +kernel)
  have lc_107 := hts (.constantLong RX12 107 (3)) (by decide +kernel)
  have lc_178 := hts (.constantLong RX12 178 (2000000)) (by decide +kernel)
  unfold f_Ref_span at hf
  refine lv_aload_n hx hb dX12_span_0 rfl (lv_at hl 0 rfl) ?_
  refine lv_iload_n hx hb dX12_span_1 rfl (lv_at hl 1 rfl) ?_
  obtain ⟨r_1, hz, hf⟩ := mb_bd1_s hf
  refine gc_i (r0 := r_1) (ws' := (wC_Ref k b0 P0 L0)) (wr := ([] : va_W)) (va_runV (As := [.int x1]) (rest := []) ⟨hx, hb, hml, hown, hts⟩ (c_Ref_isUnit l D k H.size b0 P0 L0 x1 r_1 hz) (cwV 1 hts gX12_span_X12_isUnit rfl rfl rfl (by decide +kernel) ⟨Nat.le_of_ble_eq_true rfl, Nat.le_of_ble_eq_true rfl⟩) (gp_V (ci := 12) (q0 := 0) (q := (RX12, TX12, 42)) hP hD hK hN [0, 1, 2, 3, 4, 5, 6, 7, 8, 9, 10, 11, 12, 13, 14, 15, 16, 17, 18, 19, 20, 21, 22, 23, 24, 25] (by decide +kernel) rfl rfl rfl) rfl rfl hl.1 rfl (lv_room (Nat.le_of_ble_eq_true rfl)) dX12_span_2 ⟨Nat.zero_le _, Nat.zero_le _⟩) hP hD hS hA [0, 1, 2, 3, 4, 5, 6, 7, 8, 9, 10, 11, 12, 13, 14, 15, 16, 17, 18, 19, 20, 21, 22, 23, 24, 25] [] rfl rfl (by decide +kernel) (by decide +kernel) [0, 1, 2, 3, 4, 5, 6, 7, 8, 9, 10, 11, 12, 13, 14, 15, 16, 17, 18, 19, 20, 21, 22, 23, 24, 25] (by decide +kernel) rfl (fun H locs hP hD hS => ?_)
  clear hz
  refine lv_if_eq (tgt := 41) hx hb dX12_span_5 (by decide) (fun c_68 => ?_) (fun c_68 => ?_)
  · have hf := mb_if_t c_68 hf
    refine lv_iconst (v := (-1)) hx hb dX12_span_41 (by decide) ?_
    have hz := Option.some.inj hf
    subst hz
    exact hret _ _ _ _ dX12_span_42 hP hD hS
  · have hf := mb_if_f c_68 hf
    refine lv_aload_n hx hb dX12_span_8 rfl (lv_at hl 0 rfl) ?_
    refine lv_iload_n hx hb dX12_span_9 rfl (lv_at hl 2 rfl) ?_
    obtain ⟨r_2, hz, hf⟩ := mb_bd1_s hf
    refine gc_i (r0 := r_2) (ws' := (wC_Ref k b0 P0 L0)) (wr := ([] : va_W)) (va_runV (As := [.int x2]) (rest := []) ⟨hx, hb, hml, hown, hts⟩ (c_Ref_isUnit l D k H.size b0 P0 L0 x2 r_2 hz) (cwV 1 hts gX12_span_X12_isUnit rfl rfl rfl (by decide +kernel) ⟨Nat.le_of_ble_eq_true rfl, Nat.le_of_ble_eq_true rfl⟩) (gp_V (ci := 12) (q0 := 0) (q := (RX12, TX12, 42)) hP hD hK hN [0, 1, 2, 3, 4, 5, 6, 7, 8, 9, 10, 11, 12, 13, 14, 15, 16, 17, 18, 19, 20, 21, 22, 23, 24, 25] (by decide +kernel) rfl rfl rfl) rfl rfl hl.1 rfl (lv_room (Nat.le_of_ble_eq_true rfl)) dX12_span_10 ⟨Nat.zero_le _, Nat.zero_le _⟩) hP hD hS hA [0, 1, 2, 3, 4, 5, 6, 7, 8, 9, 10, 11, 12, 13, 14, 15, 16, 17, 18, 19, 20, 21, 22, 23, 24, 25] [] rfl rfl (by decide +kernel) (by decide +kernel) [0, 1, 2, 3, 4, 5, 6, 7, 8, 9, 10, 11, 12, 13, 14, 15, 16, 17, 18, 19, 20, 21, 22, 23, 24, 25] (by decide +kernel) rfl (fun H locs hP hD hS => ?_)
    clear hz
    refine lv_if_eq (tgt := 41) hx hb dX12_span_13 (by decide) (fun c_67 => ?_) (fun c_67 => ?_)
    · have hf := mb_if_t c_67 hf
      refine lv_iconst (v := (-1)) hx hb dX12_span_41 (by decide) ?_
      have hz := Option.some.inj hf
      subst hz
      exact hret _ _ _ _ dX12_span_42 hP hD hS
    · have hf := mb_if_f c_67 hf
      refine lv_iload_n hx hb dX12_span_16 rfl (lv_at hl 3 rfl) ?_
      refine lv_i2l hx hb dX12_span_17 rfl ?_
      refine lv_lconst (v := 1) hx hb dX12_span_18 (by decide) ?_
      refine lv_ldc2 (v := (1000000)) hx hb hown lc_97 dX12_span_19 ?_
      obtain ⟨r_3, hz, hf⟩ := mb_bd1_s hf
      refine gc_i (r0 := r_3) (ws' := (wC_Ref k b0 P0 L0)) (wr := (wC_Ref k b0 P0 L0)) (va_runS (As := [.long (x3).toInt64, .long (1 : Int64), .long (1000000 : Int64)]) (rest := []) ⟨hx, hb, hml, hown, hts⟩ (c_Ref_in l D k H.size ((x3).toInt64) (1 : Int64) (1000000 : Int64) r_3 hz) (cwS 3 hts gX12_span_X12_in rfl rfl rfl (by decide +kernel) ⟨Nat.le_of_ble_eq_true rfl, Nat.le_of_ble_eq_true rfl⟩) (gp_S hP hD hK hN [] (by decide +kernel) rfl) rfl rfl hl.1 rfl (lv_room (Nat.le_of_ble_eq_true rfl)) dX12_span_22 ⟨Nat.zero_le _, Nat.zero_le _⟩) hP hD hS hA [] [0, 1, 2, 3, 4, 5, 6, 7, 8, 9, 10, 11, 12, 13, 14, 15, 16, 17, 18, 19, 20, 21, 22, 23, 24, 25] rfl rfl (by decide +kernel) (by decide +kernel) [0, 1, 2, 3, 4, 5, 6, 7, 8, 9, 10, 11, 12, 13, 14, 15, 16, 17, 18, 19, 20, 21, 22, 23, 24, 25] (by decide +kernel) rfl (fun H locs hP hD hS => ?_)
      clear hz
      refine lv_if_eq (tgt := 41) hx hb dX12_span_25 (by decide) (fun c_66 => ?_) (fun c_66 => ?_)
      · have hf := mb_if_t c_66 hf
        refine lv_iconst (v := (-1)) hx hb dX12_span_41 (by decide) ?_
        have hz := Option.some.inj hf
        subst hz
        exact hret _ _ _ _ dX12_span_42 hP hD hS
      · have hf := mb_if_f c_66 hf
        refine lv_iload hx hb dX12_span_28 (lv_at hl 4 rfl) ?_
        refine lv_i2l hx hb dX12_span_30 rfl ?_
        refine lv_lconst (v := 0) hx hb dX12_span_31 (by decide) ?_
        refine lv_ldc2 (v := (3)) hx hb hown lc_107 dX12_span_32 ?_
        obtain ⟨r_4, hz, hf⟩ := mb_bd1_s hf
        refine gc_i (r0 := r_4) (ws' := (wC_Ref k b0 P0 L0)) (wr := (wC_Ref k b0 P0 L0)) (va_runS (As := [.long (x4).toInt64, .long (0 : Int64), .long (3 : Int64)]) (rest := []) ⟨hx, hb, hml, hown, hts⟩ (c_Ref_in l D k H.size ((x4).toInt64) (0 : Int64) (3 : Int64) r_4 hz) (cwS 3 hts gX12_span_X12_in rfl rfl rfl (by decide +kernel) ⟨Nat.le_of_ble_eq_true rfl, Nat.le_of_ble_eq_true rfl⟩) (gp_S hP hD hK hN [] (by decide +kernel) rfl) rfl rfl hl.1 rfl (lv_room (Nat.le_of_ble_eq_true rfl)) dX12_span_35 ⟨Nat.zero_le _, Nat.zero_le _⟩) hP hD hS hA [] [0, 1, 2, 3, 4, 5, 6, 7, 8, 9, 10, 11, 12, 13, 14, 15, 16, 17, 18, 19, 20, 21, 22, 23, 24, 25] rfl rfl (by decide +kernel) (by decide +kernel) [0, 1, 2, 3, 4, 5, 6, 7, 8, 9, 10, 11, 12, 13, 14, 15, 16, 17, 18, 19, 20, 21, 22, 23, 24, 25] (by decide +kernel) rfl (fun H locs hP hD hS => ?_)
        clear hz
        refine lv_if_ne (tgt := 43) hx hb dX12_span_38 (by decide) (fun c_65 => ?_) (fun c_65 => ?_)
        · have hf := mb_if_f c_65 hf
          refine lv_iload_n hx hb dX12_span_43 rfl (lv_at hl 1 rfl) ?_
          refine lv_iload_n hx hb dX12_span_44 rfl (lv_at hl 2 rfl) ?_
          refine lv_icmp_eq (tgt := 63) hx hb dX12_span_45 (by decide) (fun c_64 => ?_) (fun c_64 => ?_)
          · have hf := mb_if_t c_64 hf
            refine lv_bipush (v := (-2)) hx hb dX12_span_63 (by decide) ?_
            have hz := Option.some.inj hf
            subst hz
            exact hret _ _ _ _ dX12_span_65 hP hD hS
          · have hf := mb_if_f c_64 hf
            refine lv_aload_n hx hb dX12_span_48 rfl (lv_at hl 0 rfl) ?_
            refine va_get (D := D) (ci := 12) (v := .ref (b0 2)) (C := RX12) (T := TX12) (N := 42) hx hb hts iw_Ref hown hK hP 0 rfl rfl 1 (by decide) fl_7 (fun _ h9 => h9) rfl dX12_span_49 ?_
            refine lv_iload_n hx hb dX12_span_52 rfl (lv_at hl 1 rfl) ?_
            obtain ⟨h_5, hf⟩ := mb_chk_s hf
            refine va_iald hx hb hK hP 1 0 rfl rfl h_5 dX12_span_53 ?_
            refine lv_aload_n hx hb dX12_span_54 rfl (lv_at hl 0 rfl) ?_
            refine va_get (D := D) (ci := 12) (v := .ref (b0 2)) (C := RX12) (T := TX12) (N := 42) hx hb hts iw_Ref hown hK hP 0 rfl rfl 1 (by decide) fl_7 (fun _ h9 => h9) rfl dX12_span_55 ?_
            refine lv_iload_n hx hb dX12_span_58 rfl (lv_at hl 2 rfl) ?_
            obtain ⟨h_6, hf⟩ := mb_chk_s hf
            refine va_iald hx hb hK hP 1 0 rfl rfl h_6 dX12_span_59 ?_
            refine lv_icmp_eq (tgt := 66) hx hb dX12_span_60 (by decide) (fun c_63 => ?_) (fun c_63 => ?_)
            · have hf := mb_if_t c_63 hf
              refine lv_aload_n hx hb dX12_span_66 rfl (lv_at hl 0 rfl) ?_
              refine lv_iload_n hx hb dX12_span_67 rfl (lv_at hl 1 rfl) ?_
              refine lv_iload_n hx hb dX12_span_68 rfl (lv_at hl 2 rfl) ?_
              refine lv_iload_n hx hb dX12_span_69 rfl (lv_at hl 3 rfl) ?_
              refine lv_i2l hx hb dX12_span_70 rfl ?_
              obtain ⟨L0_7, hz, hf⟩ := mb_bd1_s hf
              refine gc_v (ws' := (wC_Ref k b0 P0 L0_7)) (wr := ([] : va_W)) (va_runV (As := [.int x1, .int x2, .long (x3).toInt64]) (rest := []) ⟨hx, hb, hml, hown, hts⟩ (c_Ref_laySpan l D k H.size b0 P0 L0 x1 x2 ((x3).toInt64) L0_7 hz) (cwV 3 hts gX12_span_X12_laySpan rfl rfl rfl (by decide +kernel) ⟨Nat.le_of_ble_eq_true rfl, Nat.le_of_ble_eq_true rfl⟩) (gp_V (ci := 12) (q0 := 0) (q := (RX12, TX12, 42)) hP hD hK hN [0, 1, 2, 3, 4, 5, 6, 7, 8, 9, 10, 11, 12, 13, 14, 15, 16, 17, 18, 19, 20, 21, 22, 23, 24, 25] (by decide +kernel) rfl rfl rfl) rfl rfl hl.1 rfl (lv_room (Nat.le_of_ble_eq_true rfl)) dX12_span_71 ⟨Nat.zero_le _, Nat.zero_le _⟩) hP hD hS hA [0, 1, 2, 3, 4, 5, 6, 7, 8, 9, 10, 11, 12, 13, 14, 15, 16, 17, 18, 19, 20, 21, 22, 23, 24, 25] [] rfl rfl (by decide +kernel) (by decide +kernel) [0, 1, 2, 3, 4, 5, 6, 7, 8, 9, 10, 11, 12, 13, 14, 15, 16, 17, 18, 19, 20, 21, 22, 23, 24, 25] (by decide +kernel) rfl (fun H locs hP hD hS => ?_)
              clear hz
              refine lv_aload_n hx hb dX12_span_74 rfl (lv_at hl 0 rfl) ?_
              refine va_get (D := D) (ci := 12) (v := .long (L0_7 0 30)) (C := RX12) (T := TX12) (N := 42) hx hb hts iw_Ref hown hK hP 0 rfl rfl 30 (by decide) fl_168 (fun _ h9 => h9) rfl dX12_span_75 ?_
              refine lv_aload_n hx hb dX12_span_78 rfl (lv_at hl 0 rfl) ?_
              refine va_get (D := D) (ci := 12) (v := .long (L0_7 0 31)) (C := RX12) (T := TX12) (N := 42) hx hb hts iw_Ref hown hK hP 0 rfl rfl 31 (by decide) fl_171 (fun _ h9 => h9) rfl dX12_span_79 ?_
              refine W.lcmp hx hb dX12_span_82 ?_
              refine lv_if_le (tgt := 89) hx hb dX12_span_83 (by decide) (fun c_62 => ?_) (fun c_62 => ?_)
              · have hf := mb_if_t c_62 hf
                refine lv_iload hx hb dX12_span_89 (lv_at hl 4 rfl) ?_
                refine lv_iconst (v := 2) hx hb dX12_span_91 (by decide) ?_
                refine lv_icmp_ge (tgt := 113) hx hb dX12_span_92 (by decide) (fun c_61 => ?_) (fun c_61 => ?_)
                · have hf := mb_if_t c_61 hf
                  refine lv_ldc2 (v := (2000000)) hx hb hown lc_178 dX12_span_113 ?_
                  obtain ⟨x5_8, e_, hf⟩ := mb_let_s hf
                  refine mb_topl e_ ?_
                  clear e_
                  refine lv_lstore (lv' := [(5, .long x5_8), (0, .ref (b0 0)), (1, .int x1), (2, .int x2), (3, .int x3), (4, .int x4)]) hx hb dX12_span_116 hl (by decide) rfl (fun ls hl => ?_)
                  refine lv_iconst (v := 0) hx hb dX12_span_118 (by decide) ?_
                  obtain ⟨x7_9, e_, hf⟩ := mb_let_s hf
                  refine mb_topi e_ ?_
                  clear e_
                  refine lv_istore (lv' := [(7, .int x7_9), (5, .long x5_8), (0, .ref (b0 0)), (1, .int x1), (2, .int x2), (3, .int x3), (4, .int x4)]) hx hb dX12_span_119 hl (by decide) rfl (fun ls hl => ?_)
                  refine lv_iconst (v := 0) hx hb dX12_span_121 (by decide) ?_
                  obtain ⟨x8_10, e_, hf⟩ := mb_let_s hf
                  refine mb_topi e_ ?_
                  clear e_
                  refine lv_istore (lv' := [(8, .int x8_10), (7, .int x7_9), (5, .long x5_8), (0, .ref (b0 0)), (1, .int x1), (2, .int x2), (3, .int x3), (4, .int x4)]) hx hb dX12_span_122 hl (by decide) rfl (fun ls hl => ?_)
                  refine lv_iconst (v := 1) hx hb dX12_span_124 (by decide) ?_
                  obtain ⟨x9_11, e_, hf⟩ := mb_let_s hf
                  refine mb_topi e_ ?_
                  clear e_
                  refine lv_istore (lv' := [(9, .int x9_11), (8, .int x8_10), (7, .int x7_9), (5, .long x5_8), (0, .ref (b0 0)), (1, .int x1), (2, .int x2), (3, .int x3), (4, .int x4)]) hx hb dX12_span_125 hl (by decide) rfl (fun ls hl => ?_)
                  obtain ⟨K268_14, eK268_14, hf⟩ := mb_jn_s hf
                  have k268_15 : ∀ (x7_12 : Int32) (x8_13 : Int32) (H : Heap) (locs : List Loc) (ls : Array Slot), K268_14 x7_12 x8_13 = some z → va_P D vwCl (wC_Ref k b0 P0 L0_7) H → va_D A (wC_Ref k b0 P0 L0_7) → va_S A s.heap H locs → lv_has ls 19 [(4, .int x4), (7, .int x7_12), (8, .int x8_13)] → W p l e rm_Ref_span s m args below meth c H locs 0 0 Q (F0 m 268 ls []) := by
                    intro x7_12 x8_13 H locs ls hf hP hD hS hl
                    have hf := mb_j2 eK268_14 hf
                    refine lv_iload hx hb dX12_span_268 (lv_at hl 0 rfl) ?_
                    refine lv_iconst (v := 2) hx hb dX12_span_270 (by decide) ?_
                    refine lv_icmp_ne (tgt := 279) hx hb dX12_span_271 (by decide) (fun c_16 => ?_) (fun c_16 => ?_)
                    · have hf := mb_if_f c_16 hf
                      refine lv_iload hx hb dX12_span_279 (lv_at hl 2 rfl) ?_
                      have hz := Option.some.inj hf
                      subst hz
                      exact hret _ _ _ _ dX12_span_281 hP hD hS
                    · have hf := mb_if_t c_16 hf
                      refine lv_iload hx hb dX12_span_274 (lv_at hl 1 rfl) ?_
                      refine lv_goto (tgt := 281) hx hb dX12_span_276 (by decide) ?_
                      have hz := Option.some.inj hf
                      subst hz
                      exact hret _ _ _ _ dX12_span_281 hP hD hS
                  have lp127_17 : ∀ (n : Nat) (x5_19 : Int64) (x7_20 : Int32) (x8_21 : Int32) (x9_22 : Int32) (H : Heap) (locs : List Loc) (ls : Array Slot), f_Ref_span_127 L0_7 x3 K268_14 n x5_19 x7_20 x8_21 x9_22 = some z → va_P D vwCl (wC_Ref k b0 P0 L0_7) H → va_D A (wC_Ref k b0 P0 L0_7) → va_S A s.heap H locs → lv_has ls 19 [(0, .ref (b0 0)), (3, .int x3), (4, .int x4), (5, .long x5_19), (7, .int x7_20), (8, .int x8_21), (9, .int x9_22)] → W p l e rm_Ref_span s m args below meth c H locs 0 0 Q (F0 m 127 ls []) := by
                    intro n
                    induction n with
                    | zero =>
                      intro x5_19 x7_20 x8_21 x9_22 H locs ls hf
                      exact nomatch (show (none : Option (Int32 × PL)) = some z from hf)
                    | succ n ih_18 =>
                      intro x5_19 x7_20 x8_21 x9_22 H locs ls hf hP hD hS hl
                      have hf : f_Ref_span_127_b L0_7 x3 K268_14 (f_Ref_span_127 L0_7 x3 K268_14 n) x5_19 x7_20 x8_21 x9_22 = some z := hf
                      unfold f_Ref_span_127_b at hf
                      refine lv_iload hx hb dX12_span_127 (lv_at hl 6 rfl) ?_
                      refine lv_bipush (v := 10) hx hb dX12_span_129 (by decide) ?_
                      refine lv_icmp_gt (tgt := 268) hx hb dX12_span_131 (by decide) (fun c_59 => ?_) (fun c_59 => ?_)
                      · have hf := mb_if_t c_59 hf
                        exact k268_15 x7_20 x8_21 _ _ _ hf hP hD hS (lv_sub hl [2, 4, 5] rfl)
                      · have hf := mb_if_f c_59 hf
                        refine lv_iconst (v := 1) hx hb dX12_span_134 (by decide) ?_
                        obtain ⟨x10_24, e_, hf⟩ := mb_let_s hf
                        refine mb_topi e_ ?_
                        clear e_
                        refine lv_istore (lv' := [(10, .int x10_24), (0, .ref (b0 0)), (3, .int x3), (4, .int x4), (5, .long x5_19), (7, .int x7_20), (8, .int x8_21), (9, .int x9_22)]) hx hb dX12_span_135 hl (by decide) rfl (fun ls hl => ?_)
                        obtain ⟨K262_28, eK262_28, hf⟩ := mb_jn_s hf
                        have k262_29 : ∀ (x5_25 : Int64) (x7_26 : Int32) (x8_27 : Int32) (H : Heap) (locs : List Loc) (ls : Array Slot), K262_28 x5_25 x7_26 x8_27 = some z → va_P D vwCl (wC_Ref k b0 P0 L0_7) H → va_D A (wC_Ref k b0 P0 L0_7) → va_S A s.heap H locs → lv_has ls 19 [(0, .ref (b0 0)), (3, .int x3), (4, .int x4), (5, .long x5_25), (7, .int x7_26), (8, .int x8_27), (9, .int x9_22)] → W p l e rm_Ref_span s m args below meth c H locs 0 0 Q (F0 m 262 ls []) := by
                          intro x5_25 x7_26 x8_27 H locs ls hf hP hD hS hl
                          have hf := mb_j3 eK262_28 hf
                          obtain ⟨x9_30, e_, hf⟩ := mb_let_s hf
                          refine lv_iinc (v := x9_30) (lv' := [(9, .int x9_30), (0, .ref (b0 0)), (3, .int x3), (4, .int x4), (5, .long x5_25), (7, .int x7_26), (8, .int x8_27)]) hx hb dX12_span_262 hl (k := 6) rfl (by rw [e_]; rfl) (by decide) rfl (fun ls hl => ?_)
                          clear e_
                          refine lv_goto (tgt := 127) hx hb dX12_span_265 (by decide) ?_
                          exact ih_18 x5_25 x7_26 x8_27 x9_30 _ _ _ hf hP hD hS (lv_sub hl [1, 2, 3, 4, 5, 6, 0] rfl)
                        have lp137_31 : ∀ (n : Nat) (x5_33 : Int64) (x7_34 : Int32) (x8_35 : Int32) (x10_36 : Int32) (H : Heap) (locs : List Loc) (ls : Array Slot), f_Ref_span_137 L0_7 x3 x9_22 K262_28 n x5_33 x7_34 x8_35 x10_36 = some z → va_P D vwCl (wC_Ref k b0 P0 L0_7) H → va_D A (wC_Ref k b0 P0 L0_7) → va_S A s.heap H locs → lv_has ls 19 [(0, .ref (b0 0)), (3, .int x3), (4, .int x4), (5, .long x5_33), (7, .int x7_34), (8, .int x8_35), (9, .int x9_22), (10, .int x10_36)] → W p l e rm_Ref_span s m args below meth c H locs 0 0 Q (F0 m 137 ls []) := by
                          intro n
                          induction n with
                          | zero =>
                            intro x5_33 x7_34 x8_35 x10_36 H locs ls hf
                            exact nomatch (show (none : Option (Int32 × PL)) = some z from hf)
                          | succ n ih_32 =>
                            intro x5_33 x7_34 x8_35 x10_36 H locs ls hf hP hD hS hl
                            have hf : f_Ref_span_137_b L0_7 x3 x9_22 K262_28 (f_Ref_span_137 L0_7 x3 x9_22 K262_28 n) x5_33 x7_34 x8_35 x10_36 = some z := hf
                            unfold f_Ref_span_137_b at hf
                            refine lv_iload hx hb dX12_span_137 (lv_at hl 7 rfl) ?_
                            refine lv_bipush (v := 10) hx hb dX12_span_139 (by decide) ?_
                            refine lv_icmp_gt (tgt := 262) hx hb dX12_span_141 (by decide) (fun c_58 => ?_) (fun c_58 => ?_)
                            · have hf := mb_if_t c_58 hf
                              exact k262_29 x5_33 x7_34 x8_35 _ _ _ hf hP hD hS (lv_sub hl [0, 1, 2, 3, 4, 5, 6] rfl)
                            · have hf := mb_if_f c_58 hf
                              refine lv_iload hx hb dX12_span_144 (lv_at hl 7 rfl) ?_
                              refine lv_i2l hx hb dX12_span_146 rfl ?_
                              refine lv_iload_n hx hb dX12_span_147 rfl (lv_at hl 1 rfl) ?_
                              refine lv_i2l hx hb dX12_span_148 rfl ?_
                              refine lv_lmul hx hb dX12_span_149 ?_
                              refine lv_iload hx hb dX12_span_150 (lv_at hl 6 rfl) ?_
                              refine lv_i2l hx hb dX12_span_152 rfl ?_
                              obtain ⟨h_38, hf⟩ := mb_dvl_s hf
                              refine lv_ldiv hx hb dX12_span_153 h_38 ?_
                              obtain ⟨x11_39, e_, hf⟩ := mb_let_s hf
                              refine mb_topl e_ ?_
                              clear e_
                              refine lv_lstore (lv' := [(11, .long x11_39), (0, .ref (b0 0)), (3, .int x3), (4, .int x4), (5, .long x5_33), (7, .int x7_34), (8, .int x8_35), (9, .int x9_22), (10, .int x10_36)]) hx hb dX12_span_154 hl (by decide) rfl (fun ls hl => ?_)
                              refine lv_lload hx hb dX12_span_156 (lv_at hl 0 rfl) ?_
                              refine lv_aload_n hx hb dX12_span_158 rfl (lv_at hl 1 rfl) ?_
                              refine va_get (D := D) (ci := 12) (v := .long (L0_7 0 31)) (C := RX12) (T := TX12) (N := 42) hx hb hts iw_Ref hown hK hP 0 rfl rfl 31 (by decide) fl_171 (fun _ h9 => h9) rfl dX12_span_159 ?_
                              refine W.lcmp hx hb dX12_span_162 ?_
                              obtain ⟨J201_41, eJ201_41, hf⟩ := mb_jn_s hf
                              have j201_42 : ∀ (y_40 : Int64) (H : Heap) (locs : List Loc) (ls : Array Slot), J201_41 y_40 = some z → va_P D vwCl (wC_Ref k b0 P0 L0_7) H → va_D A (wC_Ref k b0 P0 L0_7) → va_S A s.heap H locs → lv_has ls 19 [(0, .ref (b0 0)), (3, .int x3), (4, .int x4), (5, .long x5_33), (7, .int x7_34), (8, .int x8_35), (9, .int x9_22), (10, .int x10_36)] → W p l e rm_Ref_span s m args below meth c H locs 0 0 Q (F0 m 201 ls [.long y_40]) := by
                                intro y_40 H locs ls hf hP hD hS hl
                                have hf := mb_j1 eJ201_41 hf
                                obtain ⟨x13_43, e_, hf⟩ := mb_let_s hf
                                refine mb_topl e_ ?_
                                clear e_
                                refine lv_lstore (lv' := [(13, .long x13_43), (0, .ref (b0 0)), (3, .int x3), (4, .int x4), (5, .long x5_33), (7, .int x7_34), (8, .int x8_35), (9, .int x9_22), (10, .int x10_36)]) hx hb dX12_span_201 hl (by decide) rfl (fun ls hl => ?_)
                                refine lv_aload_n hx hb dX12_span_203 rfl (lv_at hl 1 rfl) ?_
                                refine va_get (D := D) (ci := 12) (v := .long (L0_7 0 31)) (C := RX12) (T := TX12) (N := 42) hx hb hts iw_Ref hown hK hP 0 rfl rfl 31 (by decide) fl_171 (fun _ h9 => h9) rfl dX12_span_204 ?_
                                refine lv_aload_n hx hb dX12_span_207 rfl (lv_at hl 1 rfl) ?_
                                refine va_get (D := D) (ci := 12) (v := .long (L0_7 0 30)) (C := RX12) (T := TX12) (N := 42) hx hb hts iw_Ref hown hK hP 0 rfl rfl 30 (by decide) fl_168 (fun _ h9 => h9) rfl dX12_span_208 ?_
                                refine lv_lsub hx hb dX12_span_211 ?_
                                refine lv_lconst (v := 1) hx hb dX12_span_212 (by decide) ?_
                                refine lv_ladd hx hb dX12_span_213 ?_
                                refine lv_lload hx hb dX12_span_214 (lv_at hl 0 rfl) ?_
                                refine lv_lsub hx hb dX12_span_216 ?_
                                obtain ⟨x15_44, e_, hf⟩ := mb_let_s hf
                                refine mb_topl e_ ?_
                                clear e_
                                refine lv_lstore (lv' := [(15, .long x15_44), (13, .long x13_43), (0, .ref (b0 0)), (3, .int x3), (4, .int x4), (5, .long x5_33), (7, .int x7_34), (8, .int x8_35), (9, .int x9_22), (10, .int x10_36)]) hx hb dX12_span_217 hl (by decide) rfl (fun ls hl => ?_)
                                refine lv_lload hx hb dX12_span_219 (lv_at hl 1 rfl) ?_
                                refine lv_lload hx hb dX12_span_221 (lv_at hl 0 rfl) ?_
                                refine W.lcmp hx hb dX12_span_223 ?_
                                obtain ⟨J234_46, eJ234_46, hf⟩ := mb_jn_s hf
                                have j234_47 : ∀ (y_45 : Int64) (H : Heap) (locs : List Loc) (ls : Array Slot), J234_46 y_45 = some z → va_P D vwCl (wC_Ref k b0 P0 L0_7) H → va_D A (wC_Ref k b0 P0 L0_7) → va_S A s.heap H locs → lv_has ls 19 [(0, .ref (b0 0)), (3, .int x3), (4, .int x4), (5, .long x5_33), (7, .int x7_34), (8, .int x8_35), (9, .int x9_22), (10, .int x10_36)] → W p l e rm_Ref_span s m args below meth c H locs 0 0 Q (F0 m 234 ls [.long y_45]) := by
                                  intro y_45 H locs ls hf hP hD hS hl
                                  have hf := mb_j1 eJ234_46 hf
                                  obtain ⟨x17_48, e_, hf⟩ := mb_let_s hf
                                  refine mb_topl e_ ?_
                                  clear e_
                                  refine lv_lstore (lv' := [(17, .long x17_48), (0, .ref (b0 0)), (3, .int x3), (4, .int x4), (5, .long x5_33), (7, .int x7_34), (8, .int x8_35), (9, .int x9_22), (10, .int x10_36)]) hx hb dX12_span_234 hl (by decide) rfl (fun ls hl => ?_)
                                  refine lv_lload hx hb dX12_span_236 (lv_at hl 0 rfl) ?_
                                  refine lv_lload hx hb dX12_span_238 (lv_at hl 4 rfl) ?_
                                  refine W.lcmp hx hb dX12_span_240 ?_
                                  refine lv_if_ge (tgt := 256) hx hb dX12_span_241 (by decide) (fun c_54 => ?_) (fun c_54 => ?_)
                                  · have hf := mb_if_t c_54 hf
                                    obtain ⟨x10_49, e_, hf⟩ := mb_let_s hf
                                    refine lv_iinc (v := x10_49) (lv' := [(10, .int x10_49), (17, .long x17_48), (0, .ref (b0 0)), (3, .int x3), (4, .int x4), (5, .long x5_33), (7, .int x7_34), (8, .int x8_35), (9, .int x9_22)]) hx hb dX12_span_256 hl (k := 8) rfl (by rw [e_]; rfl) (by decide) rfl (fun ls hl => ?_)
                                    clear e_
                                    refine lv_goto (tgt := 137) hx hb dX12_span_259 (by decide) ?_
                                    exact ih_32 x5_33 x7_34 x8_35 x10_49 _ _ _ hf hP hD hS (lv_sub hl [2, 3, 4, 5, 6, 7, 8, 0] rfl)
                                  · have hf := mb_if_f c_54 hf
                                    refine lv_lload hx hb dX12_span_244 (lv_at hl 0 rfl) ?_
                                    obtain ⟨x5_50, e_, hf⟩ := mb_let_s hf
                                    refine mb_topl e_ ?_
                                    clear e_
                                    refine lv_lstore (lv' := [(5, .long x5_50), (17, .long x17_48), (0, .ref (b0 0)), (3, .int x3), (4, .int x4), (7, .int x7_34), (8, .int x8_35), (9, .int x9_22), (10, .int x10_36)]) hx hb dX12_span_246 hl (by decide) rfl (fun ls hl => ?_)
                                    refine lv_iload hx hb dX12_span_248 (lv_at hl 7 rfl) ?_
                                    obtain ⟨x7_51, e_, hf⟩ := mb_let_s hf
                                    refine mb_topi e_ ?_
                                    clear e_
                                    refine lv_istore (lv' := [(7, .int x7_51), (5, .long x5_50), (17, .long x17_48), (0, .ref (b0 0)), (3, .int x3), (4, .int x4), (8, .int x8_35), (9, .int x9_22), (10, .int x10_36)]) hx hb dX12_span_250 hl (by decide) rfl (fun ls hl => ?_)
                                    refine lv_iload hx hb dX12_span_252 (lv_at hl 8 rfl) ?_
                                    obtain ⟨x8_52, e_, hf⟩ := mb_let_s hf
                                    refine mb_topi e_ ?_
                                    clear e_
                                    refine lv_istore (lv' := [(8, .int x8_52), (7, .int x7_51), (5, .long x5_50), (17, .long x17_48), (0, .ref (b0 0)), (3, .int x3), (4, .int x4), (9, .int x9_22), (10, .int x10_36)]) hx hb dX12_span_254 hl (by decide) rfl (fun ls hl => ?_)
                                    obtain ⟨x10_53, e_, hf⟩ := mb_let_s hf
                                    refine lv_iinc (v := x10_53) (lv' := [(10, .int x10_53), (8, .int x8_52), (7, .int x7_51), (5, .long x5_50), (17, .long x17_48), (0, .ref (b0 0)), (3, .int x3), (4, .int x4), (9, .int x9_22)]) hx hb dX12_span_256 hl (k := 8) rfl (by rw [e_]; rfl) (by decide) rfl (fun ls hl => ?_)
                                    clear e_
                                    refine lv_goto (tgt := 137) hx hb dX12_span_259 (by decide) ?_
                                    exact ih_32 x5_50 x7_51 x8_52 x10_53 _ _ _ hf hP hD hS (lv_sub hl [5, 6, 7, 3, 2, 1, 8, 0] rfl)
                                refine lv_if_le (tgt := 232) hx hb dX12_span_224 (by decide) (fun c_55 => ?_) (fun c_55 => ?_)
                                · have hf := mb_if_t c_55 hf
                                  refine lv_lload hx hb dX12_span_232 (lv_at hl 0 rfl) ?_
                                  exact j234_47 x15_44 _ _ _ hf hP hD hS (lv_sub hl [2, 3, 4, 5, 6, 7, 8, 9] rfl)
                                · have hf := mb_if_f c_55 hf
                                  refine lv_lload hx hb dX12_span_227 (lv_at hl 1 rfl) ?_
                                  refine lv_goto (tgt := 234) hx hb dX12_span_229 (by decide) ?_
                                  exact j234_47 x13_43 _ _ _ hf hP hD hS (lv_sub hl [2, 3, 4, 5, 6, 7, 8, 9] rfl)
                              refine lv_if_lt (tgt := 170) hx hb dX12_span_163 (by decide) (fun c_57 => ?_) (fun c_57 => ?_)
                              · have hf := mb_if_t c_57 hf
                                refine lv_lload hx hb dX12_span_170 (lv_at hl 0 rfl) ?_
                                refine lv_aload_n hx hb dX12_span_172 rfl (lv_at hl 1 rfl) ?_
                                refine va_get (D := D) (ci := 12) (v := .long (L0_7 0 30)) (C := RX12) (T := TX12) (N := 42) hx hb hts iw_Ref hown hK hP 0 rfl rfl 30 (by decide) fl_168 (fun _ h9 => h9) rfl dX12_span_173 ?_
                                refine W.lcmp hx hb dX12_span_176 ?_
                                refine lv_if_ge (tgt := 194) hx hb dX12_span_177 (by decide) (fun c_56 => ?_) (fun c_56 => ?_)
                                · have hf := mb_if_t c_56 hf
                                  refine lv_aload_n hx hb dX12_span_194 rfl (lv_at hl 1 rfl) ?_
                                  refine va_get (D := D) (ci := 12) (v := .long (L0_7 0 31)) (C := RX12) (T := TX12) (N := 42) hx hb hts iw_Ref hown hK hP 0 rfl rfl 31 (by decide) fl_171 (fun _ h9 => h9) rfl dX12_span_195 ?_
                                  refine lv_lload hx hb dX12_span_198 (lv_at hl 0 rfl) ?_
                                  refine lv_lsub hx hb dX12_span_200 ?_
                                  exact j201_42 ((L0_7 0 31) - x11_39) _ _ _ hf hP hD hS (lv_sub hl [1, 2, 3, 4, 5, 6, 7, 8] rfl)
                                · have hf := mb_if_f c_56 hf
                                  refine lv_aload_n hx hb dX12_span_180 rfl (lv_at hl 1 rfl) ?_
                                  refine va_get (D := D) (ci := 12) (v := .long (L0_7 0 31)) (C := RX12) (T := TX12) (N := 42) hx hb hts iw_Ref hown hK hP 0 rfl rfl 31 (by decide) fl_171 (fun _ h9 => h9) rfl dX12_span_181 ?_
                                  refine lv_aload_n hx hb dX12_span_184 rfl (lv_at hl 1 rfl) ?_
                                  refine va_get (D := D) (ci := 12) (v := .long (L0_7 0 30)) (C := RX12) (T := TX12) (N := 42) hx hb hts iw_Ref hown hK hP 0 rfl rfl 30 (by decide) fl_168 (fun _ h9 => h9) rfl dX12_span_185 ?_
                                  refine lv_lsub hx hb dX12_span_188 ?_
                                  refine lv_lconst (v := 1) hx hb dX12_span_189 (by decide) ?_
                                  refine lv_ladd hx hb dX12_span_190 ?_
                                  refine lv_goto (tgt := 201) hx hb dX12_span_191 (by decide) ?_
                                  exact j201_42 (((L0_7 0 31) - (L0_7 0 30)) + (1 : Int64)) _ _ _ hf hP hD hS (lv_sub hl [1, 2, 3, 4, 5, 6, 7, 8] rfl)
                              · have hf := mb_if_f c_57 hf
                                refine lv_lconst (v := 0) hx hb dX12_span_166 (by decide) ?_
                                refine lv_goto (tgt := 201) hx hb dX12_span_167 (by decide) ?_
                                exact j201_42 (0 : Int64) _ _ _ hf hP hD hS (lv_sub hl [1, 2, 3, 4, 5, 6, 7, 8] rfl)
                        exact lp137_31 mb_fu x5_19 x7_20 x8_21 x10_24 _ _ _ hf hP hD hS (lv_sub hl [1, 2, 3, 4, 5, 6, 7, 0] rfl)
                  exact lp127_17 mb_fu x5_8 x7_9 x8_10 x9_11 _ _ _ hf hP hD hS (lv_sub hl [4, 7, 8, 3, 2, 1, 0] rfl)
                · have hf := mb_if_f c_61 hf
                  refine lv_iload hx hb dX12_span_95 (lv_at hl 4 rfl) ?_
                  refine lv_if_ne (tgt := 107) hx hb dX12_span_97 (by decide) (fun c_60 => ?_) (fun c_60 => ?_)
                  · have hf := mb_if_f c_60 hf
                    refine lv_aload_n hx hb dX12_span_107 rfl (lv_at hl 0 rfl) ?_
                    refine va_get (D := D) (ci := 12) (v := .long (L0_7 0 31)) (C := RX12) (T := TX12) (N := 42) hx hb hts iw_Ref hown hK hP 0 rfl rfl 31 (by decide) fl_171 (fun _ h9 => h9) rfl dX12_span_108 ?_
                    refine lv_l2i hx hb dX12_span_111 rfl ?_
                    have hz := Option.some.inj hf
                    subst hz
                    exact hret _ _ _ _ dX12_span_112 hP hD hS
                  · have hf := mb_if_t c_60 hf
                    refine lv_aload_n hx hb dX12_span_100 rfl (lv_at hl 0 rfl) ?_
                    refine va_get (D := D) (ci := 12) (v := .long (L0_7 0 30)) (C := RX12) (T := TX12) (N := 42) hx hb hts iw_Ref hown hK hP 0 rfl rfl 30 (by decide) fl_168 (fun _ h9 => h9) rfl dX12_span_101 ?_
                    refine lv_goto (tgt := 111) hx hb dX12_span_104 (by decide) ?_
                    refine lv_l2i hx hb dX12_span_111 rfl ?_
                    have hz := Option.some.inj hf
                    subst hz
                    exact hret _ _ _ _ dX12_span_112 hP hD hS
              · have hf := mb_if_f c_62 hf
                refine lv_bipush (v := (-4)) hx hb dX12_span_86 (by decide) ?_
                have hz := Option.some.inj hf
                subst hz
                exact hret _ _ _ _ dX12_span_88 hP hD hS
            · have hf := mb_if_f c_63 hf
              refine lv_bipush (v := (-2)) hx hb dX12_span_63 (by decide) ?_
              have hz := Option.some.inj hf
              subst hz
              exact hret _ _ _ _ dX12_span_65 hP hD hS
        · have hf := mb_if_t c_65 hf
          refine lv_iconst (v := (-1)) hx hb dX12_span_41 (by decide) ?_
          have hz := Option.some.inj hf
          subst hz
          exact hret _ _ _ _ dX12_span_42 hP hD hS
def f_Ref_write_34_b (x2 : Int64) (self_7 : Int32 → PI → Option (Int32 × PI)) (x4_5 : Int32) (P0_6 : PI) : Option (Int32 × PI) := (if x4_5 < 0 then some ((P0_6 0 11), P0_6) else mb_chk (P0_6 0 11) 300 (mb_let (mb_u2 P0_6 13 (P0_6 0 11).toNatClampNeg ((((x2 >>> (((8 : Int32) * x4_5).toInt64 &&& 63)) &&& (255 : Int64))).toInt32)) (fun (P0_8 : PI) => mb_let (mb_uo P0_8 11 ((P0_8 0 11) + (1 : Int32))) (fun (P0_10 : PI) => mb_let (x4_5 + (-1 : Int32)) (fun (x4_11 : Int32) => self_7 x4_11 P0_10)))))
def f_Ref_write_34 (x2 : Int64) : Nat → Int32 → PI → Option (Int32 × PI)
  | 0, _, _ => none
  | n + 1, x4_5, P0_6 => f_Ref_write_34_b x2 (f_Ref_write_34 x2 n) x4_5 P0_6
def f_Ref_write (P0 : PI) (x1 : Int32) (x2 : Int64) : Option (Int32 × PI) := mb_bd1 (f_Ref_in ((x1).toInt64) (1 : Int64) (8 : Int64)) (fun (r_1 : Int32) => (if r_1 = 0 then some ((-1 : Int32), P0) else (if ((P0 0 11) + x1) ≤ (300 : Int32) then mb_let (x1 - (1 : Int32)) (fun (x4_2 : Int32) => f_Ref_write_34 x2 mb_fu x4_2 P0) else some ((-3 : Int32), P0))))
def rm_Ref_write : Room := { frames := 1, cells := 0, slots := 0, locals := 25 }
set_option maxHeartbeats 4000000 in
set_option maxRecDepth 100000 in
theorem c_Ref_write (l : Launch) (D : va_G) (k : Nat → ClassId) (sz : Nat) (b0 : Nat → Nat) (P0 : PI) (L0 : PL) (x1 : Int32) (x2 : Int64) (z : Int32 × PI) (hf : f_Ref_write P0 x1 x2 = some z) : Met l yX12_write wsX12_write rm_Ref_write (va_Pc [.ref (b0 0), .int x1, .long x2] (gw_pre D vwCl (tyL k) (wC_Ref k b0 P0 L0) sz)) (va_Qi (fun (r : Int32) (_ : Unit) => r = z.1) (gw_b D vwCl (tyL k) (va_A (wC_Ref k b0 P0 L0) sz) (wC_Ref k b0 z.2 L0)) (va_A (wC_Ref k b0 P0 L0) sz)) 0 0 (va_A (wC_Ref k b0 P0 L0) sz) := by
  refine gm_i (cc := cX12_write) (maxL := 5) (by decide) rfl (Nat.le_of_ble_eq_true rfl) ?_
  intro p e s m args below meth c A Q ls H locs hx hb hml hown hts hK hN hA hP hD hS hl hret
  have hown : s.vm.findClass RX12 = some m.cls := hown
  have hl : lv_has ls 5 [(0, .ref (b0 0)), (1, .int x1), (2, .long x2)] := hl
  have iw_Ref : ∀ w ∈ u_ws RX12 TX12 42, w ∈ wsX12_write := by decide +kernel
  have fl_35 := hts (.fieldLink RX12 35 "OneMeasureModel" "text" "[I") (by decide +kernel)
  have fl_182 := hts (.fieldLink RX12 182 "OneMeasureModel" "length" "I") (by decide +kernel)
  have lc_180 := hts (.constantLong RX12 180 (8)) (by decide +kernel)
  have lc_185 := hts (.constantLong RX12 185 (255)) (by decide +kernel)
  unfold f_Ref_write at hf
  refine lv_iload_n hx hb dX12_write_0 rfl (lv_at hl 1 rfl) ?_
  refine lv_i2l hx hb dX12_write_1 rfl ?_
  refine lv_lconst (v := 1) hx hb dX12_write_2 (by decide) ?_
  refine lv_ldc2 (v := (8)) hx hb hown lc_180 dX12_write_3 ?_
  obtain ⟨r_1, hz, hf⟩ := mb_bd1_s hf
  refine gc_i (r0 := r_1) (ws' := (wC_Ref k b0 P0 L0)) (wr := (wC_Ref k b0 P0 L0)) (va_runS (As := [.long (x1).toInt64, .long (1 : Int64), .long (8 : Int64)]) (rest := []) ⟨hx, hb, hml, hown, hts⟩ (c_Ref_in l D k H.size ((x1).toInt64) (1 : Int64) (8 : Int64) r_1 hz) (cwS 3 hts gX12_write_X12_in rfl rfl rfl (by decide +kernel) ⟨Nat.le_of_ble_eq_true rfl, Nat.le_of_ble_eq_true rfl⟩) (gp_S hP hD hK hN [] (by decide +kernel) rfl) rfl rfl hl.1 rfl (lv_room (Nat.le_of_ble_eq_true rfl)) dX12_write_6 ⟨Nat.zero_le _, Nat.zero_le _⟩) hP hD hS hA [] [0, 1, 2, 3, 4, 5, 6, 7, 8, 9, 10, 11, 12, 13, 14, 15, 16, 17, 18, 19, 20, 21, 22, 23, 24, 25] rfl rfl (by decide +kernel) (by decide +kernel) [0, 1, 2, 3, 4, 5, 6, 7, 8, 9, 10, 11, 12, 13, 14, 15, 16, 17, 18, 19, 20, 21, 22, 23, 24, 25] (by decide +kernel) rfl (fun H locs hP hD hS => ?_)
  clear hz
  refine lv_if_ne (tgt := 14) hx hb dX12_write_9 (by decide) (fun c_14 => ?_) (fun c_14 => ?_)
  · have hf := mb_if_f c_14 hf
    refine lv_aload_n hx hb dX12_write_14 rfl (lv_at hl 0 rfl) ?_
    refine va_get (D := D) (ci := 12) (v := .int (P0 0 11)) (C := RX12) (T := TX12) (N := 42) hx hb hts iw_Ref hown hK hP 0 rfl rfl 11 (by decide) fl_182 (fun _ h9 => h9) rfl dX12_write_15 ?_
    refine lv_iload_n hx hb dX12_write_18 rfl (lv_at hl 1 rfl) ?_
    refine lv_iadd hx hb dX12_write_19 ?_
    refine lv_sipush (v := 300) hx hb dX12_write_20 (by decide) ?_
    refine lv_icmp_le (tgt := 29) hx hb dX12_write_23 (by decide) (fun c_13 => ?_) (fun c_13 => ?_)
    · have hf := mb_if_t c_13 hf
      refine lv_iload_n hx hb dX12_write_29 rfl (lv_at hl 1 rfl) ?_
      refine lv_iconst (v := 1) hx hb dX12_write_30 (by decide) ?_
      refine lv_isub hx hb dX12_write_31 ?_
      obtain ⟨x4_2, e_, hf⟩ := mb_let_s hf
      refine mb_topi e_ ?_
      clear e_
      refine lv_istore (lv' := [(4, .int x4_2), (0, .ref (b0 0)), (1, .int x1), (2, .long x2)]) hx hb dX12_write_32 hl (by decide) rfl (fun ls hl => ?_)
      have lp34_3 : ∀ (n : Nat) (x4_5 : Int32) (P0_6 : PI) (H : Heap) (locs : List Loc) (ls : Array Slot), f_Ref_write_34 x2 n x4_5 P0_6 = some z → va_P D vwCl (wC_Ref k b0 P0_6 L0) H → va_D A (wC_Ref k b0 P0_6 L0) → va_S A s.heap H locs → lv_has ls 5 [(0, .ref (b0 0)), (2, .long x2), (4, .int x4_5)] → W p l e rm_Ref_write s m args below meth c H locs 0 0 Q (F0 m 34 ls []) := by
        intro n
        induction n with
        | zero =>
          intro x4_5 P0_6 H locs ls hf
          exact nomatch (show (none : Option (Int32 × PI)) = some z from hf)
        | succ n ih_4 =>
          intro x4_5 P0_6 H locs ls hf hP hD hS hl
          have hf : f_Ref_write_34_b x2 (f_Ref_write_34 x2 n) x4_5 P0_6 = some z := hf
          unfold f_Ref_write_34_b at hf
          refine lv_iload hx hb dX12_write_34 (lv_at hl 2 rfl) ?_
          refine lv_if_lt (tgt := 76) hx hb dX12_write_36 (by decide) (fun c_12 => ?_) (fun c_12 => ?_)
          · have hf := mb_if_t c_12 hf
            refine lv_aload_n hx hb dX12_write_76 rfl (lv_at hl 0 rfl) ?_
            refine va_get (D := D) (ci := 12) (v := .int (P0_6 0 11)) (C := RX12) (T := TX12) (N := 42) hx hb hts iw_Ref hown hK hP 0 rfl rfl 11 (by decide) fl_182 (fun _ h9 => h9) rfl dX12_write_77 ?_
            have hz := Option.some.inj hf
            subst hz
            exact hret _ _ _ _ dX12_write_80 hP hD hS
          · have hf := mb_if_f c_12 hf
            refine lv_aload_n hx hb dX12_write_39 rfl (lv_at hl 0 rfl) ?_
            refine va_get (D := D) (ci := 12) (v := .ref (b0 13)) (C := RX12) (T := TX12) (N := 42) hx hb hts iw_Ref hown hK hP 0 rfl rfl 12 (by decide) fl_35 (fun _ h9 => h9) rfl dX12_write_40 ?_
            refine lv_aload_n hx hb dX12_write_43 rfl (lv_at hl 0 rfl) ?_
            refine va_get (D := D) (ci := 12) (v := .int (P0_6 0 11)) (C := RX12) (T := TX12) (N := 42) hx hb hts iw_Ref hown hK hP 0 rfl rfl 11 (by decide) fl_182 (fun _ h9 => h9) rfl dX12_write_44 ?_
            refine lv_lload_n hx hb dX12_write_47 rfl (lv_at hl 1 rfl) ?_
            refine lv_bipush (v := 8) hx hb dX12_write_48 (by decide) ?_
            refine lv_iload hx hb dX12_write_50 (lv_at hl 2 rfl) ?_
            refine lv_imul hx hb dX12_write_52 ?_
            refine lv_lshr hx hb dX12_write_53 rfl ?_
            refine lv_ldc2 (v := (255)) hx hb hown lc_185 dX12_write_54 ?_
            refine lv_land hx hb dX12_write_57 ?_
            refine lv_l2i hx hb dX12_write_58 rfl ?_
            obtain ⟨h_9, hf⟩ := mb_chk_s hf
            obtain ⟨P0_8, e_, hf⟩ := mb_let_s hf
            refine va_iast hx hb hK hP hD hS 9 0 rfl rfl h_9 dX12_write_59 (fun H locs hP hD hS => ?_)
            have hP : va_P D vwCl (wC_Ref k b0 P0_8 L0) H := by rw [e_]; exact hP
            have hD : va_D A (wC_Ref k b0 P0_8 L0) := by rw [e_]; exact hD
            clear e_
            refine lv_aload_n hx hb dX12_write_60 rfl (lv_at hl 0 rfl) ?_
            refine lv_dup hx hb dX12_write_61 rfl ?_
            refine va_get (D := D) (ci := 12) (v := .int (P0_8 0 11)) (C := RX12) (T := TX12) (N := 42) hx hb hts iw_Ref hown hK hP 0 rfl rfl 11 (by decide) fl_182 (fun _ h9 => h9) rfl dX12_write_62 ?_
            refine lv_iconst (v := 1) hx hb dX12_write_65 (by decide) ?_
            refine lv_iadd hx hb dX12_write_66 ?_
            obtain ⟨P0_10, e_, hf⟩ := mb_let_s hf
            refine va_put (D := D) (ci := 12) (v := .int ((P0_8 0 11) + (1 : Int32))) (ty := .int) (C := RX12) (T := TX12) (N := 42) hx hb hts iw_Ref tyX12 tyX12_ok nmX12 hown hK hP hD hS 0 rfl rfl 11 (by decide) fl_182 (fun _ h9 => h9) rfl (by decide +kernel) rfl rfl (Nat.le_of_ble_eq_true rfl) dX12_write_67 (fun H locs hP hD hS => ?_)
            have hP : va_P D vwCl (wC_Ref k b0 P0_10 L0) H := by rw [e_]; exact hP
            have hD : va_D A (wC_Ref k b0 P0_10 L0) := by rw [e_]; exact hD
            clear e_
            obtain ⟨x4_11, e_, hf⟩ := mb_let_s hf
            refine lv_iinc (v := x4_11) (lv' := [(4, .int x4_11), (0, .ref (b0 0)), (2, .long x2)]) hx hb dX12_write_70 hl (k := 2) rfl (by rw [e_]; rfl) (by decide) rfl (fun ls hl => ?_)
            clear e_
            refine lv_goto (tgt := 34) hx hb dX12_write_73 (by decide) ?_
            exact ih_4 x4_11 P0_10 _ _ _ hf hP hD hS (lv_sub hl [1, 2, 0] rfl)
      exact lp34_3 mb_fu x4_2 P0 _ _ _ hf hP hD hS (lv_sub hl [1, 3, 0] rfl)
    · have hf := mb_if_f c_13 hf
      refine lv_bipush (v := (-3)) hx hb dX12_write_26 (by decide) ?_
      have hz := Option.some.inj hf
      subst hz
      exact hret _ _ _ _ dX12_write_28 hP hD hS
  · have hf := mb_if_t c_14 hf
    refine lv_iconst (v := (-1)) hx hb dX12_write_12 (by decide) ?_
    have hz := Option.some.inj hf
    subst hz
    exact hret _ _ _ _ dX12_write_13 hP hD hS
def f_Ref_clear (P0 : PI) : Option (Int32 × PI) := mb_let (P0 0 11) (fun (x1_1 : Int32) => mb_let (mb_uo P0 11 (0 : Int32)) (fun (P0_2 : PI) => some (x1_1, P0_2)))
def rm_Ref_clear : Room := { frames := 0, cells := 0, slots := 0, locals := 0 }
set_option maxHeartbeats 4000000 in
set_option maxRecDepth 100000 in
theorem c_Ref_clear (l : Launch) (D : va_G) (k : Nat → ClassId) (sz : Nat) (b0 : Nat → Nat) (P0 : PI) (L0 : PL) (z : Int32 × PI) (hf : f_Ref_clear P0 = some z) : Met l yX12_clear wsX12_clear rm_Ref_clear (va_Pc [.ref (b0 0)] (gw_pre D vwCl (tyL k) (wC_Ref k b0 P0 L0) sz)) (va_Qi (fun (r : Int32) (_ : Unit) => r = z.1) (gw_b D vwCl (tyL k) (va_A (wC_Ref k b0 P0 L0) sz) (wC_Ref k b0 z.2 L0)) (va_A (wC_Ref k b0 P0 L0) sz)) 0 0 (va_A (wC_Ref k b0 P0 L0) sz) := by
  refine gm_i (cc := cX12_clear) (maxL := 2) (by decide) rfl (Nat.le_of_ble_eq_true rfl) ?_
  intro p e s m args below meth c A Q ls H locs hx hb hml hown hts hK hN hA hP hD hS hl hret
  have hown : s.vm.findClass RX12 = some m.cls := hown
  have hl : lv_has ls 2 [(0, .ref (b0 0))] := hl
  have iw_Ref : ∀ w ∈ u_ws RX12 TX12 42, w ∈ wsX12_clear := by decide +kernel
  have fl_182 := hts (.fieldLink RX12 182 "OneMeasureModel" "length" "I") (by decide +kernel)
  unfold f_Ref_clear at hf
  refine lv_aload_n hx hb dX12_clear_0 rfl (lv_at hl 0 rfl) ?_
  refine va_get (D := D) (ci := 12) (v := .int (P0 0 11)) (C := RX12) (T := TX12) (N := 42) hx hb hts iw_Ref hown hK hP 0 rfl rfl 11 (by decide) fl_182 (fun _ h9 => h9) rfl dX12_clear_1 ?_
  obtain ⟨x1_1, e_, hf⟩ := mb_let_s hf
  refine mb_topi e_ ?_
  clear e_
  refine lv_istore_n (lv' := [(1, .int x1_1), (0, .ref (b0 0))]) hx hb dX12_clear_4 rfl hl (by decide) rfl (fun ls hl => ?_)
  refine lv_aload_n hx hb dX12_clear_5 rfl (lv_at hl 1 rfl) ?_
  refine lv_iconst (v := 0) hx hb dX12_clear_6 (by decide) ?_
  obtain ⟨P0_2, e_, hf⟩ := mb_let_s hf
  refine va_put (D := D) (ci := 12) (v := .int (0 : Int32)) (ty := .int) (C := RX12) (T := TX12) (N := 42) hx hb hts iw_Ref tyX12 tyX12_ok nmX12 hown hK hP hD hS 0 rfl rfl 11 (by decide) fl_182 (fun _ h9 => h9) rfl (by decide +kernel) rfl rfl (Nat.le_of_ble_eq_true rfl) dX12_clear_7 (fun H locs hP hD hS => ?_)
  have hP : va_P D vwCl (wC_Ref k b0 P0_2 L0) H := by rw [e_]; exact hP
  have hD : va_D A (wC_Ref k b0 P0_2 L0) := by rw [e_]; exact hD
  clear e_
  refine lv_iload_n hx hb dX12_clear_10 rfl (lv_at hl 0 rfl) ?_
  have hz := Option.some.inj hf
  subst hz
  exact hret _ _ _ _ dX12_clear_11 hP hD hS
