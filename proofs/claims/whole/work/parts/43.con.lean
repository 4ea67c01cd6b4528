def f_Ref_layBest_207_b (K233_42 : PI → Option (PI × PL)) (self_49 : Int32 → PI → Option (PI × PL)) (x8_47 : Int32) (P0_48 : PI) : Option (PI × PL) := (if (4 : Int32) ≤ x8_47 then K233_42 P0_48 else mb_chk x8_47 4 (mb_chk x8_47 4 (mb_let (mb_u2 P0_48 28 x8_47.toNatClampNeg (P0_48 27 x8_47.toNatClampNeg)) (fun (P0_51 : PI) => mb_let (x8_47 + (1 : Int32)) (fun (x8_53 : Int32) => self_49 x8_53 P0_51)))))
def f_Ref_layBest_207 (K233_42 : PI → Option (PI × PL)) : Nat → Int32 → PI → Option (PI × PL)
  | 0, _, _ => none
  | n + 1, x8_47, P0_48 => f_Ref_layBest_207_b K233_42 (f_Ref_layBest_207 K233_42 n) x8_47 P0_48
def f_Ref_layBest_118_b (P0_66 : PI) (x1_6 : Int32) (x6_62 : Int32) (K159_76 : Int32 → Option (PI × PL)) (self_83 : Int32 → Int32 → Option (PI × PL)) (x5_81 : Int32) (x7_82 : Int32) : Option (PI × PL) := (if x1_6 ≤ x7_82 then K159_76 x5_81 else mb_jn (fun (y_84 : Int32) => mb_let y_84 (fun (x5_87 : Int32) => mb_let (x7_82 + (1 : Int32)) (fun (x7_88 : Int32) => self_83 x5_87 x7_88))) (fun J151_85 => mb_jn (J151_85 (0 : Int32)) (fun J150_89 => (if x5_81 = 0 then J150_89 else mb_chk x7_82 4 (mb_chk x6_62 4 ((if (P0_66 27 x7_82.toNatClampNeg) = (P0_66 27 x6_62.toNatClampNeg) then J150_89 else J151_85 (1 : Int32))))))))
def f_Ref_layBest_118 (P0_66 : PI) (x1_6 : Int32) (x6_62 : Int32) (K159_76 : Int32 → Option (PI × PL)) : Nat → Int32 → Int32 → Option (PI × PL)
  | 0, _, _ => none
  | n + 1, x5_81, x7_82 => f_Ref_layBest_118_b P0_66 x1_6 x6_62 K159_76 (f_Ref_layBest_118 P0_66 x1_6 x6_62 K159_76 n) x5_81 x7_82
def f_Ref_layBest_62_b (x1_6 : Int32) (K165_31 : Int32 → PI → Option (PI × PL)) (self_64 : Int32 → Int32 → Int32 → PI → Option (PI × PL)) (x4_60 : Int32) (x5_61 : Int32) (x6_62 : Int32) (P0_63 : PI) : Option (PI × PL) := (if x6_62 < 0 then K165_31 x5_61 P0_63 else mb_dvi (16 : Int32) (mb_chk x6_62 4 (mb_let (mb_u2 P0_63 27 x6_62.toNatClampNeg (x4_60 - x4_60 / (16 : Int32) * (16 : Int32))) (fun (P0_66 : PI) => mb_dvi (16 : Int32) (mb_let (x4_60 / (16 : Int32)) (fun (x4_69 : Int32) => mb_jn (fun (y_70 : Int32) => mb_let y_70 (fun (x5_73 : Int32) => mb_let (x6_62 + (1 : Int32)) (fun (x7_74 : Int32) => mb_jn (fun (x5_75 : Int32) => mb_let (x6_62 + (-1 : Int32)) (fun (x6_78 : Int32) => self_64 x4_69 x5_75 x6_78 P0_66)) (fun K159_76 => f_Ref_layBest_118 P0_66 x1_6 x6_62 K159_76 mb_fu x5_73 x7_74)))) (fun J110_71 => mb_jn (J110_71 (0 : Int32)) (fun J109_96 => (if x5_61 = 0 then J109_96 else mb_chk x6_62 4 (mb_bd1 (f_Ref_isUnit P0_66 (P0_66 27 x6_62.toNatClampNeg)) (fun (r_99 : Int32) => (if r_99 = 0 then J109_96 else J110_71 (1 : Int32)))))))))))))
def f_Ref_layBest_62 (x1_6 : Int32) (K165_31 : Int32 → PI → Option (PI × PL)) : Nat → Int32 → Int32 → Int32 → PI → Option (PI × PL)
  | 0, _, _, _, _ => none
  | n + 1, x4_60, x5_61, x6_62, P0_63 => f_Ref_layBest_62_b x1_6 K165_31 (f_Ref_layBest_62 x1_6 K165_31 n) x4_60 x5_61 x6_62 P0_63
def f_Ref_layBest_46_b (x1_6 : Int32) (x2_13 : Int32) (K239_17 : PI → PL → Option (PI × PL)) (self_25 : Int32 → PI → PL → Option (PI × PL)) (x3_22 : Int32) (P0_23 : PI) (L0_24 : PL) : Option (PI × PL) := (if x2_13 ≤ x3_22 then K239_17 P0_23 L0_24 else mb_let x3_22 (fun (x4_26 : Int32) => mb_let (1 : Int32) (fun (x5_27 : Int32) => mb_let (x1_6 - (1 : Int32)) (fun (x6_28 : Int32) => mb_jn (fun (x5_29 : Int32) (P0_30 : PI) => mb_jn (fun (y_33 : Int64) => mb_let y_33 (fun (x6_36 : Int64) => (if (lg_cmp x6_36 (L0_24 0 29)) ≤ 0 then mb_let (x3_22 + (1 : Int32)) (fun (x3_37 : Int32) => self_25 x3_37 P0_30 L0_24) else mb_let (mb_uoL L0_24 29 x6_36) (fun (L0_38 : PL) => mb_let (mb_uo P0_30 28 x1_6) (fun (P0_39 : PI) => mb_let (0 : Int32) (fun (x8_40 : Int32) => mb_jn (fun (P0_41 : PI) => mb_let (x3_22 + (1 : Int32)) (fun (x3_44 : Int32) => self_25 x3_44 P0_41 L0_38)) (fun K233_42 => f_Ref_layBest_207 K233_42 mb_fu x8_40 P0_39))))))) (fun J181_34 => (if x5_29 = 0 then J181_34 (-4 : Int64) else mb_bd1 (f_Ref_round P0_30 x1_6) (fun (r_56 : Int64) => J181_34 r_56)))) (fun K165_31 => f_Ref_layBest_62 x1_6 K165_31 mb_fu x4_26 x5_27 x6_28 P0_23)))))
def f_Ref_layBest_46 (x1_6 : Int32) (x2_13 : Int32) (K239_17 : PI → PL → Option (PI × PL)) : Nat → Int32 → PI → PL → Option (PI × PL)
  | 0, _, _, _ => none
  | n + 1, x3_22, P0_23, L0_24 => f_Ref_layBest_46_b x1_6 x2_13 K239_17 (f_Ref_layBest_46 x1_6 x2_13 K239_17 n) x3_22 P0_23 L0_24
def f_Ref_layBest_14_b (self_9 : Int32 → PI → PL → Option (PI × PL)) (x1_6 : Int32) (P0_7 : PI) (L0_8 : PL) : Option (PI × PL) := (if (4 : Int32) < x1_6 then some (P0_7, L0_8) else mb_jn (fun (y_10 : Int32) => mb_let y_10 (fun (x2_13 : Int32) => mb_let (0 : Int32) (fun (x3_14 : Int32) => mb_jn (fun (P0_15 : PI) (L0_16 : PL) => mb_let (x1_6 + (1 : Int32)) (fun (x1_19 : Int32) => self_9 x1_19 P0_15 L0_16)) (fun K239_17 => f_Ref_layBest_46 x1_6 x2_13 K239_17 mb_fu x3_14 P0_7 L0_8)))) (fun J43_11 => (if x1_6 = (2 : Int32) then J43_11 (256 : Int32) else (if x1_6 = (3 : Int32) then J43_11 (4096 : Int32) else J43_11 (65536 : Int32)))))
def f_Ref_layBest_14 : Nat → Int32 → PI → PL → Option (PI × PL)
  | 0, _, _, _ => none
  | n + 1, x1_6, P0_7, L0_8 => f_Ref_layBest_14_b  (f_Ref_layBest_14  n) x1_6 P0_7 L0_8
def f_Ref_layBest (P0 : PI) (L0 : PL) : Option (PI × PL) := mb_let (mb_uo P0 28 (0 : Int32)) (fun (P0_1 : PI) => mb_let (mb_uoL L0 29 (-4 : Int64)) (fun (L0_2 : PL) => mb_let (2 : Int32) (fun (x1_3 : Int32) => f_Ref_layBest_14  mb_fu x1_3 P0_1 L0_2)))
def rm_Ref_layBest : Room := { frames := 2, cells := 0, slots := 0, locals := 54 }
set_option maxHeartbeats 4000000 in
set_option maxRecDepth 100000 in
theorem c_Ref_layBest (l : Launch) (D : va_G) (k : Nat → ClassId) (sz : Nat) (b0 : Nat → Nat) (P0 : PI) (L0 : PL) (z : PI × PL) (hf : f_Ref_layBest P0 L0 = some z) : Met l yX12_layBest wsX12_layBest rm_Ref_layBest (va_Pc [.ref (b0 0)] (gw_pre D vwCl (tyL k) (wC_Ref k b0 P0 L0) sz)) (va_Qv (fun (_ : Unit) => True) (gw_b D vwCl (tyL k) (va_A (wC_Ref k b0 P0 L0) sz) (wC_Ref k b0 z.1 z.2)) (va_A (wC_Ref k b0 P0 L0) sz)) 0 0 (va_A (wC_Ref k b0 P0 L0) sz) := by
  refine gm_v (cc := cX12_layBest) (maxL := 9) (by decide) rfl (Nat.le_of_ble_eq_true rfl) ?_
  intro p e s m args below meth c A Q ls H locs hx hb hml hown hts hK hN hA hP hD hS hl hret
  have hown : s.vm.findClass RX12 = some m.cls := hown
  have hl : lv_has ls 9 [(0, .ref (b0 0))] := hl
  have iw_Ref : ∀ w ∈ u_ws RX12 TX12 42, w ∈ wsX12_layBest := by decide +kernel
  have fl_72 := hts (.fieldLink RX12 72 "OneMeasureModel" "row" "[I") (by decide +kernel)
  have fl_75 := hts (.fieldLink RX12 75 "OneMeasureModel" "bestRow" "[I") (by decide +kernel)
  have fl_139 := hts (.fieldLink RX12 139 "OneMeasureModel" "bestMany" "I") (by decide +kernel)
  have fl_142 := hts (.fieldLink RX12 142 "OneMeasureModel" "bestEnd" "J") (by decide +kernel)
  have lc_135 := hts (.constantLong RX12 135 (-4)) (by decide +kernel)
  have lc_146 := hts (.constant RX12 146 (65536)) (by decide +kernel)
  unfold f_Ref_layBest at hf
  refine lv_aload_n hx hb dX12_layBest_0 rfl (lv_at hl 0 rfl) ?_
  refine lv_iconst (v := 0) hx hb dX12_layBest_1 (by decide) ?_
  obtain ⟨P0_1, e_, hf⟩ := mb_let_s hf
  refine va_put (D := D) (ci := 12) (v := .int (0 : Int32)) (ty := .int) (C := RX12) (T := TX12) (N := 42) hx hb hts iw_Ref tyX12 tyX12_ok nmX12 hown hK hP hD hS 0 rfl rfl 28 (by decide) fl_139 (fun _ h9 => h9) rfl (by decide +kernel) rfl rfl (Nat.le_of_ble_eq_true rfl) dX12_layBest_2 (fun H locs hP hD hS => ?_)
  have hP : va_P D vwCl (wC_Ref k b0 P0_1 L0) H := by rw [e_]; exact hP
  have hD : va_D A (wC_Ref k b0 P0_1 L0) := by rw [e_]; exact hD
  clear e_
  refine lv_aload_n hx hb dX12_layBest_5 rfl (lv_at hl 0 rfl) ?_
  refine lv_ldc2 (v := (-4)) hx hb hown lc_135 dX12_layBest_6 ?_
  obtain ⟨L0_2, e_, hf⟩ := mb_let_s hf
  refine va_put (D := D) (ci := 12) (v := .long (-4 : Int64)) (ty := .long) (C := RX12) (T := TX12) (N := 42) hx hb hts iw_Ref tyX12 tyX12_ok nmX12 hown hK hP hD hS 0 rfl rfl 29 (by decide) fl_142 (fun _ h9 => h9) rfl (by decide +kernel) rfl rfl (Nat.le_of_ble_eq_true rfl) dX12_layBest_9 (fun H locs hP hD hS => ?_)
  have hP : va_P D vwCl (wC_Ref k b0 P0_1 L0_2) H := by rw [e_]; exact hP
  have hD : va_D A (wC_Ref k b0 P0_1 L0_2) := by rw [e_]; exact hD
  clear e_
  refine lv_iconst (v := 2) hx hb dX12_layBest_12 (by decide) ?_
  obtain ⟨x1_3, e_, hf⟩ := mb_let_s hf
  refine mb_topi e_ ?_
  clear e_
  refine lv_istore_n (lv' := [(1, .int x1_3), (0, .ref (b0 0))]) hx hb dX12_layBest_13 rfl hl (by decide) rfl (fun ls hl => ?_)
  have lp14_4 : ∀ (n : Nat) (x1_6 : Int32) (P0_7 : PI) (L0_8 : PL) (H : Heap) (locs : List Loc) (ls : Array Slot), f_Ref_layBest_14  n x1_6 P0_7 L0_8 = some z → va_P D vwCl (wC_Ref k b0 P0_7 L0_8) H → va_D A (wC_Ref k b0 P0_7 L0_8) → va_S A s.heap H locs → lv_has ls 9 [(0, .ref (b0 0)), (1, .int x1_6)] → W p l e rm_Ref_layBest s m args below meth c H locs 0 0 Q (F0 m 14 ls []) := by
    intro n
    induction n with
    | zero =>
      intro x1_6 P0_7 L0_8 H locs ls hf
      exact nomatch (show (none : Option (PI × PL)) = some z from hf)
    | succ n ih_5 =>
      intro x1_6 P0_7 L0_8 H locs ls hf hP hD hS hl
      have hf : f_Ref_layBest_14_b  (f_Ref_layBest_14  n) x1_6 P0_7 L0_8 = some z := hf
      unfold f_Ref_layBest_14_b at hf
      refine lv_iload_n hx hb dX12_layBest_14 rfl (lv_at hl 1 rfl) ?_
      refine lv_iconst (v := 4) hx hb dX12_layBest_15 (by decide) ?_
      refine lv_icmp_gt (tgt := 245) hx hb dX12_layBest_16 (by decide) (fun c_106 => ?_) (fun c_106 => ?_)
      · have hf := mb_if_t c_106 hf
        have hz := Option.some.inj hf
        subst hz
        exact hret _ _ _ _ dX12_layBest_245 hP hD hS
      · have hf := mb_if_f c_106 hf
        refine lv_iload_n hx hb dX12_layBest_19 rfl (lv_at hl 1 rfl) ?_
        refine lv_iconst (v := 2) hx hb dX12_layBest_20 (by decide) ?_
        obtain ⟨J43_11, eJ43_11, hf⟩ := mb_jn_s hf
        have j43_12 : ∀ (y_10 : Int32) (H : Heap) (locs : List Loc) (ls : Array Slot), J43_11 y_10 = some z → va_P D vwCl (wC_Ref k b0 P0_7 L0_8) H → va_D A (wC_Ref k b0 P0_7 L0_8) → va_S A s.heap H locs → lv_has ls 9 [(0, .ref (b0 0)), (1, .int x1_6)] → W p l e rm_Ref_layBest s m args below meth c H locs 0 0 Q (F0 m 43 ls [.int y_10]) := by
          intro y_10 H locs ls hf hP hD hS hl
          have hf := mb_j1 eJ43_11 hf
          obtain ⟨x2_13, e_, hf⟩ := mb_let_s hf
          refine mb_topi e_ ?_
          clear e_
          refine lv_istore_n (lv' := [(2, .int x2_13), (0, .ref (b0 0)), (1, .int x1_6)]) hx hb dX12_layBest_43 rfl hl (by decide) rfl (fun ls hl => ?_)
          refine lv_iconst (v := 0) hx hb dX12_layBest_44 (by decide) ?_
          obtain ⟨x3_14, e_, hf⟩ := mb_let_s hf
          refine mb_topi e_ ?_
          clear e_
          refine lv_istore_n (lv' := [(3, .int x3_14), (2, .int x2_13), (0, .ref (b0 0)), (1, .int x1_6)]) hx hb dX12_layBest_45 rfl hl (by decide) rfl (fun ls hl => ?_)
          obtain ⟨K239_17, eK239_17, hf⟩ := mb_jn_s hf
          have k239_18 : ∀ (P0_15 : PI) (L0_16 : PL) (H : Heap) (locs : List Loc) (ls : Array Slot), K239_17 P0_15 L0_16 = some z → va_P D vwCl (wC_Ref k b0 P0_15 L0_16) H → va_D A (wC_Ref k b0 P0_15 L0_16) → va_S A s.heap H locs → lv_has ls 9 [(0, .ref (b0 0)), (1, .int x1_6)] → W p l e rm_Ref_layBest s m args below meth c H locs 0 0 Q (F0 m 239 ls []) := by
            intro P0_15 L0_16 H locs ls hf hP hD hS hl
            have hf := mb_j2 eK239_17 hf
            obtain ⟨x1_19, e_, hf⟩ := mb_let_s hf
            refine lv_iinc (v := x1_19) (lv' := [(1, .int x1_19), (0, .ref (b0 0))]) hx hb dX12_layBest_239 hl (k := 1) rfl (by rw [e_]; rfl) (by decide) rfl (fun ls hl => ?_)
            clear e_
            refine lv_goto (tgt := 14) hx hb dX12_layBest_242 (by decide) ?_
            exact ih_5 x1_19 P0_15 L0_16 _ _ _ hf hP hD hS (lv_sub hl [1, 0] rfl)
          have lp46_20 : ∀ (n : Nat) (x3_22 : Int32) (P0_23 : PI) (L0_24 : PL) (H : Heap) (locs : List Loc) (ls : Array Slot), f_Ref_layBest_46 x1_6 x2_13 K239_17 n x3_22 P0_23 L0_24 = some z → va_P D vwCl (wC_Ref k b0 P0_23 L0_24) H → va_D A (wC_Ref k b0 P0_23 L0_24) → va_S A s.heap H locs → lv_has ls 9 [(0, .ref (b0 0)), (1, .int x1_6), (2, .int x2_13), (3, .int x3_22)] → W p l e rm_Ref_layBest s m args below meth c H locs 0 0 Q (F0 m 46 ls []) := by
            intro n
            induction n with
            | zero =>
              intro x3_22 P0_23 L0_24 H locs ls hf
              exact nomatch (show (none : Option (PI × PL)) = some z from hf)
            | succ n ih_21 =>
              intro x3_22 P0_23 L0_24 H locs ls hf hP hD hS hl
              have hf : f_Ref_layBest_46_b x1_6 x2_13 K239_17 (f_Ref_layBest_46 x1_6 x2_13 K239_17 n) x3_22 P0_23 L0_24 = some z := hf
              unfold f_Ref_layBest_46_b at hf
              refine lv_iload_n hx hb dX12_layBest_46 rfl (lv_at hl 3 rfl) ?_
              refine lv_iload_n hx hb dX12_layBest_47 rfl (lv_at hl 2 rfl) ?_
              refine lv_icmp_ge (tgt := 239) hx hb dX12_layBest_48 (by decide) (fun c_103 => ?_) (fun c_103 => ?_)
              · have hf := mb_if_t c_103 hf
                exact k239_18 P0_23 L0_24 _ _ _ hf hP hD hS (lv_sub hl [0, 1] rfl)
              · have hf := mb_if_f c_103 hf
                refine lv_iload_n hx hb dX12_layBest_51 rfl (lv_at hl 3 rfl) ?_
                obtain ⟨x4_26, e_, hf⟩ := mb_let_s hf
                refine mb_topi e_ ?_
                clear e_
                refine lv_istore (lv' := [(4, .int x4_26), (0, .ref (b0 0)), (1, .int x1_6), (2, .int x2_13), (3, .int x3_22)]) hx hb dX12_layBest_52 hl (by decide) rfl (fun ls hl => ?_)
                refine lv_iconst (v := 1) hx hb dX12_layBest_54 (by decide) ?_
                obtain ⟨x5_27, e_, hf⟩ := mb_let_s hf
                refine mb_topi e_ ?_
                clear e_
                refine lv_istore (lv' := [(5, .int x5_27), (4, .int x4_26), (0, .ref (b0 0)), (1, .int x1_6), (2, .int x2_13), (3, .int x3_22)]) hx hb dX12_layBest_55 hl (by decide) rfl (fun ls hl => ?_)
                refine lv_iload_n hx hb dX12_layBest_57 rfl (lv_at hl 3 rfl) ?_
                refine lv_iconst (v := 1) hx hb dX12_layBest_58 (by decide) ?_
                refine lv_isub hx hb dX12_layBest_59 ?_
                obtain ⟨x6_28, e_, hf⟩ := mb_let_s hf
                refine mb_topi e_ ?_
                clear e_
                refine lv_istore (lv' := [(6, .int x6_28), (5, .int x5_27), (4, .int x4_26), (0, .ref (b0 0)), (1, .int x1_6), (2, .int x2_13), (3, .int x3_22)]) hx hb dX12_layBest_60 hl (by decide) rfl (fun ls hl => ?_)
                obtain ⟨K165_31, eK165_31, hf⟩ := mb_jn_s hf
                have k165_32 : ∀ (x5_29 : Int32) (P0_30 : PI) (H : Heap) (locs : List Loc) (ls : Array Slot), K165_31 x5_29 P0_30 = some z → va_P D vwCl (wC_Ref k b0 P0_30 L0_24) H → va_D A (wC_Ref k b0 P0_30 L0_24) → va_S A s.heap H locs → lv_has ls 9 [(0, .ref (b0 0)), (1, .int x1_6), (2, .int x2_13), (3, .int x3_22), (5, .int x5_29)] → W p l e rm_Ref_layBest s m args below meth c H locs 0 0 Q (F0 m 165 ls []) := by
                  intro x5_29 P0_30 H locs ls hf hP hD hS hl
                  have hf := mb_j2 eK165_31 hf
                  refine lv_iload hx hb dX12_layBest_165 (lv_at hl 4 rfl) ?_
                  obtain ⟨J181_34, eJ181_34, hf⟩ := mb_jn_s hf
                  have j181_35 : ∀ (y_33 : Int64) (H : Heap) (locs : List Loc) (ls : Array Slot), J181_34 y_33 = some z → va_P D vwCl (wC_Ref k b0 P0_30 L0_24) H → va_D A (wC_Ref k b0 P0_30 L0_24) → va_S A s.heap H locs → lv_has ls 9 [(0, .ref (b0 0)), (1, .int x1_6), (2, .int x2_13), (3, .int x3_22)] → W p l e rm_Ref_layBest s m args below meth c H locs 0 0 Q (F0 m 181 ls [.long y_33]) := by
                    intro y_33 H locs ls hf hP hD hS hl
                    have hf := mb_j1 eJ181_34 hf
                    obtain ⟨x6_36, e_, hf⟩ := mb_let_s hf
                    refine mb_topl e_ ?_
                    clear e_
                    refine lv_lstore (lv' := [(6, .long x6_36), (0, .ref (b0 0)), (1, .int x1_6), (2, .int x2_13), (3, .int x3_22)]) hx hb dX12_layBest_181 hl (by decide) rfl (fun ls hl => ?_)
                    refine lv_lload hx hb dX12_layBest_183 (lv_at hl 0 rfl) ?_
                    refine lv_aload_n hx hb dX12_layBest_185 rfl (lv_at hl 1 rfl) ?_
                    refine va_get (D := D) (ci := 12) (v := .long (L0_24 0 29)) (C := RX12) (T := TX12) (N := 42) hx hb hts iw_Ref hown hK hP 0 rfl rfl 29 (by decide) fl_142 (fun _ h9 => h9) rfl dX12_layBest_186 ?_
                    refine W.lcmp hx hb dX12_layBest_189 ?_
                    refine lv_if_le (tgt := 233) hx hb dX12_layBest_190 (by decide) (fun c_55 => ?_) (fun c_55 => ?_)
                    · have hf := mb_if_t c_55 hf
                      obtain ⟨x3_37, e_, hf⟩ := mb_let_s hf
                      refine lv_iinc (v := x3_37) (lv' := [(3, .int x3_37), (6, .long x6_36), (0, .ref (b0 0)), (1, .int x1_6), (2, .int x2_13)]) hx hb dX12_layBest_233 hl (k := 4) rfl (by rw [e_]; rfl) (by decide) rfl (fun ls hl => ?_)
                      clear e_
                      refine lv_goto (tgt := 46) hx hb dX12_layBest_236 (by decide) ?_
                      exact ih_21 x3_37 P0_30 L0_24 _ _ _ hf hP hD hS (lv_sub hl [2, 3, 4, 0] rfl)
                    · have hf := mb_if_f c_55 hf
                      refine lv_aload_n hx hb dX12_layBest_193 rfl (lv_at hl 1 rfl) ?_
                      refine lv_lload hx hb dX12_layBest_194 (lv_at hl 0 rfl) ?_
                      obtain ⟨L0_38, e_, hf⟩ := mb_let_s hf
                      refine va_put (D := D) (ci := 12) (v := .long x6_36) (ty := .long) (C := RX12) (T := TX12) (N := 42) hx hb hts iw_Ref tyX12 tyX12_ok nmX12 hown hK hP hD hS 0 rfl rfl 29 (by decide) fl_142 (fun _ h9 => h9) rfl (by decide +kernel) rfl rfl (Nat.le_of_ble_eq_true rfl) dX12_layBest_196 (fun H locs hP hD hS => ?_)
                      have hP : va_P D vwCl (wC_Ref k b0 P0_30 L0_38) H := by rw [e_]; exact hP
                      have hD : va_D A (wC_Ref k b0 P0_30 L0_38) := by rw [e_]; exact hD
                      clear e_
                      refine lv_aload_n hx hb dX12_layBest_199 rfl (lv_at hl 1 rfl) ?_
                      refine lv_iload_n hx hb dX12_layBest_200 rfl (lv_at hl 2 rfl) ?_
                      obtain ⟨P0_39, e_, hf⟩ := mb_let_s hf
                      refine va_put (D := D) (ci := 12) (v := .int x1_6) (ty := .int) (C := RX12) (T := TX12) (N := 42) hx hb hts iw_Ref tyX12 tyX12_ok nmX12 hown hK hP hD hS 0 rfl rfl 28 (by decide) fl_139 (fun _ h9 => h9) rfl (by decide +kernel) rfl rfl (Nat.le_of_ble_eq_true rfl) dX12_layBest_201 (fun H locs hP hD hS => ?_)
                      have hP : va_P D vwCl (wC_Ref k b0 P0_39 L0_38) H := by rw [e_]; exact hP
                      have hD : va_D A (wC_Ref k b0 P0_39 L0_38) := by rw [e_]; exact hD
                      clear e_
                      refine lv_iconst (v := 0) hx hb dX12_layBest_204 (by decide) ?_
                      obtain ⟨x8_40, e_, hf⟩ := mb_let_s hf
                      refine mb_topi e_ ?_
                      clear e_
                      refine lv_istore (lv' := [(8, .int x8_40), (6, .long x6_36), (0, .ref (b0 0)), (1, .int x1_6), (2, .int x2_13), (3, .int x3_22)]) hx hb dX12_layBest_205 hl (by decide) rfl (fun ls hl => ?_)
                      obtain ⟨K233_42, eK233_42, hf⟩ := mb_jn_s hf
                      have k233_43 : ∀ (P0_41 : PI) (H : Heap) (locs : List Loc) (ls : Array Slot), K233_42 P0_41 = some z → va_P D vwCl (wC_Ref k b0 P0_41 L0_38) H → va_D A (wC_Ref k b0 P0_41 L0_38) → va_S A s.heap H locs → lv_has ls 9 [(0, .ref (b0 0)), (1, .int x1_6), (2, .int x2_13), (3, .int x3_22)] → W p l e rm_Ref_layBest s m args below meth c H locs 0 0 Q (F0 m 233 ls []) := by
                        intro P0_41 H locs ls hf hP hD hS hl
                        have hf := mb_j1 eK233_42 hf
                        obtain ⟨x3_44, e_, hf⟩ := mb_let_s hf
                        refine lv_iinc (v := x3_44) (lv' := [(3, .int x3_44), (0, .ref (b0 0)), (1, .int x1_6), (2, .int x2_13)]) hx hb dX12_layBest_233 hl (k := 3) rfl (by rw [e_]; rfl) (by decide) rfl (fun ls hl => ?_)
                        clear e_
                        refine lv_goto (tgt := 46) hx hb dX12_layBest_236 (by decide) ?_
                        exact ih_21 x3_44 P0_41 L0_38 _ _ _ hf hP hD hS (lv_sub hl [1, 2, 3, 0] rfl)
                      have lp207_45 : ∀ (n : Nat) (x8_47 : Int32) (P0_48 : PI) (H : Heap) (locs : List Loc) (ls : Array Slot), f_Ref_layBest_207 K233_42 n x8_47 P0_48 = some z → va_P D vwCl (wC_Ref k b0 P0_48 L0_38) H → va_D A (wC_Ref k b0 P0_48 L0_38) → va_S A s.heap H locs → lv_has ls 9 [(0, .ref (b0 0)), (1, .int x1_6), (2, .int x2_13), (3, .int x3_22), (8, .int x8_47)] → W p l e rm_Ref_layBest s m args below meth c H locs 0 0 Q (F0 m 207 ls []) := by
                        intro n
                        induction n with
                        | zero =>
                          intro x8_47 P0_48 H locs ls hf
                          exact nomatch (show (none : Option (PI × PL)) = some z from hf)
                        | succ n ih_46 =>
                          intro x8_47 P0_48 H locs ls hf hP hD hS hl
                          have hf : f_Ref_layBest_207_b K233_42 (f_Ref_layBest_207 K233_42 n) x8_47 P0_48 = some z := hf
                          unfold f_Ref_layBest_207_b at hf
                          refine lv_iload hx hb dX12_layBest_207 (lv_at hl 4 rfl) ?_
                          refine lv_iconst (v := 4) hx hb dX12_layBest_209 (by decide) ?_
                          refine lv_icmp_ge (tgt := 233) hx hb dX12_layBest_210 (by decide) (fun c_54 => ?_) (fun c_54 => ?_)
                          · have hf := mb_if_t c_54 hf
                            exact k233_43 P0_48 _ _ _ hf hP hD hS (lv_sub hl [0, 1, 2, 3] rfl)
                          · have hf := mb_if_f c_54 hf
                            refine lv_aload_n hx hb dX12_layBest_213 rfl (lv_at hl 0 rfl) ?_
                            refine va_get (D := D) (ci := 12) (v := .ref (b0 28)) (C := RX12) (T := TX12) (N := 42) hx hb hts iw_Ref hown hK hP 0 rfl rfl 27 (by decide) fl_75 (fun _ h9 => h9) rfl dX12_layBest_214 ?_
                            refine lv_iload hx hb dX12_layBest_217 (lv_at hl 4 rfl) ?_
                            refine lv_aload_n hx hb dX12_layBest_219 rfl (lv_at hl 0 rfl) ?_
                            refine va_get (D := D) (ci := 12) (v := .ref (b0 27)) (C := RX12) (T := TX12) (N := 42) hx hb hts iw_Ref hown hK hP 0 rfl rfl 26 (by decide) fl_72 (fun _ h9 => h9) rfl dX12_layBest_220 ?_
                            refine lv_iload hx hb dX12_layBest_223 (lv_at hl 4 rfl) ?_
                            obtain ⟨h_50, hf⟩ := mb_chk_s hf
                            refine va_iald hx hb hK hP 20 0 rfl rfl h_50 dX12_layBest_225 ?_
                            obtain ⟨h_52, hf⟩ := mb_chk_s hf
                            obtain ⟨P0_51, e_, hf⟩ := mb_let_s hf
                            refine va_iast hx hb hK hP hD hS 21 0 rfl rfl h_52 dX12_layBest_226 (fun H locs hP hD hS => ?_)
                            have hP : va_P D vwCl (wC_Ref k b0 P0_51 L0_38) H := by rw [e_]; exact hP
                            have hD : va_D A (wC_Ref k b0 P0_51 L0_38) := by rw [e_]; exact hD
                            clear e_
                            obtain ⟨x8_53, e_, hf⟩ := mb_let_s hf
                            refine lv_iinc (v := x8_53) (lv' := [(8, .int x8_53), (0, .ref (b0 0)), (1, .int x1_6), (2, .int x2_13), (3, .int x3_22)]) hx hb dX12_layBest_227 hl (k := 4) rfl (by rw [e_]; rfl) (by decide) rfl (fun ls hl => ?_)
                            clear e_
                            refine lv_goto (tgt := 207) hx hb dX12_layBest_230 (by decide) ?_
                            exact ih_46 x8_53 P0_51 _ _ _ hf hP hD hS (lv_sub hl [1, 2, 3, 4, 0] rfl)
                      exact lp207_45 mb_fu x8_40 P0_39 _ _ _ hf hP hD hS (lv_sub hl [2, 3, 4, 5, 0] rfl)
                  refine lv_if_eq (tgt := 178) hx hb dX12_layBest_167 (by decide) (fun c_57 => ?_) (fun c_57 => ?_)
                  · have hf := mb_if_t c_57 hf
                    refine lv_ldc2 (v := (-4)) hx hb hown lc_135 dX12_layBest_178 ?_
                    exact j181_35 (-4 : Int64) _ _ _ hf hP hD hS (lv_sub hl [0, 1, 2, 3] rfl)
                  · have hf := mb_if_f c_57 hf
                    refine lv_aload_n hx hb dX12_layBest_170 rfl (lv_at hl 0 rfl) ?_
                    refine lv_iload_n hx hb dX12_layBest_171 rfl (lv_at hl 1 rfl) ?_
                    obtain ⟨r_56, hz, hf⟩ := mb_bd1_s hf
                    refine gc_l (r0 := r_56) (ws' := (wC_Ref k b0 P0_30 L0_24)) (wr := ([] : va_W)) (va_runV (As := [.int x1_6]) (rest := []) ⟨hx, hb, hml, hown, hts⟩ (c_Ref_round l D k H.size b0 P0_30 L0_24 x1_6 r_56 hz) (cwV 1 hts gX12_layBest_X12_round rfl rfl rfl (by decide +kernel) ⟨Nat.le_of_ble_eq_true rfl, Nat.le_of_ble_eq_true rfl⟩) (gp_V (ci := 12) (q0 := 0) (q := (RX12, TX12, 42)) hP hD hK hN [0, 1, 2, 3, 4, 5, 6, 7, 8, 9, 10, 11, 12, 13, 14, 15, 16, 17, 18, 19, 20, 21, 22, 23, 24, 25] (by decide +kernel) rfl rfl rfl) rfl rfl hl.1 rfl (lv_room (Nat.le_of_ble_eq_true rfl)) dX12_layBest_172 ⟨Nat.zero_le _, Nat.zero_le _⟩) hP hD hS hA [0, 1, 2, 3, 4, 5, 6, 7, 8, 9, 10, 11, 12, 13, 14, 15, 16, 17, 18, 19, 20, 21, 22, 23, 24, 25] [] rfl rfl (by decide +kernel) (by decide +kernel) [0, 1, 2, 3, 4, 5, 6, 7, 8, 9, 10, 11, 12, 13, 14, 15, 16, 17, 18, 19, 20, 21, 22, 23, 24, 25] (by decide +kernel) rfl (fun H locs hP hD hS => ?_)
                    clear hz
                    refine lv_goto (tgt := 181) hx hb dX12_layBest_175 (by decide) ?_
                    exact j181_35 r_56 _ _ _ hf hP hD hS (lv_sub hl [0, 1, 2, 3] rfl)
                have lp62_58 : ∀ (n : Nat) (x4_60 : Int32) (x5_61 : Int32) (x6_62 : Int32) (P0_63 : PI) (H : Heap) (locs : List Loc) (ls : Array Slot), f_Ref_layBest_62 x1_6 K165_31 n x4_60 x5_61 x6_62 P0_63 = some z → va_P D vwCl (wC_Ref k b0 P0_63 L0_24) H → va_D A (wC_Ref k b0 P0_63 L0_24) → va_S A s.heap H locs → lv_has ls 9 [(0, .ref (b0 0)), (1, .int x1_6), (2, .int x2_13), (3, .int x3_22), (4, .int x4_60), (5, .int x5_61), (6, .int x6_62)] → W p l e rm_Ref_layBest s m args below meth c H locs 0 0 Q (F0 m 62 ls []) := by
                  intro n
                  induction n with
                  | zero =>
                    intro x4_60 x5_61 x6_62 P0_63 H locs ls hf
                    exact nomatch (show (none : Option (PI × PL)) = some z from hf)
                  | succ n ih_59 =>
                    intro x4_60 x5_61 x6_62 P0_63 H locs ls hf hP hD hS hl
                    have hf : f_Ref_layBest_62_b x1_6 K165_31 (f_Ref_layBest_62 x1_6 K165_31 n) x4_60 x5_61 x6_62 P0_63 = some z := hf
                    unfold f_Ref_layBest_62_b at hf
                    refine lv_iload hx hb dX12_layBest_62 (lv_at hl 6 rfl) ?_
                    refine lv_if_lt (tgt := 165) hx hb dX12_layBest_64 (by decide) (fun c_102 => ?_) (fun c_102 => ?_)
                    · have hf := mb_if_t c_102 hf
                      exact k165_32 x5_61 P0_63 _ _ _ hf hP hD hS (lv_sub hl [0, 1, 2, 3, 5] rfl)
                    · have hf := mb_if_f c_102 hf
                      refine lv_aload_n hx hb dX12_layBest_67 rfl (lv_at hl 0 rfl) ?_
                      refine va_get (D := D) (ci := 12) (v := .ref (b0 27)) (C := RX12) (T := TX12) (N := 42) hx hb hts iw_Ref hown hK hP 0 rfl rfl 26 (by decide) fl_72 (fun _ h9 => h9) rfl dX12_layBest_68 ?_
                      refine lv_iload hx hb dX12_layBest_71 (lv_at hl 6 rfl) ?_
                      refine lv_iload hx hb dX12_layBest_73 (lv_at hl 4 rfl) ?_
                      refine lv_bipush (v := 16) hx hb dX12_layBest_75 (by decide) ?_
                      obtain ⟨h_65, hf⟩ := mb_dvi_s hf
                      refine lv_irem hx hb dX12_layBest_77 h_65 ?_
                      obtain ⟨h_67, hf⟩ := mb_chk_s hf
                      obtain ⟨P0_66, e_, hf⟩ := mb_let_s hf
                      refine va_iast hx hb hK hP hD hS 20 0 rfl rfl h_67 dX12_layBest_78 (fun H locs hP hD hS => ?_)
                      have hP : va_P D vwCl (wC_Ref k b0 P0_66 L0_24) H := by rw [e_]; exact hP
                      have hD : va_D A (wC_Ref k b0 P0_66 L0_24) := by rw [e_]; exact hD
                      clear e_
                      refine lv_iload hx hb dX12_layBest_79 (lv_at hl 4 rfl) ?_
                      refine lv_bipush (v := 16) hx hb dX12_layBest_81 (by decide) ?_
                      obtain ⟨h_68, hf⟩ := mb_dvi_s hf
                      refine lv_idiv hx hb dX12_layBest_83 h_68 ?_
                      obtain ⟨x4_69, e_, hf⟩ := mb_let_s hf
                      refine mb_topi e_ ?_
                      clear e_
                      refine lv_istore (lv' := [(4, .int x4_69), (0, .ref (b0 0)), (1, .int x1_6), (2, .int x2_13), (3, .int x3_22), (5, .int x5_61), (6, .int x6_62)]) hx hb dX12_layBest_84 hl (by decide) rfl (fun ls hl => ?_)
                      refine lv_iload hx hb dX12_layBest_86 (lv_at hl 5 rfl) ?_
                      obtain ⟨J110_71, eJ110_71, hf⟩ := mb_jn_s hf
                      have j110_72 : ∀ (y_70 : Int32) (H : Heap) (locs : List Loc) (ls : Array Slot), J110_71 y_70 = some z → va_P D vwCl (wC_Ref k b0 P0_66 L0_24) H → va_D A (wC_Ref k b0 P0_66 L0_24) → va_S A s.heap H locs → lv_has ls 9 [(0, .ref (b0 0)), (1, .int x1_6), (2, .int x2_13), (3, .int x3_22), (4, .int x4_69), (6, .int x6_62)] → W p l e rm_Ref_layBest s m args below meth c H locs 0 0 Q (F0 m 110 ls [.int y_70]) := by
                        intro y_70 H locs ls hf hP hD hS hl
                        have hf := mb_j1 eJ110_71 hf
                        obtain ⟨x5_73, e_, hf⟩ := mb_let_s hf
                        refine mb_topi e_ ?_
                        clear e_
                        refine lv_istore (lv' := [(5, .int x5_73), (0, .ref (b0 0)), (1, .int x1_6), (2, .int x2_13), (3, .int x3_22), (4, .int x4_69), (6, .int x6_62)]) hx hb dX12_layBest_110 hl (by decide) rfl (fun ls hl => ?_)
                        refine lv_iload hx hb dX12_layBest_112 (lv_at hl 6 rfl) ?_
                        refine lv_iconst (v := 1) hx hb dX12_layBest_114 (by decide) ?_
                        refine lv_iadd hx hb dX12_layBest_115 ?_
                        obtain ⟨x7_74, e_, hf⟩ := mb_let_s hf
                        refine mb_topi e_ ?_
                        clear e_
                        refine lv_istore (lv' := [(7, .int x7_74), (5, .int x5_73), (0, .ref (b0 0)), (1, .int x1_6), (2, .int x2_13), (3, .int x3_22), (4, .int x4_69), (6, .int x6_62)]) hx hb dX12_layBest_116 hl (by decide) rfl (fun ls hl => ?_)
                        obtain ⟨K159_76, eK159_76, hf⟩ := mb_jn_s hf
                        have k159_77 : ∀ (x5_75 : Int32) (H : Heap) (locs : List Loc) (ls : Array Slot), K159_76 x5_75 = some z → va_P D vwCl (wC_Ref k b0 P0_66 L0_24) H → va_D A (wC_Ref k b0 P0_66 L0_24) → va_S A s.heap H locs → lv_has ls 9 [(0, .ref (b0 0)), (1, .int x1_6), (2, .int x2_13), (3, .int x3_22), (4, .int x4_69), (5, .int x5_75), (6, .int x6_62)] → W p l e rm_Ref_layBest s m args below meth c H locs 0 0 Q (F0 m 159 ls []) := by
                          intro x5_75 H locs ls hf hP hD hS hl
                          have hf := mb_j1 eK159_76 hf
                          obtain ⟨x6_78, e_, hf⟩ := mb_let_s hf
                          refine lv_iinc (v := x6_78) (lv' := [(6, .int x6_78), (0, .ref (b0 0)), (1, .int x1_6), (2, .int x2_13), (3, .int x3_22), (4, .int x4_69), (5, .int x5_75)]) hx hb dX12_layBest_159 hl (k := 6) rfl (by rw [e_]; rfl) (by decide) rfl (fun ls hl => ?_)
                          clear e_
                          refine lv_goto (tgt := 62) hx hb dX12_layBest_162 (by decide) ?_
                          exact ih_59 x4_69 x5_75 x6_78 P0_66 _ _ _ hf hP hD hS (lv_sub hl [1, 2, 3, 4, 5, 6, 0] rfl)
                        have lp118_79 : ∀ (n : Nat) (x5_81 : Int32) (x7_82 : Int32) (H : Heap) (locs : List Loc) (ls : Array Slot), f_Ref_layBest_118 P0_66 x1_6 x6_62 K159_76 n x5_81 x7_82 = some z → va_P D vwCl (wC_Ref k b0 P0_66 L0_24) H → va_D A (wC_Ref k b0 P0_66 L0_24) → va_S A s.heap H locs → lv_has ls 9 [(0, .ref (b0 0)), (1, .int x1_6), (2, .int x2_13), (3, .int x3_22), (4, .int x4_69), (5, .int x5_81), (6, .int x6_62), (7, .int x7_82)] → W p l e rm_Ref_layBest s m args below meth c H locs 0 0 Q (F0 m 118 ls []) := by
                          intro n
                          induction n with
                          | zero =>
                            intro x5_81 x7_82 H locs ls hf
                            exact nomatch (show (none : Option (PI × PL)) = some z from hf)
                          | succ n ih_80 =>
                            intro x5_81 x7_82 H locs ls hf hP hD hS hl
                            have hf : f_Ref_layBest_118_b P0_66 x1_6 x6_62 K159_76 (f_Ref_layBest_118 P0_66 x1_6 x6_62 K159_76 n) x5_81 x7_82 = some z := hf
                            unfold f_Ref_layBest_118_b at hf
                            refine lv_iload hx hb dX12_layBest_118 (lv_at hl 7 rfl) ?_
                            refine lv_iload_n hx hb dX12_layBest_120 rfl (lv_at hl 1 rfl) ?_
                            refine lv_icmp_ge (tgt := 159) hx hb dX12_layBest_121 (by decide) (fun c_95 => ?_) (fun c_95 => ?_)
                            · have hf := mb_if_t c_95 hf
                              exact k159_77 x5_81 _ _ _ hf hP hD hS (lv_sub hl [0, 1, 2, 3, 4, 5, 6] rfl)
                            · have hf := mb_if_f c_95 hf
                              refine lv_iload hx hb dX12_layBest_124 (lv_at hl 5 rfl) ?_
                              obtain ⟨J151_85, eJ151_85, hf⟩ := mb_jn_s hf
                              have j151_86 : ∀ (y_84 : Int32) (H : Heap) (locs : List Loc) (ls : Array Slot), J151_85 y_84 = some z → va_P D vwCl (wC_Ref k b0 P0_66 L0_24) H → va_D A (wC_Ref k b0 P0_66 L0_24) → va_S A s.heap H locs → lv_has ls 9 [(0, .ref (b0 0)), (1, .int x1_6), (2, .int x2_13), (3, .int x3_22), (4, .int x4_69), (6, .int x6_62), (7, .int x7_82)] → W p l e rm_Ref_layBest s m args below meth c H locs 0 0 Q (F0 m 151 ls [.int y_84]) := by
                                intro y_84 H locs ls hf hP hD hS hl
                                have hf := mb_j1 eJ151_85 hf
                                obtain ⟨x5_87, e_, hf⟩ := mb_let_s hf
                                refine mb_topi e_ ?_
                                clear e_
                                refine lv_istore (lv' := [(5, .int x5_87), (0, .ref (b0 0)), (1, .int x1_6), (2, .int x2_13), (3, .int x3_22), (4, .int x4_69), (6, .int x6_62), (7, .int x7_82)]) hx hb dX12_layBest_151 hl (by decide) rfl (fun ls hl => ?_)
                                obtain ⟨x7_88, e_, hf⟩ := mb_let_s hf
                                refine lv_iinc (v := x7_88) (lv' := [(7, .int x7_88), (5, .int x5_87), (0, .ref (b0 0)), (1, .int x1_6), (2, .int x2_13), (3, .int x3_22), (4, .int x4_69), (6, .int x6_62)]) hx hb dX12_layBest_153 hl (k := 7) rfl (by rw [e_]; rfl) (by decide) rfl (fun ls hl => ?_)
                                clear e_
                                refine lv_goto (tgt := 118) hx hb dX12_layBest_156 (by decide) ?_
                                exact ih_80 x5_87 x7_88 _ _ _ hf hP hD hS (lv_sub hl [2, 3, 4, 5, 6, 1, 7, 0] rfl)
                              obtain ⟨J150_89, eJ150_89, hf⟩ := mb_jn_s hf
                              have j150_90 : ∀ (H : Heap) (locs : List Loc) (ls : Array Slot), J150_89 = some z → va_P D vwCl (wC_Ref k b0 P0_66 L0_24) H → va_D A (wC_Ref k b0 P0_66 L0_24) → va_S A s.heap H locs → lv_has ls 9 [(0, .ref (b0 0)), (1, .int x1_6), (2, .int x2_13), (3, .int x3_22), (4, .int x4_69), (6, .int x6_62), (7, .int x7_82)] → W p l e rm_Ref_layBest s m args below meth c H locs 0 0 Q (F0 m 150 ls []) := by
                                intro  H locs ls hf hP hD hS hl
                                have hf := mb_j0 eJ150_89 hf
                                refine lv_iconst (v := 0) hx hb dX12_layBest_150 (by decide) ?_
                                exact j151_86 (0 : Int32) _ _ _ hf hP hD hS (lv_sub hl [0, 1, 2, 3, 4, 5, 6] rfl)
                              refine lv_if_eq (tgt := 150) hx hb dX12_layBest_126 (by decide) (fun c_94 => ?_) (fun c_94 => ?_)
                              · have hf := mb_if_t c_94 hf
                                exact j150_90  _ _ _ hf hP hD hS (lv_sub hl [0, 1, 2, 3, 4, 6, 7] rfl)
                              · have hf := mb_if_f c_94 hf
                                refine lv_aload_n hx hb dX12_layBest_129 rfl (lv_at hl 0 rfl) ?_
                                refine va_get (D := D) (ci := 12) (v := .ref (b0 27)) (C := RX12) (T := TX12) (N := 42) hx hb hts iw_Ref hown hK hP 0 rfl rfl 26 (by decide) fl_72 (fun _ h9 => h9) rfl dX12_layBest_130 ?_
                                refine lv_iload hx hb dX12_layBest_133 (lv_at hl 7 rfl) ?_
                                obtain ⟨h_91, hf⟩ := mb_chk_s hf
                                refine va_iald hx hb hK hP 20 0 rfl rfl h_91 dX12_layBest_135 ?_
                                refine lv_aload_n hx hb dX12_layBest_136 rfl (lv_at hl 0 rfl) ?_
                                refine va_get (D := D) (ci := 12) (v := .ref (b0 27)) (C := RX12) (T := TX12) (N := 42) hx hb hts iw_Ref hown hK hP 0 rfl rfl 26 (by decide) fl_72 (fun _ h9 => h9) rfl dX12_layBest_137 ?_
                                refine lv_iload hx hb dX12_layBest_140 (lv_at hl 6 rfl) ?_
                                obtain ⟨h_92, hf⟩ := mb_chk_s hf
                                refine va_iald hx hb hK hP 20 0 rfl rfl h_92 dX12_layBest_142 ?_
                                refine lv_icmp_eq (tgt := 150) hx hb dX12_layBest_143 (by decide) (fun c_93 => ?_) (fun c_93 => ?_)
                                · have hf := mb_if_t c_93 hf
                                  exact j150_90  _ _ _ hf hP hD hS (lv_sub hl [0, 1, 2, 3, 4, 6, 7] rfl)
                                · have hf := mb_if_f c_93 hf
                                  refine lv_iconst (v := 1) hx hb dX12_layBest_146 (by decide) ?_
                                  refine lv_goto (tgt := 151) hx hb dX12_layBest_147 (by decide) ?_
                                  exact j151_86 (1 : Int32) _ _ _ hf hP hD hS (lv_sub hl [0, 1, 2, 3, 4, 6, 7] rfl)
                        exact lp118_79 mb_fu x5_73 x7_74 _ _ _ hf hP hD hS (lv_sub hl [2, 3, 4, 5, 6, 1, 7, 0] rfl)
                      obtain ⟨J109_96, eJ109_96, hf⟩ := mb_jn_s hf
                      have j109_97 : ∀ (H : Heap) (locs : List Loc) (ls : Array Slot), J109_96 = some z → va_P D vwCl (wC_Ref k b0 P0_66 L0_24) H → va_D A (wC_Ref k b0 P0_66 L0_24) → va_S A s.heap H locs → lv_has ls 9 [(0, .ref (b0 0)), (1, .int x1_6), (2, .int x2_13), (3, .int x3_22), (4, .int x4_69), (6, .int x6_62)] → W p l e rm_Ref_layBest s m args below meth c H locs 0 0 Q (F0 m 109 ls []) := by
                        intro  H locs ls hf hP hD hS hl
                        have hf := mb_j0 eJ109_96 hf
                        refine lv_iconst (v := 0) hx hb dX12_layBest_109 (by decide) ?_
                        exact j110_72 (0 : Int32) _ _ _ hf hP hD hS (lv_sub hl [0, 1, 2, 3, 4, 5] rfl)
                      refine lv_if_eq (tgt := 109) hx hb dX12_layBest_88 (by decide) (fun c_101 => ?_) (fun c_101 => ?_)
                      · have hf := mb_if_t c_101 hf
                        exact j109_97  _ _ _ hf hP hD hS (lv_sub hl [1, 2, 3, 4, 0, 6] rfl)
                      · have hf := mb_if_f c_101 hf
                        refine lv_aload_n hx hb dX12_layBest_91 rfl (lv_at hl 1 rfl) ?_
                        refine lv_aload_n hx hb dX12_layBest_92 rfl (lv_at hl 1 rfl) ?_
                        refine va_get (D := D) (ci := 12) (v := .ref (b0 27)) (C := RX12) (T := TX12) (N := 42) hx hb hts iw_Ref hown hK hP 0 rfl rfl 26 (by decide) fl_72 (fun _ h9 => h9) rfl dX12_layBest_93 ?_
                        refine lv_iload hx hb dX12_layBest_96 (lv_at hl 6 rfl) ?_
                        obtain ⟨h_98, hf⟩ := mb_chk_s hf
                        refine va_iald hx hb hK hP 20 0 rfl rfl h_98 dX12_layBest_98 ?_
                        obtain ⟨r_99, hz, hf⟩ := mb_bd1_s hf
                        refine gc_i (r0 := r_99) (ws' := (wC_Ref k b0 P0_66 L0_24)) (wr := ([] : va_W)) (va_runV (As := [.int (P0_66 27 x6_62.toNatClampNeg)]) (rest := []) ⟨hx, hb, hml, hown, hts⟩ (c_Ref_isUnit l D k H.size b0 P0_66 L0_24 (P0_66 27 x6_62.toNatClampNeg) r_99 hz) (cwV 1 hts gX12_layBest_X12_isUnit rfl rfl rfl (by decide +kernel) ⟨Nat.le_of_ble_eq_true rfl, Nat.le_of_ble_eq_true rfl⟩) (gp_V (ci := 12) (q0 := 0) (q := (RX12, TX12, 42)) hP hD hK hN [0, 1, 2, 3, 4, 5, 6, 7, 8, 9, 10, 11, 12, 13, 14, 15, 16, 17, 18, 19, 20, 21, 22, 23, 24, 25] (by decide +kernel) rfl rfl rfl) rfl rfl hl.1 rfl (lv_room (Nat.le_of_ble_eq_true rfl)) dX12_layBest_99 ⟨Nat.zero_le _, Nat.zero_le _⟩) hP hD hS hA [0, 1, 2, 3, 4, 5, 6, 7, 8, 9, 10, 11, 12, 13, 14, 15, 16, 17, 18, 19, 20, 21, 22, 23, 24, 25] [] rfl rfl (by decide +kernel) (by decide +kernel) [0, 1, 2, 3, 4, 5, 6, 7, 8, 9, 10, 11, 12, 13, 14, 15, 16, 17, 18, 19, 20, 21, 22, 23, 24, 25] (by decide +kernel) rfl (fun H locs hP hD hS => ?_)
                        clear hz
                        refine lv_if_eq (tgt := 109) hx hb dX12_layBest_102 (by decide) (fun c_100 => ?_) (fun c_100 => ?_)
                        · have hf := mb_if_t c_100 hf
                          exact j109_97  _ _ _ hf hP hD hS (lv_sub hl [1, 2, 3, 4, 0, 6] rfl)
                        · have hf := mb_if_f c_100 hf
                          refine lv_iconst (v := 1) hx hb dX12_layBest_105 (by decide) ?_
                          refine lv_goto (tgt := 110) hx hb dX12_layBest_106 (by decide) ?_
                          exact j110_72 (1 : Int32) _ _ _ hf hP hD hS (lv_sub hl [1, 2, 3, 4, 0, 6] rfl)
                exact lp62_58 mb_fu x4_26 x5_27 x6_28 P0_23 _ _ _ hf hP hD hS (lv_sub hl [3, 4, 5, 6, 2, 1, 0] rfl)
          exact lp46_20 mb_fu x3_14 P0_7 L0_8 _ _ _ hf hP hD hS (lv_sub hl [2, 3, 1, 0] rfl)
        refine lv_icmp_ne (tgt := 30) hx hb dX12_layBest_21 (by decide) (fun c_105 => ?_) (fun c_105 => ?_)
        · have hf := mb_if_f c_105 hf
          refine lv_iload_n hx hb dX12_layBest_30 rfl (lv_at hl 1 rfl) ?_
          refine lv_iconst (v := 3) hx hb dX12_layBest_31 (by decide) ?_
          refine lv_icmp_ne (tgt := 41) hx hb dX12_layBest_32 (by decide) (fun c_104 => ?_) (fun c_104 => ?_)
          · have hf := mb_if_f c_104 hf
            refine lv_ldc (v := (65536)) hx hb hown lc_146 dX12_layBest_41 ?_
            exact j43_12 (65536 : Int32) _ _ _ hf hP hD hS (lv_sub hl [0, 1] rfl)
          · have hf := mb_if_t c_104 hf
            refine lv_sipush (v := 4096) hx hb dX12_layBest_35 (by decide) ?_
            refine lv_goto (tgt := 43) hx hb dX12_layBest_38 (by decide) ?_
            exact j43_12 (4096 : Int32) _ _ _ hf hP hD hS (lv_sub hl [0, 1] rfl)
        · have hf := mb_if_t c_105 hf
          refine lv_sipush (v := 256) hx hb dX12_layBest_24 (by decide) ?_
          refine lv_goto (tgt := 43) hx hb dX12_layBest_27 (by decide) ?_
          exact j43_12 (256 : Int32) _ _ _ hf hP hD hS (lv_sub hl [0, 1] rfl)
  exact lp14_4 mb_fu x1_3 P0_1 L0_2 _ _ _ hf hP hD hS (lv_sub hl [1, 0] rfl)
def f_Ref_best (P0 : PI) (L0 : PL) (x1 : Int32) : Option (Int64 × PI × PL) := (if (-2 : Int32) ≤ x1 then mb_bd2 (f_Ref_layBest P0 L0) (fun (P0_1 : PI) (L0_2 : PL) => (if (P0_1 0 28) = 0 then some ((-4 : Int64), P0_1, L0_2) else (if x1 = (-1 : Int32) then some ((L0_2 0 29), P0_1, L0_2) else (if x1 = (-2 : Int32) then some (((P0_1 0 28)).toInt64, P0_1, L0_2) else (if (P0_1 0 28) ≤ x1 then some ((-4 : Int64), P0_1, L0_2) else mb_chk x1 4 (some (((P0_1 28 x1.toNatClampNeg)).toInt64, P0_1, L0_2))))))) else some ((-1 : Int64), P0, L0))
def rm_Ref_best : Room := { frames := 3, cells := 0, slots := 0, locals := 82 }
set_option maxHeartbeats 4000000 in
set_option maxRecDepth 100000 in
theorem c_Ref_best (l : Launch) (D : va_G) (k : Nat → ClassId) (sz : Nat) (b0 : Nat → Nat) (P0 : PI) (L0 : PL) (x1 : Int32) (z : Int64 × PI × PL) (hf : f_Ref_best P0 L0 x1 = some z) : Met l yX12_best wsX12_best rm_Ref_best (va_Pc [.ref (b0 0), .int x1] (gw_pre D vwCl (tyL k) (wC_Ref k b0 P0 L0) sz)) (va_Ql (fun (r : Int64) (_ : Unit) => r = z.1) (gw_b D vwCl (tyL k) (va_A (wC_Ref k b0 P0 L0) sz) (wC_Ref k b0 z.2.1 z.2.2)) (va_A (wC_Ref k b0 P0 L0) sz)) 0 0 (va_A (wC_Ref k b0 P0 L0) sz) := by
  refine gm_l (cc := cX12_best) (maxL := 2) (by decide) rfl (Nat.le_of_ble_eq_true rfl) ?_
  intro p e s m args below meth c A Q ls H locs hx hb hml hown hts hK hN hA hP hD hS hl hret
  have hown : s.vm.findClass RX12 = some m.cls := hown
  have hl : lv_has ls 2 [(0, .ref (b0 0)), (1, .int x1)] := hl
  have iw_Ref : ∀ w ∈ u_ws RX12 TX12 42, w ∈ wsX12_best := by decide +kernel
  have fl_75 := hts (.fieldLink RX12 75 "OneMeasureModel" "bestRow" "[I") (by decide +kernel)
  have fl_139 := hts (.fieldLink RX12 139 "OneMeasureModel" "bestMany" "I") (by decide +kernel)
  have fl_142 := hts (.fieldLink RX12 142 "OneMeasureModel" "bestEnd" "J") (by decide +kernel)
  have lc_119 := hts (.constantLong RX12 119 (-1)) (by decide +kernel)
  have lc_135 := hts (.constantLong RX12 135 (-4)) (by decide +kernel)
  unfold f_Ref_best at hf
  refine lv_iload_n hx hb dX12_best_0 rfl (lv_at hl 1 rfl) ?_
  refine lv_bipush (v := (-2)) hx hb dX12_best_1 (by decide) ?_
  refine lv_icmp_ge (tgt := 10) hx hb dX12_best_3 (by decide) (fun c_8 => ?_) (fun c_8 => ?_)
  · have hf := mb_if_t c_8 hf
    refine lv_aload_n hx hb dX12_best_10 rfl (lv_at hl 0 rfl) ?_
    obtain ⟨P0_1, L0_2, hz, hf⟩ := mb_bd2_s hf
    refine gc_v (ws' := (wC_Ref k b0 P0_1 L0_2)) (wr := ([] : va_W)) (va_runV (As := []) (rest := []) ⟨hx, hb, hml, hown, hts⟩ (c_Ref_layBest l D k H.size b0 P0 L0 (P0_1, L0_2) hz) (cwV 0 hts gX12_best_X12_layBest rfl rfl rfl (by decide +kernel) ⟨Nat.le_of_ble_eq_true rfl, Nat.le_of_ble_eq_true rfl⟩) (gp_V (ci := 12) (q0 := 0) (q := (RX12, TX12, 42)) hP hD hK hN [0, 1, 2, 3, 4, 5, 6, 7, 8, 9, 10, 11, 12, 13, 14, 15, 16, 17, 18, 19, 20, 21, 22, 23, 24, 25] (by decide +kernel) rfl rfl rfl) rfl rfl hl.1 rfl (lv_room (Nat.le_of_ble_eq_true rfl)) dX12_best_11 ⟨Nat.zero_le _, Nat.zero_le _⟩) hP hD hS hA [0, 1, 2, 3, 4, 5, 6, 7, 8, 9, 10, 11, 12, 13, 14, 15, 16, 17, 18, 19, 20, 21, 22, 23, 24, 25] [] rfl rfl (by decide +kernel) (by decide +kernel) [0, 1, 2, 3, 4, 5, 6, 7, 8, 9, 10, 11, 12, 13, 14, 15, 16, 17, 18, 19, 20, 21, 22, 23, 24, 25] (by decide +kernel) rfl (fun H locs hP hD hS => ?_)
    clear hz
    refine lv_aload_n hx hb dX12_best_14 rfl (lv_at hl 0 rfl) ?_
    refine va_get (D := D) (ci := 12) (v := .int (P0_1 0 28)) (C := RX12) (T := TX12) (N := 42) hx hb hts iw_Ref hown hK hP 0 rfl rfl 28 (by decide) fl_139 (fun _ h9 => h9) rfl dX12_best_15 ?_
    refine lv_if_ne (tgt := 25) hx hb dX12_best_18 (by decide) (fun c_7 => ?_) (fun c_7 => ?_)
    · have hf := mb_if_f c_7 hf
      refine lv_iload_n hx hb dX12_best_25 rfl (lv_at hl 1 rfl) ?_
      refine lv_iconst (v := (-1)) hx hb dX12_best_26 (by decide) ?_
      refine lv_icmp_ne (tgt := 37) hx hb dX12_best_27 (by decide) (fun c_6 => ?_) (fun c_6 => ?_)
      · have hf := mb_if_f c_6 hf
        refine lv_iload_n hx hb dX12_best_37 rfl (lv_at hl 1 rfl) ?_
        refine lv_bipush (v := (-2)) hx hb dX12_best_38 (by decide) ?_
        refine lv_icmp_ne (tgt := 51) hx hb dX12_best_40 (by decide) (fun c_5 => ?_) (fun c_5 => ?_)
        · have hf := mb_if_f c_5 hf
          refine lv_iload_n hx hb dX12_best_51 rfl (lv_at hl 1 rfl) ?_
          refine lv_aload_n hx hb dX12_best_52 rfl (lv_at hl 0 rfl) ?_
          refine va_get (D := D) (ci := 12) (v := .int (P0_1 0 28)) (C := RX12) (T := TX12) (N := 42) hx hb hts iw_Ref hown hK hP 0 rfl rfl 28 (by decide) fl_139 (fun _ h9 => h9) rfl dX12_best_53 ?_
          refine lv_icmp_ge (tgt := 69) hx hb dX12_best_56 (by decide) (fun c_4 => ?_) (fun c_4 => ?_)
          · have hf := mb_if_t c_4 hf
            refine lv_ldc2 (v := (-4)) hx hb hown lc_135 dX12_best_69 ?_
            have hz := Option.some.inj hf
            subst hz
            exact hret _ _ _ _ dX12_best_72 hP hD hS
          · have hf := mb_if_f c_4 hf
            refine lv_aload_n hx hb dX12_best_59 rfl (lv_at hl 0 rfl) ?_
            refine va_get (D := D) (ci := 12) (v := .ref (b0 28)) (C := RX12) (T := TX12) (N := 42) hx hb hts iw_Ref hown hK hP 0 rfl rfl 27 (by decide) fl_75 (fun _ h9 => h9) rfl dX12_best_60 ?_
            refine lv_iload_n hx hb dX12_best_63 rfl (lv_at hl 1 rfl) ?_
            obtain ⟨h_3, hf⟩ := mb_chk_s hf
            refine va_iald hx hb hK hP 21 0 rfl rfl h_3 dX12_best_64 ?_
            refine lv_i2l hx hb dX12_best_65 rfl ?_
            refine lv_goto (tgt := 72) hx hb dX12_best_66 (by decide) ?_
            have hz := Option.some.inj hf
            subst hz
            exact hret _ _ _ _ dX12_best_72 hP hD hS
        · have hf := mb_if_t c_5 hf
          refine lv_aload_n hx hb dX12_best_43 rfl (lv_at hl 0 rfl) ?_
          refine va_get (D := D) (ci := 12) (v := .int (P0_1 0 28)) (C := RX12) (T := TX12) (N := 42) hx hb hts iw_Ref hown hK hP 0 rfl rfl 28 (by decide) fl_139 (fun _ h9 => h9) rfl dX12_best_44 ?_
          refine lv_i2l hx hb dX12_best_47 rfl ?_
          refine lv_goto (tgt := 72) hx hb dX12_best_48 (by decide) ?_
          have hz := Option.some.inj hf
          subst hz
          exact hret _ _ _ _ dX12_best_72 hP hD hS
      · have hf := mb_if_t c_6 hf
        refine lv_aload_n hx hb dX12_best_30 rfl (lv_at hl 0 rfl) ?_
        refine va_get (D := D) (ci := 12) (v := .long (L0_2 0 29)) (C := RX12) (T := TX12) (N := 42) hx hb hts iw_Ref hown hK hP 0 rfl rfl 29 (by decide) fl_142 (fun _ h9 => h9) rfl dX12_best_31 ?_
        refine lv_goto (tgt := 72) hx hb dX12_best_34 (by decide) ?_
        have hz := Option.some.inj hf
        subst hz
        exact hret _ _ _ _ dX12_best_72 hP hD hS
    · have hf := mb_if_t c_7 hf
      refine lv_ldc2 (v := (-4)) hx hb hown lc_135 dX12_best_21 ?_
      have hz := Option.some.inj hf
      subst hz
      exact hret _ _ _ _ dX12_best_24 hP hD hS
  · have hf := mb_if_f c_8 hf
    refine lv_ldc2 (v := (-1)) hx hb hown lc_119 dX12_best_6 ?_
    have hz := Option.some.inj hf
    subst hz
    exact hret _ _ _ _ dX12_best_9 hP hD hS
def f_Ref_chain (P0 : PI) (L0 : PL) (x1 : Int32) (x2 : Int32) (x3 : Int32) : Option (Int32 × PI × PL) := mb_bd1 (f_Ref_in ((x1).toInt64) (0 : Int64) (1 : Int64)) (fun (r_1 : Int32) => (if r_1 = 0 then some ((-1 : Int32), P0, L0) else mb_bd1 (f_Ref_in ((x2).toInt64) (1 : Int64) (1000000 : Int64)) (fun (r_2 : Int32) => (if r_2 = 0 then some ((-1 : Int32), P0, L0) else mb_bd1 (f_Ref_in ((x3).toInt64) (1 : Int64) (1000 : Int64)) (fun (r_3 : Int32) => (if r_3 = 0 then some ((-1 : Int32), P0, L0) else (if (P0 0 5) = (12 : Int32) then some ((-3 : Int32), P0, L0) else mb_chk (P0 0 5) 12 (mb_let (mb_u2 P0 7 (P0 0 5).toNatClampNeg x1) (fun (P0_4 : PI) => mb_chk (P0_4 0 5) 12 (mb_let (mb_u2L L0 8 (P0_4 0 5).toNatClampNeg ((x2).toInt64)) (fun (L0_6 : PL) => mb_chk (P0_4 0 5) 12 (mb_let (mb_u2L L0_6 9 (P0_4 0 5).toNatClampNeg ((x3).toInt64)) (fun (L0_8 : PL) => mb_let (mb_uo P0_4 5 ((P0_4 0 5) + (1 : Int32))) (fun (P0_10 : PI) => some ((P0_10 0 5), P0_10, L0_8)))))))))))))))
def rm_Ref_chain : Room := { frames := 1, cells := 0, slots := 0, locals := 25 }
set_option maxHeartbeats 4000000 in
set_option maxRecDepth 100000 in
theorem c_Ref_chain (l : Launch) (D : va_G) (k : Nat → ClassId) (sz : Nat) (b0 : Nat → Nat) (P0 : PI) (L0 : PL) (x1 : Int32) (x2 : Int32) (x3 : Int32) (z : Int32 × PI × PL) (hf : f_Ref_chain P0 L0 x1 x2 x3 = some z) : Met l yX12_chain wsX12_chain rm_Ref_chain (va_Pc [.ref (b0 0), .int x1, .int x2, .int x3] (gw_pre D vwCl (tyL k) (wC_Ref k b0 P0 L0) sz)) (va_Qi (fun (r : Int32) (_ : Unit) => r = z.1) (gw_b D vwCl (tyL k) (va_A (wC_Ref k b0 P0 L0) sz) (wC_Ref k b0 z.2.1 z.2.2)) (va_A (wC_Ref k b0 P0 L0) sz)) 0 0 (va_A (wC_Ref k b0 P0 L0) sz) := by
  refine gm_i (cc := cX12_chain) (maxL := 4) (by decide) rfl (Nat.le_of_ble_eq_true rfl) ?_
  intro p e s m args below meth c A Q ls H locs hx hb hml hown hts hK hN hA hP hD hS hl hret
  have hown : s.vm.findClass RX12 = some m.cls := hown
  have hl : lv_has ls 4 [(0, .ref (b0 0)), (1, .int x1), (2, .int x2), (3, .int x3)] := hl
  have iw_Ref : ∀ w ∈ u_ws RX12 TX12 42, w ∈ wsX12_chain := by decide +kernel
  have fl_22 := hts (.fieldLink RX12 22 "OneMeasureModel" "chainParty" "[I") (by decide +kernel)
  have fl_25 := hts (.fieldLink RX12 25 "OneMeasureModel" "yards" "[J") (by decide +kernel)
  have fl_29 := hts (.fieldLink RX12 29 "OneMeasureModel" "angles" "[J") (by decide +kernel)
  have fl_154 := hts (.fieldLink RX12 154 "OneMeasureModel" "chainMany" "I") (by decide +kernel)
  have lc_97 := hts (.constantLong RX12 97 (1000000)) (by decide +kernel)
  have lc_109 := hts (.constantLong RX12 109 (1000)) (by decide +kernel)
  unfold f_Ref_chain at hf
  refine lv_iload_n hx hb dX12_chain_0 rfl (lv_at hl 1 rfl) ?_
  refine lv_i2l hx hb dX12_chain_1 rfl ?_
  refine lv_lconst (v := 0) hx hb dX12_chain_2 (by decide) ?_
  refine lv_lconst (v := 1) hx hb dX12_chain_3 (by decide) ?_
  obtain ⟨r_1, hz, hf⟩ := mb_bd1_s hf
  refine gc_i (r0 := r_1) (ws' := (wC_Ref k b0 P0 L0)) (wr := (wC_Ref k b0 P0 L0)) (va_runS (As := [.long (x1).toInt64, .long (0 : Int64), .long (1 : Int64)]) (rest := []) ⟨hx, hb, hml, hown, hts⟩ (c_Ref_in l D k H.size ((x1).toInt64) (0 : Int64) (1 : Int64) r_1 hz) (cwS 3 hts gX12_chain_X12_in rfl rfl rfl (by decide +kernel) ⟨Nat.le_of_ble_eq_true rfl, Nat.le_of_ble_eq_true rfl⟩) (gp_S hP hD hK hN [] (by decide +kernel) rfl) rfl rfl hl.1 rfl (lv_room (Nat.le_of_ble_eq_true rfl)) dX12_chain_4 ⟨Nat.zero_le _, Nat.zero_le _⟩) hP hD hS hA [] [0, 1, 2, 3, 4, 5, 6, 7, 8, 9, 10, 11, 12, 13, 14, 15, 16, 17, 18, 19, 20, 21, 22, 23, 24, 25] rfl rfl (by decide +kernel) (by decide +kernel) [0, 1, 2, 3, 4, 5, 6, 7, 8, 9, 10, 11, 12, 13, 14, 15, 16, 17, 18, 19, 20, 21, 22, 23, 24, 25] (by decide +kernel) rfl (fun H locs hP hD hS => ?_)
  clear hz
  refine lv_if_eq (tgt := 34) hx hb dX12_chain_7 (by decide) (fun c_14 => ?_) (fun c_14 => ?_)
  · have hf := mb_if_t c_14 hf
    refine lv_iconst (v := (-1)) hx hb dX12_chain_34 (by decide) ?_
    have hz := Option.some.inj hf
    subst hz
    exact hret _ _ _ _ dX12_chain_35 hP hD hS
  · have hf := mb_if_f c_14 hf
    refine lv_iload_n hx hb dX12_chain_10 rfl (lv_at hl 2 rfl) ?_
    refine lv_i2l hx hb dX12_chain_11 rfl ?_
    refine lv_lconst (v := 1) hx hb dX12_chain_12 (by decide) ?_
    refine lv_ldc2 (v := (1000000)) hx hb hown lc_97 dX12_chain_13 ?_
    obtain ⟨r_2, hz, hf⟩ := mb_bd1_s hf
    refine gc_i (r0 := r_2) (ws' := (wC_Ref k b0 P0 L0)) (wr := (wC_Ref k b0 P0 L0)) (va_runS (As := [.long (x2).toInt64, .long (1 : Int64), .long (1000000 : Int64)]) (rest := []) ⟨hx, hb, hml, hown, hts⟩ (c_Ref_in l D k H.size ((x2).toInt64) (1 : Int64) (1000000 : Int64) r_2 hz) (cwS 3 hts gX12_chain_X12_in rfl rfl rfl (by decide +kernel) ⟨Nat.le_of_ble_eq_true rfl, Nat.le_of_ble_eq_true rfl⟩) (gp_S hP hD hK hN [] (by decide +kernel) rfl) rfl rfl hl.1 rfl (lv_room (Nat.le_of_ble_eq_true rfl)) dX12_chain_16 ⟨Nat.zero_le _, Nat.zero_le _⟩) hP hD hS hA [] [0, 1, 2, 3, 4, 5, 6, 7, 8, 9, 10, 11, 12, 13, 14, 15, 16, 17, 18, 19, 20, 21, 22, 23, 24, 25] rfl rfl (by decide +kernel) (by decide +kernel) [0, 1, 2, 3, 4, 5, 6, 7, 8, 9, 10, 11, 12, 13, 14, 15, 16, 17, 18, 19, 20, 21, 22, 23, 24, 25] (by decide +kernel) rfl (fun H locs hP hD hS => ?_)
    clear hz
    refine lv_if_eq (tgt := 34) hx hb dX12_chain_19 (by decide) (fun c_13 => ?_) (fun c_13 => ?_)
    · have hf := mb_if_t c_13 hf
      refine lv_iconst (v := (-1)) hx hb dX12_chain_34 (by decide) ?_
      have hz := Option.some.inj hf
      subst hz
      exact hret _ _ _ _ dX12_chain_35 hP hD hS
    · have hf := mb_if_f c_13 hf
      refine lv_iload_n hx hb dX12_chain_22 rfl (lv_at hl 3 rfl) ?_
      refine lv_i2l hx hb dX12_chain_23 rfl ?_
      refine lv_lconst (v := 1) hx hb dX12_chain_24 (by decide) ?_
      refine lv_ldc2 (v := (1000)) hx hb hown lc_109 dX12_chain_25 ?_
      obtain ⟨r_3, hz, hf⟩ := mb_bd1_s hf
      refine gc_i (r0 := r_3) (ws' := (wC_Ref k b0 P0 L0)) (wr := (wC_Ref k b0 P0 L0)) (va_runS (As := [.long (x3).toInt64, .long (1 : Int64), .long (1000 : Int64)]) (rest := []) ⟨hx, hb, hml, hown, hts⟩ (c_Ref_in l D k H.size ((x3).toInt64) (1 : Int64) (1000 : Int64) r_3 hz) (cwS 3 hts gX12_chain_X12_in rfl rfl rfl (by decide +kernel) ⟨Nat.le_of_ble_eq_true rfl, Nat.le_of_ble_eq_true rfl⟩) (gp_S hP hD hK hN [] (by decide +kernel) rfl) rfl rfl hl.1 rfl (lv_room (Nat.le_of_ble_eq_true rfl)) dX12_chain_28 ⟨Nat.zero_le _, Nat.zero_le _⟩) hP hD hS hA [] [0, 1, 2, 3, 4, 5, 6, 7, 8, 9, 10, 11, 12, 13, 14, 15, 16, 17, 18, 19, 20, 21, 22, 23, 24, 25] rfl rfl (by decide +kernel) (by decide +kernel) [0, 1, 2, 3, 4, 5, 6, 7, 8, 9, 10, 11, 12, 13, 14, 15, 16, 17, 18, 19, 20, 21, 22, 23, 24, 25] (by decide +kernel) rfl (fun H locs hP hD hS => ?_)
      clear hz
      refine lv_if_ne (tgt := 36) hx hb dX12_chain_31 (by decide) (fun c_12 => ?_) (fun c_12 => ?_)
      · have hf := mb_if_f c_12 hf
        refine lv_aload_n hx hb dX12_chain_36 rfl (lv_at hl 0 rfl) ?_
        refine va_get (D := D) (ci := 12) (v := .int (P0 0 5)) (C := RX12) (T := TX12) (N := 42) hx hb hts iw_Ref hown hK hP 0 rfl rfl 5 (by decide) fl_154 (fun _ h9 => h9) rfl dX12_chain_37 ?_
        refine lv_bipush (v := 12) hx hb dX12_chain_40 (by decide) ?_
        refine lv_icmp_ne (tgt := 48) hx hb dX12_chain_42 (by decide) (fun c_11 => ?_) (fun c_11 => ?_)
        · have hf := mb_if_f c_11 hf
          refine lv_aload_n hx hb dX12_chain_48 rfl (lv_at hl 0 rfl) ?_
          refine va_get (D := D) (ci := 12) (v := .ref (b0 7)) (C := RX12) (T := TX12) (N := 42) hx hb hts iw_Ref hown hK hP 0 rfl rfl 6 (by decide) fl_22 (fun _ h9 => h9) rfl dX12_chain_49 ?_
          refine lv_aload_n hx hb dX12_chain_52 rfl (lv_at hl 0 rfl) ?_
          refine va_get (D := D) (ci := 12) (v := .int (P0 0 5)) (C := RX12) (T := TX12) (N := 42) hx hb hts iw_Ref hown hK hP 0 rfl rfl 5 (by decide) fl_154 (fun _ h9 => h9) rfl dX12_chain_53 ?_
          refine lv_iload_n hx hb dX12_chain_56 rfl (lv_at hl 1 rfl) ?_
          obtain ⟨h_5, hf⟩ := mb_chk_s hf
          obtain ⟨P0_4, e_, hf⟩ := mb_let_s hf
          refine va_iast hx hb hK hP hD hS 5 0 rfl rfl h_5 dX12_chain_57 (fun H locs hP hD hS => ?_)
          have hP : va_P D vwCl (wC_Ref k b0 P0_4 L0) H := by rw [e_]; exact hP
          have hD : va_D A (wC_Ref k b0 P0_4 L0) := by rw [e_]; exact hD
          clear e_
          refine lv_aload_n hx hb dX12_chain_58 rfl (lv_at hl 0 rfl) ?_
          refine va_get (D := D) (ci := 12) (v := .ref (b0 8)) (C := RX12) (T := TX12) (N := 42) hx hb hts iw_Ref hown hK hP 0 rfl rfl 7 (by decide) fl_25 (fun _ h9 => h9) rfl dX12_chain_59 ?_
          refine lv_aload_n hx hb dX12_chain_62 rfl (lv_at hl 0 rfl) ?_
          refine va_get (D := D) (ci := 12) (v := .int (P0_4 0 5)) (C := RX12) (T := TX12) (N := 42) hx hb hts iw_Ref hown hK hP 0 rfl rfl 5 (by decide) fl_154 (fun _ h9 => h9) rfl dX12_chain_63 ?_
          refine lv_iload_n hx hb dX12_chain_66 rfl (lv_at hl 2 rfl) ?_
          refine lv_i2l hx hb dX12_chain_67 rfl ?_
          obtain ⟨h_7, hf⟩ := mb_chk_s hf
          obtain ⟨L0_6, e_, hf⟩ := mb_let_s hf
          refine va_last hx hb hK hP hD hS 6 1 rfl rfl h_7 dX12_chain_68 (fun H locs hP hD hS => ?_)
          have hP : va_P D vwCl (wC_Ref k b0 P0_4 L0_6) H := by rw [e_]; exact hP
          have hD : va_D A (wC_Ref k b0 P0_4 L0_6) := by rw [e_]; exact hD
          clear e_
          refine lv_aload_n hx hb dX12_chain_69 rfl (lv_at hl 0 rfl) ?_
          refine va_get (D := D) (ci := 12) (v := .ref (b0 9)) (C := RX12) (T := TX12) (N := 42) hx hb hts iw_Ref hown hK hP 0 rfl rfl 8 (by decide) fl_29 (fun _ h9 => h9) rfl dX12_chain_70 ?_
          refine lv_aload_n hx hb dX12_chain_73 rfl (lv_at hl 0 rfl) ?_
          refine va_get (D := D) (ci := 12) (v := .int (P0_4 0 5)) (C := RX12) (T := TX12) (N := 42) hx hb hts iw_Ref hown hK hP 0 rfl rfl 5 (by decide) fl_154 (fun _ h9 => h9) rfl dX12_chain_74 ?_
          refine lv_iload_n hx hb dX12_chain_77 rfl (lv_at hl 3 rfl) ?_
          refine lv_i2l hx hb dX12_chain_78 rfl ?_
          obtain ⟨h_9, hf⟩ := mb_chk_s hf
          obtain ⟨L0_8, e_, hf⟩ := mb_let_s hf
          refine va_last hx hb hK hP hD hS 7 1 rfl rfl h_9 dX12_chain_79 (fun H locs hP hD hS => ?_)
          have hP : va_P D vwCl (wC_Ref k b0 P0_4 L0_8) H := by rw [e_]; exact hP
          have hD : va_D A (wC_Ref k b0 P0_4 L0_8) := by rw [e_]; exact hD
          clear e_
          refine lv_aload_n hx hb dX12_chain_80 rfl (lv_at hl 0 rfl) ?_
          refine lv_dup hx hb dX12_chain_81 rfl ?_
          refine va_get (D := D) (ci := 12) (v := .int (P0_4 0 5)) (C := RX12) (T := TX12) (N := 42) hx hb hts iw_Ref hown hK hP 0 rfl rfl 5 (by decide) fl_154 (fun _ h9 => h9) rfl dX12_chain_82 ?_
          refine lv_iconst (v := 1) hx hb dX12_chain_85 (by decide) ?_
          refine lv_iadd hx hb dX12_chain_86 ?_
          obtain ⟨P0_10, e_, hf⟩ := mb_let_s hf
          refine va_put (D := D) (ci := 12) (v := .int ((P0_4 0 5) + (1 : Int32))) (ty := .int) (C := RX12) (T := TX12) (N := 42) hx hb hts iw_Ref tyX12 tyX12_ok nmX12 hown hK hP hD hS 0 rfl rfl 5 (by decide) fl_154 (fun _ h9 => h9) rfl (by decide +kernel) rfl rfl (Nat.le_of_ble_eq_true rfl) dX12_chain_87 (fun H locs hP hD hS => ?_)
          have hP : va_P D vwCl (wC_Ref k b0 P0_10 L0_8) H := by rw [e_]; exact hP
          have hD : va_D A (wC_Ref k b0 P0_10 L0_8) := by rw [e_]; exact hD
          clear e_
          refine lv_aload_n hx hb dX12_chain_90 rfl (lv_at hl 0 rfl) ?_
          refine va_get (D := D) (ci := 12) (v := .int (P0_10 0 5)) (C := RX12) (T := TX12) (N := 42) hx hb hts iw_Ref hown hK hP 0 rfl rfl 5 (by decide) fl_154 (fun _ h9 => h9) rfl dX12_chain_91 ?_
          have hz := Option.some.inj hf
          subst hz
          exact hret _ _ _ _ dX12_chain_94 hP hD hS
        · have hf := mb_if_t c_11 hf
          refine lv_bipush (v := (-3)) hx hb dX12_chain_45 (by decide) ?_
          have hz := Option.some.inj hf
          subst hz
          exact hret _ _ _ _ dX12_chain_47 hP hD hS
      · have hf := mb_if_t c_12 hf
        refine lv_iconst (v := (-1)) hx hb dX12_chain_34 (by decide) ?_
        have hz := Option.some.inj hf
        subst hz
        exact hret _ _ _ _ dX12_chain_35 hP hD hS
def f_Ref_common_6_b (self_7 : Int64 → Int64 → Option (Int64)) (x4_5 : Int64) (x6_6 : Int64) : Option (Int64) := (if (lg_cmp x6_6 (0 : Int64)) = 0 then some x4_5 else mb_dvl x6_6 (mb_let (x4_5 - x4_5 / x6_6 * x6_6) (fun (x8_9 : Int64) => mb_let x6_6 (fun (x4_10 : Int64) => mb_let x8_9 (fun (x6_11 : Int64) => self_7 x4_10 x6_11)))))
def f_Ref_common_6 : Nat → Int64 → Int64 → Option (Int64)
  | 0, _, _ => none
  | n + 1, x4_5, x6_6 => f_Ref_common_6_b  (f_Ref_common_6  n) x4_5 x6_6
def f_Ref_common (x0 : Int64) (x2 : Int64) : Option (Int64) := mb_let x0 (fun (x4_1 : Int64) => mb_let x2 (fun (x6_2 : Int64) => f_Ref_common_6  mb_fu x4_1 x6_2))
def rm_Ref_common : Room := { frames := 0, cells := 0, slots := 0, locals := 0 }
set_option maxHeartbeats 4000000 in
set_option maxRecDepth 100000 in
theorem c_Ref_common (l : Launch) (D : va_G) (k : Nat → ClassId) (sz : Nat) (x0 : Int64) (x2 : Int64) (z : Int64) (hf : f_Ref_common x0 x2 = some z) : Met l yX12_common wsX12_common rm_Ref_common (va_Pc [.long x0, .long x2] (gw_pre D vwCl (tyL k) ([] : va_W) sz)) (va_Ql (fun (r : Int64) (_ : Unit) => r = z) (gw_b D vwCl (tyL k) (va_A ([] : va_W) sz) ([] : va_W)) (va_A ([] : va_W) sz)) 0 0 (va_A ([] : va_W) sz) := by
  refine gm_l (cc := cX12_common) (maxL := 10) (by decide) rfl (Nat.le_of_ble_eq_true rfl) ?_
  intro p e s m args below meth c A Q ls H locs hx hb hml hown hts hK hN hA hP hD hS hl hret
  have hown : s.vm.findClass RX12 = some m.cls := hown
  have hl : lv_has ls 10 [(0, .long x0), (2, .long x2)] := hl
  unfold f_Ref_common at hf
  refine lv_lload_n hx hb dX12_common_0 rfl (lv_at hl 0 rfl) ?_
  obtain ⟨x4_1, e_, hf⟩ := mb_let_s hf
  refine mb_topl e_ ?_
  clear e_
  refine lv_lstore (lv' := [(4, .long x4_1), (0, .long x0), (2, .long x2)]) hx hb dX12_common_1 hl (by decide) rfl (fun ls hl => ?_)
  refine lv_lload_n hx hb dX12_common_3 rfl (lv_at hl 2 rfl) ?_
  obtain ⟨x6_2, e_, hf⟩ := mb_let_s hf
  refine mb_topl e_ ?_
  clear e_
  refine lv_lstore (lv' := [(6, .long x6_2), (4, .long x4_1), (0, .long x0), (2, .long x2)]) hx hb dX12_common_4 hl (by decide) rfl (fun ls hl => ?_)
  have lp6_3 : ∀ (n : Nat) (x4_5 : Int64) (x6_6 : Int64) (H : Heap) (locs : List Loc) (ls : Array Slot), f_Ref_common_6  n x4_5 x6_6 = some z → va_P D vwCl ([] : va_W) H → va_D A ([] : va_W) → va_S A s.heap H locs → lv_has ls 10 [(4, .long x4_5), (6, .long x6_6)] → W p l e rm_Ref_common s m args below meth c H locs 0 0 Q (F0 m 6 ls []) := by
    intro n
    induction n with
    | zero =>
      intro x4_5 x6_6 H locs ls hf
      exact nomatch (show (none : Option (Int64)) = some z from hf)
    | succ n ih_4 =>
      intro x4_5 x6_6 H locs ls hf hP hD hS hl
      have hf : f_Ref_common_6_b  (f_Ref_common_6  n) x4_5 x6_6 = some z := hf
      unfold f_Ref_common_6_b at hf
      refine lv_lload hx hb dX12_common_6 (lv_at hl 1 rfl) ?_
      refine lv_lconst (v := 0) hx hb dX12_common_8 (by decide) ?_
      refine W.lcmp hx hb dX12_common_9 ?_
      refine lv_if_eq (tgt := 31) hx hb dX12_common_10 (by decide) (fun c_12 => ?_) (fun c_12 => ?_)
      · have hf := mb_if_t c_12 hf
        refine lv_lload hx hb dX12_common_31 (lv_at hl 0 rfl) ?_
        have hz := Option.some.inj hf
        subst hz
        exact hret _ _ _ _ dX12_common_33 hP hD hS
      · have hf := mb_if_f c_12 hf
        refine lv_lload hx hb dX12_common_13 (lv_at hl 0 rfl) ?_
        refine lv_lload hx hb dX12_common_15 (lv_at hl 1 rfl) ?_
        obtain ⟨h_8, hf⟩ := mb_dvl_s hf
        refine lv_lrem hx hb dX12_common_17 h_8 ?_
        obtain ⟨x8_9, e_, hf⟩ := mb_let_s hf
        refine mb_topl e_ ?_
        clear e_
        refine lv_lstore (lv' := [(8, .long x8_9), (4, .long x4_5), (6, .long x6_6)]) hx hb dX12_common_18 hl (by decide) rfl (fun ls hl => ?_)
        refine lv_lload hx hb dX12_common_20 (lv_at hl 2 rfl) ?_
        obtain ⟨x4_10, e_, hf⟩ := mb_let_s hf
        refine mb_topl e_ ?_
        clear e_
        refine lv_lstore (lv' := [(4, .long x4_10), (8, .long x8_9), (6, .long x6_6)]) hx hb dX12_common_22 hl (by decide) rfl (fun ls hl => ?_)
        refine lv_lload hx hb dX12_common_24 (lv_at hl 1 rfl) ?_
        obtain ⟨x6_11, e_, hf⟩ := mb_let_s hf
        refine mb_topl e_ ?_
        clear e_
        refine lv_lstore (lv' := [(6, .long x6_11), (4, .long x4_10), (8, .long x8_9)]) hx hb dX12_common_26 hl (by decide) rfl (fun ls hl => ?_)
        refine lv_goto (tgt := 6) hx hb dX12_common_28 (by decide) ?_
        exact ih_4 x4_10 x6_11 _ _ _ hf hP hD hS (lv_sub hl [1, 0] rfl)
  exact lp6_3 mb_fu x4_1 x6_2 _ _ _ hf hP hD hS (lv_sub hl [1, 0] rfl)
