def f_Ref_whyOf_7_b (P0 : PI) (x1 : Int32) (x2 : Int32) (x3 : Int32) (self_7 : Int32 → Int32 → Option (Int32)) (x4_5 : Int32) (x5_6 : Int32) : Option (Int32) := mb_chk (1 : Int32) 2 ((if (P0 14 (1 : Int32).toNatClampNeg) ≤ x5_6 then some x4_5 else mb_let ((300 : Int32) + ((5 : Int32) * x5_6)) (fun (x6_9 : Int32) => mb_chk x6_9 600 (mb_jn (fun (y_11 : Int32) => mb_let y_11 (fun (x7_14 : Int32) => mb_jn (fun (y_15 : Int32) => mb_let y_15 (fun (x4_18 : Int32) => mb_let (x5_6 + (1 : Int32)) (fun (x5_19 : Int32) => self_7 x4_18 x5_19))) (fun J125_16 => (if x7_14 = 0 then J125_16 x4_5 else J125_16 x5_6)))) (fun J111_12 => mb_jn (J111_12 (0 : Int32)) (fun J110_21 => mb_jn (mb_chk (x6_9 + (1 : Int32)) 600 ((if (P0 15 (x6_9 + (1 : Int32)).toNatClampNeg) = x1 then mb_chk (x6_9 + (2 : Int32)) 600 ((if (P0 15 (x6_9 + (2 : Int32)).toNatClampNeg) = x2 then mb_chk (x6_9 + (3 : Int32)) 600 (mb_chk (x6_9 + (4 : Int32)) 600 (mb_bd1 (f_Ref_in ((x3).toInt64) (((P0 15 (x6_9 + (3 : Int32)).toNatClampNeg)).toInt64) (((P0 15 (x6_9 + (4 : Int32)).toNatClampNeg)).toInt64)) (fun (r_29 : Int32) => (if r_29 = 0 then J110_21 else J111_12 (1 : Int32))))) else J110_21)) else J110_21))) (fun J52_23 => (if (P0 15 x6_9.toNatClampNeg) = (97 : Int32) then J52_23 else mb_chk x6_9 600 ((if (P0 15 x6_9.toNatClampNeg) = (98 : Int32) then J52_23 else J110_21))))))))))
def f_Ref_whyOf_7 (P0 : PI) (x1 : Int32) (x2 : Int32) (x3 : Int32) : Nat → Int32 → Int32 → Option (Int32)
  | 0, _, _ => none
  | n + 1, x4_5, x5_6 => f_Ref_whyOf_7_b P0 x1 x2 x3 (f_Ref_whyOf_7 P0 x1 x2 x3 n) x4_5 x5_6
def f_Ref_whyOf (P0 : PI) (x1 : Int32) (x2 : Int32) (x3 : Int32) : Option (Int32) := mb_let (-4 : Int32) (fun (x4_1 : Int32) => mb_let (0 : Int32) (fun (x5_2 : Int32) => f_Ref_whyOf_7 P0 x1 x2 x3 mb_fu x4_1 x5_2))
def rm_Ref_whyOf : Room := { frames := 1, cells := 0, slots := 0, locals := 25 }
set_option maxHeartbeats 4000000 in
set_option maxRecDepth 100000 in
theorem c_Ref_whyOf (l : Launch) (D : va_G) (k : Nat → ClassId) (sz : Nat) (b0 : Nat → Nat) (P0 : PI) (L0 : PL) (x1 : Int32) (x2 : Int32) (x3 : Int32) (z : Int32) (hf : f_Ref_whyOf P0 x1 x2 x3 = some z) : Met l yX12_whyOf wsX12_whyOf rm_Ref_whyOf (va_Pc [.ref (b0 0), .int x1, .int x2, .int x3] (gw_pre D vwCl (tyL k) (wC_Ref k b0 P0 L0) sz)) (va_Qi (fun (r : Int32) (_ : Unit) => r = z) (gw_b D vwCl (tyL k) (va_A (wC_Ref k b0 P0 L0) sz) (wC_Ref k b0 P0 L0)) (va_A (wC_Ref k b0 P0 L0) sz)) 0 0 (va_A (wC_Ref k b0 P0 L0) sz) := by
  refine gm_i (cc := cX12_whyOf) (maxL := 8) (by decide) rfl (Nat.le_of_ble_eq_true rfl) ?_
  intro p e s m args below meth c A Q ls H locs hx hb hml hown hts hK hN hA hP hD hS hl hret
  have hown : s.vm.findClass RX12 = some m.cls := hown
  have hl : lv_has ls 8 [(0, .ref (b0 0)), (1, .int x1), (2, .int x2), (3, .int x3)] := hl
  have iw_Ref : ∀ w ∈ u_ws RX12 TX12 42, w ∈ wsX12_whyOf := by decide +kernel
  have fl_38 := hts (.fieldLink RX12 38 "OneMeasureModel" "itemMany" "[I") (by decide +kernel)
  have fl_41 := hts (.fieldLink RX12 41 "OneMeasureModel" "items" "[I") (by decide +kernel)
  unfold f_Ref_whyOf at hf
  refine lv_bipush (v := (-4)) hx hb dX12_whyOf_0 (by decide) ?_
  obtain ⟨x4_1, e_, hf⟩ := mb_let_s hf
  refine mb_topi e_ ?_
  clear e_
  refine lv_istore (lv' := [(4, .int x4_1), (0, .ref (b0 0)), (1, .int x1), (2, .int x2), (3, .int x3)]) hx hb dX12_whyOf_2 hl (by decide) rfl (fun ls hl => ?_)
  refine lv_iconst (v := 0) hx hb dX12_whyOf_4 (by decide) ?_
  obtain ⟨x5_2, e_, hf⟩ := mb_let_s hf
  refine mb_topi e_ ?_
  clear e_
  refine lv_istore (lv' := [(5, .int x5_2), (4, .int x4_1), (0, .ref (b0 0)), (1, .int x1), (2, .int x2), (3, .int x3)]) hx hb dX12_whyOf_5 hl (by decide) rfl (fun ls hl => ?_)
  have lp7_3 : ∀ (n : Nat) (x4_5 : Int32) (x5_6 : Int32) (H : Heap) (locs : List Loc) (ls : Array Slot), f_Ref_whyOf_7 P0 x1 x2 x3 n x4_5 x5_6 = some z → va_P D vwCl (wC_Ref k b0 P0 L0) H → va_D A (wC_Ref k b0 P0 L0) → va_S A s.heap H locs → lv_has ls 8 [(0, .ref (b0 0)), (1, .int x1), (2, .int x2), (3, .int x3), (4, .int x4_5), (5, .int x5_6)] → W p l e rm_Ref_whyOf s m args below meth c H locs 0 0 Q (F0 m 7 ls []) := by
    intro n
    induction n with
    | zero =>
      intro x4_5 x5_6 H locs ls hf
      exact nomatch (show (none : Option (Int32)) = some z from hf)
    | succ n ih_4 =>
      intro x4_5 x5_6 H locs ls hf hP hD hS hl
      have hf : f_Ref_whyOf_7_b P0 x1 x2 x3 (f_Ref_whyOf_7 P0 x1 x2 x3 n) x4_5 x5_6 = some z := hf
      unfold f_Ref_whyOf_7_b at hf
      refine lv_iload hx hb dX12_whyOf_7 (lv_at hl 5 rfl) ?_
      refine lv_aload_n hx hb dX12_whyOf_9 rfl (lv_at hl 0 rfl) ?_
      refine va_get (D := D) (ci := 12) (v := .ref (b0 14)) (C := RX12) (T := TX12) (N := 42) hx hb hts iw_Ref hown hK hP 0 rfl rfl 13 (by decide) fl_38 (fun _ h9 => h9) rfl dX12_whyOf_10 ?_
      refine lv_iconst (v := 1) hx hb dX12_whyOf_13 (by decide) ?_
      obtain ⟨h_8, hf⟩ := mb_chk_s hf
      refine va_iald hx hb hK hP 10 0 rfl rfl h_8 dX12_whyOf_14 ?_
      refine lv_icmp_ge (tgt := 133) hx hb dX12_whyOf_15 (by decide) (fun c_36 => ?_) (fun c_36 => ?_)
      · have hf := mb_if_t c_36 hf
        refine lv_iload hx hb dX12_whyOf_133 (lv_at hl 4 rfl) ?_
        have hz := Option.some.inj hf
        subst hz
        exact hret _ _ _ _ dX12_whyOf_135 hP hD hS
      · have hf := mb_if_f c_36 hf
        refine lv_sipush (v := 300) hx hb dX12_whyOf_18 (by decide) ?_
        refine lv_iconst (v := 5) hx hb dX12_whyOf_21 (by decide) ?_
        refine lv_iload hx hb dX12_whyOf_22 (lv_at hl 5 rfl) ?_
        refine lv_imul hx hb dX12_whyOf_24 ?_
        refine lv_iadd hx hb dX12_whyOf_25 ?_
        obtain ⟨x6_9, e_, hf⟩ := mb_let_s hf
        refine mb_topi e_ ?_
        clear e_
        refine lv_istore (lv' := [(6, .int x6_9), (0, .ref (b0 0)), (1, .int x1), (2, .int x2), (3, .int x3), (4, .int x4_5), (5, .int x5_6)]) hx hb dX12_whyOf_26 hl (by decide) rfl (fun ls hl => ?_)
        refine lv_aload_n hx hb dX12_whyOf_28 rfl (lv_at hl 1 rfl) ?_
        refine va_get (D := D) (ci := 12) (v := .ref (b0 15)) (C := RX12) (T := TX12) (N := 42) hx hb hts iw_Ref hown hK hP 0 rfl rfl 14 (by decide) fl_41 (fun _ h9 => h9) rfl dX12_whyOf_29 ?_
        refine lv_iload hx hb dX12_whyOf_32 (lv_at hl 0 rfl) ?_
        obtain ⟨h_10, hf⟩ := mb_chk_s hf
        refine va_iald hx hb hK hP 11 0 rfl rfl h_10 dX12_whyOf_34 ?_
        refine lv_bipush (v := 97) hx hb dX12_whyOf_35 (by decide) ?_
        obtain ⟨J111_12, eJ111_12, hf⟩ := mb_jn_s hf
        have j111_13 : ∀ (y_11 : Int32) (H : Heap) (locs : List Loc) (ls : Array Slot), J111_12 y_11 = some z → va_P D vwCl (wC_Ref k b0 P0 L0) H → va_D A (wC_Ref k b0 P0 L0) → va_S A s.heap H locs → lv_has ls 8 [(0, .ref (b0 0)), (1, .int x1), (2, .int x2), (3, .int x3), (4, .int x4_5), (5, .int x5_6)] → W p l e rm_Ref_whyOf s m args below meth c H locs 0 0 Q (F0 m 111 ls [.int y_11]) := by
          intro y_11 H locs ls hf hP hD hS hl
          have hf := mb_j1 eJ111_12 hf
          obtain ⟨x7_14, e_, hf⟩ := mb_let_s hf
          refine mb_topi e_ ?_
          clear e_
          refine lv_istore (lv' := [(7, .int x7_14), (0, .ref (b0 0)), (1, .int x1), (2, .int x2), (3, .int x3), (4, .int x4_5), (5, .int x5_6)]) hx hb dX12_whyOf_111 hl (by decide) rfl (fun ls hl => ?_)
          refine lv_iload hx hb dX12_whyOf_113 (lv_at hl 0 rfl) ?_
          obtain ⟨J125_16, eJ125_16, hf⟩ := mb_jn_s hf
          have j125_17 : ∀ (y_15 : Int32) (H : Heap) (locs : List Loc) (ls : Array Slot), J125_16 y_15 = some z → va_P D vwCl (wC_Ref k b0 P0 L0) H → va_D A (wC_Ref k b0 P0 L0) → va_S A s.heap H locs → lv_has ls 8 [(0, .ref (b0 0)), (1, .int x1), (2, .int x2), (3, .int x3), (5, .int x5_6)] → W p l e rm_Ref_whyOf s m args below meth c H locs 0 0 Q (F0 m 125 ls [.int y_15]) := by
            intro y_15 H locs ls hf hP hD hS hl
            have hf := mb_j1 eJ125_16 hf
            obtain ⟨x4_18, e_, hf⟩ := mb_let_s hf
            refine mb_topi e_ ?_
            clear e_
            refine lv_istore (lv' := [(4, .int x4_18), (0, .ref (b0 0)), (1, .int x1), (2, .int x2), (3, .int x3), (5, .int x5_6)]) hx hb dX12_whyOf_125 hl (by decide) rfl (fun ls hl => ?_)
            obtain ⟨x5_19, e_, hf⟩ := mb_let_s hf
            refine lv_iinc (v := x5_19) (lv' := [(5, .int x5_19), (4, .int x4_18), (0, .ref (b0 0)), (1, .int x1), (2, .int x2), (3, .int x3)]) hx hb dX12_whyOf_127 hl (k := 5) rfl (by rw [e_]; rfl) (by decide) rfl (fun ls hl => ?_)
            clear e_
            refine lv_goto (tgt := 7) hx hb dX12_whyOf_130 (by decide) ?_
            exact ih_4 x4_18 x5_19 _ _ _ hf hP hD hS (lv_sub hl [2, 3, 4, 5, 1, 0] rfl)
          refine lv_if_eq (tgt := 123) hx hb dX12_whyOf_115 (by decide) (fun c_20 => ?_) (fun c_20 => ?_)
          · have hf := mb_if_t c_20 hf
            refine lv_iload hx hb dX12_whyOf_123 (lv_at hl 5 rfl) ?_
            exact j125_17 x4_5 _ _ _ hf hP hD hS (lv_sub hl [1, 2, 3, 4, 6] rfl)
          · have hf := mb_if_f c_20 hf
            refine lv_iload hx hb dX12_whyOf_118 (lv_at hl 6 rfl) ?_
            refine lv_goto (tgt := 125) hx hb dX12_whyOf_120 (by decide) ?_
            exact j125_17 x5_6 _ _ _ hf hP hD hS (lv_sub hl [1, 2, 3, 4, 6] rfl)
        obtain ⟨J110_21, eJ110_21, hf⟩ := mb_jn_s hf
        have j110_22 : ∀ (H : Heap) (locs : List Loc) (ls : Array Slot), J110_21 = some z → va_P D vwCl (wC_Ref k b0 P0 L0) H → va_D A (wC_Ref k b0 P0 L0) → va_S A s.heap H locs → lv_has ls 8 [(0, .ref (b0 0)), (1, .int x1), (2, .int x2), (3, .int x3), (4, .int x4_5), (5, .int x5_6)] → W p l e rm_Ref_whyOf s m args below meth c H locs 0 0 Q (F0 m 110 ls []) := by
          intro  H locs ls hf hP hD hS hl
          have hf := mb_j0 eJ110_21 hf
          refine lv_iconst (v := 0) hx hb dX12_whyOf_110 (by decide) ?_
          exact j111_13 (0 : Int32) _ _ _ hf hP hD hS (lv_sub hl [0, 1, 2, 3, 4, 5] rfl)
        obtain ⟨J52_23, eJ52_23, hf⟩ := mb_jn_s hf
        have j52_24 : ∀ (H : Heap) (locs : List Loc) (ls : Array Slot), J52_23 = some z → va_P D vwCl (wC_Ref k b0 P0 L0) H → va_D A (wC_Ref k b0 P0 L0) → va_S A s.heap H locs → lv_has ls 8 [(0, .ref (b0 0)), (1, .int x1), (2, .int x2), (3, .int x3), (4, .int x4_5), (5, .int x5_6), (6, .int x6_9)] → W p l e rm_Ref_whyOf s m args below meth c H locs 0 0 Q (F0 m 52 ls []) := by
          intro  H locs ls hf hP hD hS hl
          have hf := mb_j0 eJ52_23 hf
          refine lv_aload_n hx hb dX12_whyOf_52 rfl (lv_at hl 0 rfl) ?_
          refine va_get (D := D) (ci := 12) (v := .ref (b0 15)) (C := RX12) (T := TX12) (N := 42) hx hb hts iw_Ref hown hK hP 0 rfl rfl 14 (by decide) fl_41 (fun _ h9 => h9) rfl dX12_whyOf_53 ?_
          refine lv_iload hx hb dX12_whyOf_56 (lv_at hl 6 rfl) ?_
          refine lv_iconst (v := 1) hx hb dX12_whyOf_58 (by decide) ?_
          refine lv_iadd hx hb dX12_whyOf_59 ?_
          obtain ⟨h_25, hf⟩ := mb_chk_s hf
          refine va_iald hx hb hK hP 11 0 rfl rfl h_25 dX12_whyOf_60 ?_
          refine lv_iload_n hx hb dX12_whyOf_61 rfl (lv_at hl 1 rfl) ?_
          refine lv_icmp_ne (tgt := 110) hx hb dX12_whyOf_62 (by decide) (fun c_32 => ?_) (fun c_32 => ?_)
          · have hf := mb_if_f c_32 hf
            exact j110_22  _ _ _ hf hP hD hS (lv_sub hl [0, 1, 2, 3, 4, 5] rfl)
          · have hf := mb_if_t c_32 hf
            refine lv_aload_n hx hb dX12_whyOf_65 rfl (lv_at hl 0 rfl) ?_
            refine va_get (D := D) (ci := 12) (v := .ref (b0 15)) (C := RX12) (T := TX12) (N := 42) hx hb hts iw_Ref hown hK hP 0 rfl rfl 14 (by decide) fl_41 (fun _ h9 => h9) rfl dX12_whyOf_66 ?_
            refine lv_iload hx hb dX12_whyOf_69 (lv_at hl 6 rfl) ?_
            refine lv_iconst (v := 2) hx hb dX12_whyOf_71 (by decide) ?_
            refine lv_iadd hx hb dX12_whyOf_72 ?_
            obtain ⟨h_26, hf⟩ := mb_chk_s hf
            refine va_iald hx hb hK hP 11 0 rfl rfl h_26 dX12_whyOf_73 ?_
            refine lv_iload_n hx hb dX12_whyOf_74 rfl (lv_at hl 2 rfl) ?_
            refine lv_icmp_ne (tgt := 110) hx hb dX12_whyOf_75 (by decide) (fun c_31 => ?_) (fun c_31 => ?_)
            · have hf := mb_if_f c_31 hf
              exact j110_22  _ _ _ hf hP hD hS (lv_sub hl [0, 1, 2, 3, 4, 5] rfl)
            · have hf := mb_if_t c_31 hf
              refine lv_iload_n hx hb dX12_whyOf_78 rfl (lv_at hl 3 rfl) ?_
              refine lv_i2l hx hb dX12_whyOf_79 rfl ?_
              refine lv_aload_n hx hb dX12_whyOf_80 rfl (lv_at hl 0 rfl) ?_
              refine va_get (D := D) (ci := 12) (v := .ref (b0 15)) (C := RX12) (T := TX12) (N := 42) hx hb hts iw_Ref hown hK hP 0 rfl rfl 14 (by decide) fl_41 (fun _ h9 => h9) rfl dX12_whyOf_81 ?_
              refine lv_iload hx hb dX12_whyOf_84 (lv_at hl 6 rfl) ?_
              refine lv_iconst (v := 3) hx hb dX12_whyOf_86 (by decide) ?_
              refine lv_iadd hx hb dX12_whyOf_87 ?_
              obtain ⟨h_27, hf⟩ := mb_chk_s hf
              refine va_iald hx hb hK hP 11 0 rfl rfl h_27 dX12_whyOf_88 ?_
              refine lv_i2l hx hb dX12_whyOf_89 rfl ?_
              refine lv_aload_n hx hb dX12_whyOf_90 rfl (lv_at hl 0 rfl) ?_
              refine va_get (D := D) (ci := 12) (v := .ref (b0 15)) (C := RX12) (T := TX12) (N := 42) hx hb hts iw_Ref hown hK hP 0 rfl rfl 14 (by decide) fl_41 (fun _ h9 => h9) rfl dX12_whyOf_91 ?_
              refine lv_iload hx hb dX12_whyOf_94 (lv_at hl 6 rfl) ?_
              refine lv_iconst (v := 4) hx hb dX12_whyOf_96 (by decide) ?_
              refine lv_iadd hx hb dX12_whyOf_97 ?_
              obtain ⟨h_28, hf⟩ := mb_chk_s hf
              refine va_iald hx hb hK hP 11 0 rfl rfl h_28 dX12_whyOf_98 ?_
              refine lv_i2l hx hb dX12_whyOf_99 rfl ?_
              obtain ⟨r_29, hz, hf⟩ := mb_bd1_s hf
              refine gc_i (r0 := r_29) (ws' := (wC_Ref k b0 P0 L0)) (wr := (wC_Ref k b0 P0 L0)) (va_runS (As := [.long (x3).toInt64, .long ((P0 15 (x6_9 + (3 : Int32)).toNatClampNeg)).toInt64, .long ((P0 15 (x6_9 + (4 : Int32)).toNatClampNeg)).toInt64]) (rest := []) ⟨hx, hb, hml, hown, hts⟩ (c_Ref_in l D k H.size ((x3).toInt64) (((P0 15 (x6_9 + (3 : Int32)).toNatClampNeg)).toInt64) (((P0 15 (x6_9 + (4 : Int32)).toNatClampNeg)).toInt64) r_29 hz) (cwS 3 hts gX12_whyOf_X12_in rfl rfl rfl (by decide +kernel) ⟨Nat.le_of_ble_eq_true rfl, Nat.le_of_ble_eq_true rfl⟩) (gp_S hP hD hK hN [] (by decide +kernel) rfl) rfl rfl hl.1 rfl (lv_room (Nat.le_of_ble_eq_true rfl)) dX12_whyOf_100 ⟨Nat.zero_le _, Nat.zero_le _⟩) hP hD hS hA [] [0, 1, 2, 3, 4, 5, 6, 7, 8, 9, 10, 11, 12, 13, 14, 15, 16, 17, 18, 19, 20, 21, 22, 23, 24, 25] rfl rfl (by decide +kernel) (by decide +kernel) [0, 1, 2, 3, 4, 5, 6, 7, 8, 9, 10, 11, 12, 13, 14, 15, 16, 17, 18, 19, 20, 21, 22, 23, 24, 25] (by decide +kernel) rfl (fun H locs hP hD hS => ?_)
              clear hz
              refine lv_if_eq (tgt := 110) hx hb dX12_whyOf_103 (by decide) (fun c_30 => ?_) (fun c_30 => ?_)
              · have hf := mb_if_t c_30 hf
                exact j110_22  _ _ _ hf hP hD hS (lv_sub hl [0, 1, 2, 3, 4, 5] rfl)
              · have hf := mb_if_f c_30 hf
                refine lv_iconst (v := 1) hx hb dX12_whyOf_106 (by decide) ?_
                refine lv_goto (tgt := 111) hx hb dX12_whyOf_107 (by decide) ?_
                exact j111_13 (1 : Int32) _ _ _ hf hP hD hS (lv_sub hl [0, 1, 2, 3, 4, 5] rfl)
        refine lv_icmp_eq (tgt := 52) hx hb dX12_whyOf_37 (by decide) (fun c_35 => ?_) (fun c_35 => ?_)
        · have hf := mb_if_t c_35 hf
          exact j52_24  _ _ _ hf hP hD hS (lv_sub hl [1, 2, 3, 4, 5, 6, 0] rfl)
        · have hf := mb_if_f c_35 hf
          refine lv_aload_n hx hb dX12_whyOf_40 rfl (lv_at hl 1 rfl) ?_
          refine va_get (D := D) (ci := 12) (v := .ref (b0 15)) (C := RX12) (T := TX12) (N := 42) hx hb hts iw_Ref hown hK hP 0 rfl rfl 14 (by decide) fl_41 (fun _ h9 => h9) rfl dX12_whyOf_41 ?_
          refine lv_iload hx hb dX12_whyOf_44 (lv_at hl 0 rfl) ?_
          obtain ⟨h_33, hf⟩ := mb_chk_s hf
          refine va_iald hx hb hK hP 11 0 rfl rfl h_33 dX12_whyOf_46 ?_
          refine lv_bipush (v := 98) hx hb dX12_whyOf_47 (by decide) ?_
          refine lv_icmp_ne (tgt := 110) hx hb dX12_whyOf_49 (by decide) (fun c_34 => ?_) (fun c_34 => ?_)
          · have hf := mb_if_f c_34 hf
            exact j110_22  _ _ _ hf hP hD hS (lv_sub hl [1, 2, 3, 4, 5, 6] rfl)
          · have hf := mb_if_t c_34 hf
            exact j52_24  _ _ _ hf hP hD hS (lv_sub hl [1, 2, 3, 4, 5, 6, 0] rfl)
  exact lp7_3 mb_fu x4_1 x5_2 _ _ _ hf hP hD hS (lv_sub hl [2, 3, 4, 5, 1, 0] rfl)
def f_Ref_isLet (P0 : PI) (x1 : Int32) (x2 : Int32) (x3 : Int32) : Option (Int32) := mb_bd1 (f_Ref_whyOf P0 x1 x2 x3) (fun (r_1 : Int32) => mb_let r_1 (fun (x4_2 : Int32) => (if x4_2 = (-4 : Int32) then some (1 : Int32) else mb_chk ((300 : Int32) + ((5 : Int32) * x4_2)) 600 ((if (P0 15 ((300 : Int32) + ((5 : Int32) * x4_2)).toNatClampNeg) = (97 : Int32) then some (1 : Int32) else some (0 : Int32))))))
def rm_Ref_isLet : Room := { frames := 2, cells := 0, slots := 0, locals := 52 }
set_option maxHeartbeats 4000000 in
set_option maxRecDepth 100000 in
theorem c_Ref_isLet (l : Launch) (D : va_G) (k : Nat → ClassId) (sz : Nat) (b0 : Nat → Nat) (P0 : PI) (L0 : PL) (x1 : Int32) (x2 : Int32) (x3 : Int32) (z : Int32) (hf : f_Ref_isLet P0 x1 x2 x3 = some z) : Met l yX12_isLet wsX12_isLet rm_Ref_isLet (va_Pc [.ref (b0 0), .int x1, .int x2, .int x3] (gw_pre D vwCl (tyL k) (wC_Ref k b0 P0 L0) sz)) (va_Qi (fun (r : Int32) (_ : Unit) => r = z) (gw_b D vwCl (tyL k) (va_A (wC_Ref k b0 P0 L0) sz) (wC_Ref k b0 P0 L0)) (va_A (wC_Ref k b0 P0 L0) sz)) 0 0 (va_A (wC_Ref k b0 P0 L0) sz) := by
  refine gm_z (cc := cX12_isLet) (maxL := 5) (by decide) rfl (Nat.le_of_ble_eq_true rfl) ?_
  intro p e s m args below meth c A Q ls H locs hx hb hml hown hts hK hN hA hP hD hS hl hret
  have hown : s.vm.findClass RX12 = some m.cls := hown
  have hl : lv_has ls 5 [(0, .ref (b0 0)), (1, .int x1), (2, .int x2), (3, .int x3)] := hl
  have iw_Ref : ∀ w ∈ u_ws RX12 TX12 42, w ∈ wsX12_isLet := by decide +kernel
  have fl_41 := hts (.fieldLink RX12 41 "OneMeasureModel" "items" "[I") (by decide +kernel)
  unfold f_Ref_isLet at hf
  refine lv_aload_n hx hb dX12_isLet_0 rfl (lv_at hl 0 rfl) ?_
  refine lv_iload_n hx hb dX12_isLet_1 rfl (lv_at hl 1 rfl) ?_
  refine lv_iload_n hx hb dX12_isLet_2 rfl (lv_at hl 2 rfl) ?_
  refine lv_iload_n hx hb dX12_isLet_3 rfl (lv_at hl 3 rfl) ?_
  obtain ⟨r_1, hz, hf⟩ := mb_bd1_s hf
  refine gc_i (r0 := r_1) (ws' := (wC_Ref k b0 P0 L0)) (wr := ([] : va_W)) (va_runV (As := [.int x1, .int x2, .int x3]) (rest := []) ⟨hx, hb, hml, hown, hts⟩ (c_Ref_whyOf l D k H.size b0 P0 L0 x1 x2 x3 r_1 hz) (cwV 3 hts gX12_isLet_X12_whyOf rfl rfl rfl (by decide +kernel) ⟨Nat.le_of_ble_eq_true rfl, Nat.le_of_ble_eq_true rfl⟩) (gp_V (ci := 12) (q0 := 0) (q := (RX12, TX12, 42)) hP hD hK hN [0, 1, 2, 3, 4, 5, 6, 7, 8, 9, 10, 11, 12, 13, 14, 15, 16, 17, 18, 19, 20, 21, 22, 23, 24, 25] (by decide +kernel) rfl rfl rfl) rfl rfl hl.1 rfl (lv_room (Nat.le_of_ble_eq_true rfl)) dX12_isLet_4 ⟨Nat.zero_le _, Nat.zero_le _⟩) hP hD hS hA [0, 1, 2, 3, 4, 5, 6, 7, 8, 9, 10, 11, 12, 13, 14, 15, 16, 17, 18, 19, 20, 21, 22, 23, 24, 25] [] rfl rfl (by decide +kernel) (by decide +kernel) [0, 1, 2, 3, 4, 5, 6, 7, 8, 9, 10, 11, 12, 13, 14, 15, 16, 17, 18, 19, 20, 21, 22, 23, 24, 25] (by decide +kernel) rfl (fun H locs hP hD hS => ?_)
  clear hz
  obtain ⟨x4_2, e_, hf⟩ := mb_let_s hf
  refine mb_topi e_ ?_
  clear e_
  refine lv_istore (lv' := [(4, .int x4_2), (0, .ref (b0 0)), (1, .int x1), (2, .int x2), (3, .int x3)]) hx hb dX12_isLet_7 hl (by decide) rfl (fun ls hl => ?_)
  refine lv_iload hx hb dX12_isLet_9 (lv_at hl 0 rfl) ?_
  refine lv_bipush (v := (-4)) hx hb dX12_isLet_11 (by decide) ?_
  refine lv_icmp_eq (tgt := 34) hx hb dX12_isLet_13 (by decide) (fun c_5 => ?_) (fun c_5 => ?_)
  · have hf := mb_if_t c_5 hf
    refine lv_iconst (v := 1) hx hb dX12_isLet_34 (by decide) ?_
    refine lv_goto (tgt := 39) hx hb dX12_isLet_35 (by decide) ?_
    have hz := Option.some.inj hf
    subst hz
    exact hret _ _ _ _ mb_n1 dX12_isLet_39 hP hD hS
  · have hf := mb_if_f c_5 hf
    refine lv_aload_n hx hb dX12_isLet_16 rfl (lv_at hl 1 rfl) ?_
    refine va_get (D := D) (ci := 12) (v := .ref (b0 15)) (C := RX12) (T := TX12) (N := 42) hx hb hts iw_Ref hown hK hP 0 rfl rfl 14 (by decide) fl_41 (fun _ h9 => h9) rfl dX12_isLet_17 ?_
    refine lv_sipush (v := 300) hx hb dX12_isLet_20 (by decide) ?_
    refine lv_iconst (v := 5) hx hb dX12_isLet_23 (by decide) ?_
    refine lv_iload hx hb dX12_isLet_24 (lv_at hl 0 rfl) ?_
    refine lv_imul hx hb dX12_isLet_26 ?_
    refine lv_iadd hx hb dX12_isLet_27 ?_
    obtain ⟨h_3, hf⟩ := mb_chk_s hf
    refine va_iald hx hb hK hP 11 0 rfl rfl h_3 dX12_isLet_28 ?_
    refine lv_bipush (v := 97) hx hb dX12_isLet_29 (by decide) ?_
    refine lv_icmp_ne (tgt := 38) hx hb dX12_isLet_31 (by decide) (fun c_4 => ?_) (fun c_4 => ?_)
    · have hf := mb_if_f c_4 hf
      refine lv_iconst (v := 0) hx hb dX12_isLet_38 (by decide) ?_
      have hz := Option.some.inj hf
      subst hz
      exact hret _ _ _ _ mb_n0 dX12_isLet_39 hP hD hS
    · have hf := mb_if_t c_4 hf
      refine lv_iconst (v := 1) hx hb dX12_isLet_34 (by decide) ?_
      refine lv_goto (tgt := 39) hx hb dX12_isLet_35 (by decide) ?_
      have hz := Option.some.inj hf
      subst hz
      exact hret _ _ _ _ mb_n1 dX12_isLet_39 hP hD hS
def f_Ref_let (P0 : PI) (x1 : Int32) (x2 : Int32) (x3 : Int32) : Option (Int32) := mb_bd1 (f_Ref_isAsked x1 x2 x3) (fun (r_1 : Int32) => (if r_1 = 0 then some (-1 : Int32) else mb_bd1 (f_Ref_isLet P0 x1 x2 x3) (fun (r_2 : Int32) => (if r_2 = 0 then some (0 : Int32) else some (1 : Int32)))))
def rm_Ref_let : Room := { frames := 3, cells := 0, slots := 0, locals := 76 }
set_option maxHeartbeats 4000000 in
set_option maxRecDepth 100000 in
theorem c_Ref_let (l : Launch) (D : va_G) (k : Nat → ClassId) (sz : Nat) (b0 : Nat → Nat) (P0 : PI) (L0 : PL) (x1 : Int32) (x2 : Int32) (x3 : Int32) (z : Int32) (hf : f_Ref_let P0 x1 x2 x3 = some z) : Met l yX12_let wsX12_let rm_Ref_let (va_Pc [.ref (b0 0), .int x1, .int x2, .int x3] (gw_pre D vwCl (tyL k) (wC_Ref k b0 P0 L0) sz)) (va_Qi (fun (r : Int32) (_ : Unit) => r = z) (gw_b D vwCl (tyL k) (va_A (wC_Ref k b0 P0 L0) sz) (wC_Ref k b0 P0 L0)) (va_A (wC_Ref k b0 P0 L0) sz)) 0 0 (va_A (wC_Ref k b0 P0 L0) sz) := by
  refine gm_i (cc := cX12_let) (maxL := 4) (by decide) rfl (Nat.le_of_ble_eq_true rfl) ?_
  intro p e s m args below meth c A Q ls H locs hx hb hml hown hts hK hN hA hP hD hS hl hret
  have hown : s.vm.findClass RX12 = some m.cls := hown
  have hl : lv_has ls 4 [(0, .ref (b0 0)), (1, .int x1), (2, .int x2), (3, .int x3)] := hl
  unfold f_Ref_let at hf
  refine lv_iload_n hx hb dX12_let_0 rfl (lv_at hl 1 rfl) ?_
  refine lv_iload_n hx hb dX12_let_1 rfl (lv_at hl 2 rfl) ?_
  refine lv_iload_n hx hb dX12_let_2 rfl (lv_at hl 3 rfl) ?_
  obtain ⟨r_1, hz, hf⟩ := mb_bd1_s hf
  refine gc_i (r0 := r_1) (ws' := (wC_Ref k b0 P0 L0)) (wr := (wC_Ref k b0 P0 L0)) (va_runS (As := [.int x1, .int x2, .int x3]) (rest := []) ⟨hx, hb, hml, hown, hts⟩ (c_Ref_isAsked l D k H.size x1 x2 x3 r_1 hz) (cwS 3 hts gX12_let_X12_isAsked rfl rfl rfl (by decide +kernel) ⟨Nat.le_of_ble_eq_true rfl, Nat.le_of_ble_eq_true rfl⟩) (gp_S hP hD hK hN [] (by decide +kernel) rfl) rfl rfl hl.1 rfl (lv_room (Nat.le_of_ble_eq_true rfl)) dX12_let_3 ⟨Nat.zero_le _, Nat.zero_le _⟩) hP hD hS hA [] [0, 1, 2, 3, 4, 5, 6, 7, 8, 9, 10, 11, 12, 13, 14, 15, 16, 17, 18, 19, 20, 21, 22, 23, 24, 25] rfl rfl (by decide +kernel) (by decide +kernel) [0, 1, 2, 3, 4, 5, 6, 7, 8, 9, 10, 11, 12, 13, 14, 15, 16, 17, 18, 19, 20, 21, 22, 23, 24, 25] (by decide +kernel) rfl (fun H locs hP hD hS => ?_)
  clear hz
  refine lv_if_ne (tgt := 13) hx hb dX12_let_6 (by decide) (fun c_4 => ?_) (fun c_4 => ?_)
  · have hf := mb_if_f c_4 hf
    refine lv_aload_n hx hb dX12_let_13 rfl (lv_at hl 0 rfl) ?_
    refine lv_iload_n hx hb dX12_let_14 rfl (lv_at hl 1 rfl) ?_
    refine lv_iload_n hx hb dX12_let_15 rfl (lv_at hl 2 rfl) ?_
    refine lv_iload_n hx hb dX12_let_16 rfl (lv_at hl 3 rfl) ?_
    obtain ⟨r_2, hz, hf⟩ := mb_bd1_s hf
    refine gc_i (r0 := r_2) (ws' := (wC_Ref k b0 P0 L0)) (wr := ([] : va_W)) (va_runV (As := [.int x1, .int x2, .int x3]) (rest := []) ⟨hx, hb, hml, hown, hts⟩ (c_Ref_isLet l D k H.size b0 P0 L0 x1 x2 x3 r_2 hz) (cwV 3 hts gX12_let_X12_isLet rfl rfl rfl (by decide +kernel) ⟨Nat.le_of_ble_eq_true rfl, Nat.le_of_ble_eq_true rfl⟩) (gp_V (ci := 12) (q0 := 0) (q := (RX12, TX12, 42)) hP hD hK hN [0, 1, 2, 3, 4, 5, 6, 7, 8, 9, 10, 11, 12, 13, 14, 15, 16, 17, 18, 19, 20, 21, 22, 23, 24, 25] (by decide +kernel) rfl rfl rfl) rfl rfl hl.1 rfl (lv_room (Nat.le_of_ble_eq_true rfl)) dX12_let_17 ⟨Nat.zero_le _, Nat.zero_le _⟩) hP hD hS hA [0, 1, 2, 3, 4, 5, 6, 7, 8, 9, 10, 11, 12, 13, 14, 15, 16, 17, 18, 19, 20, 21, 22, 23, 24, 25] [] rfl rfl (by decide +kernel) (by decide +kernel) [0, 1, 2, 3, 4, 5, 6, 7, 8, 9, 10, 11, 12, 13, 14, 15, 16, 17, 18, 19, 20, 21, 22, 23, 24, 25] (by decide +kernel) rfl (fun H locs hP hD hS => ?_)
    clear hz
    refine lv_if_eq (tgt := 27) hx hb dX12_let_20 (by decide) (fun c_3 => ?_) (fun c_3 => ?_)
    · have hf := mb_if_t c_3 hf
      refine lv_iconst (v := 0) hx hb dX12_let_27 (by decide) ?_
      have hz := Option.some.inj hf
      subst hz
      exact hret _ _ _ _ dX12_let_28 hP hD hS
    · have hf := mb_if_f c_3 hf
      refine lv_iconst (v := 1) hx hb dX12_let_23 (by decide) ?_
      refine lv_goto (tgt := 28) hx hb dX12_let_24 (by decide) ?_
      have hz := Option.some.inj hf
      subst hz
      exact hret _ _ _ _ dX12_let_28 hP hD hS
  · have hf := mb_if_t c_4 hf
    refine lv_iconst (v := (-1)) hx hb dX12_let_9 (by decide) ?_
    refine lv_goto (tgt := 28) hx hb dX12_let_10 (by decide) ?_
    have hz := Option.some.inj hf
    subst hz
    exact hret _ _ _ _ dX12_let_28 hP hD hS
def f_Ref_why (P0 : PI) (x1 : Int32) (x2 : Int32) (x3 : Int32) : Option (Int32) := mb_bd1 (f_Ref_isAsked x1 x2 x3) (fun (r_1 : Int32) => (if r_1 = 0 then some (-1 : Int32) else mb_bd1 (f_Ref_whyOf P0 x1 x2 x3) (fun (r_2 : Int32) => some r_2)))
def rm_Ref_why : Room := { frames := 2, cells := 0, slots := 0, locals := 52 }
set_option maxHeartbeats 4000000 in
set_option maxRecDepth 100000 in
theorem c_Ref_why (l : Launch) (D : va_G) (k : Nat → ClassId) (sz : Nat) (b0 : Nat → Nat) (P0 : PI) (L0 : PL) (x1 : Int32) (x2 : Int32) (x3 : Int32) (z : Int32) (hf : f_Ref_why P0 x1 x2 x3 = some z) : Met l yX12_why wsX12_why rm_Ref_why (va_Pc [.ref (b0 0), .int x1, .int x2, .int x3] (gw_pre D vwCl (tyL k) (wC_Ref k b0 P0 L0) sz)) (va_Qi (fun (r : Int32) (_ : Unit) => r = z) (gw_b D vwCl (tyL k) (va_A (wC_Ref k b0 P0 L0) sz) (wC_Ref k b0 P0 L0)) (va_A (wC_Ref k b0 P0 L0) sz)) 0 0 (va_A (wC_Ref k b0 P0 L0) sz) := by
  refine gm_i (cc := cX12_why) (maxL := 4) (by decide) rfl (Nat.le_of_ble_eq_true rfl) ?_
  intro p e s m args below meth c A Q ls H locs hx hb hml hown hts hK hN hA hP hD hS hl hret
  have hown : s.vm.findClass RX12 = some m.cls := hown
  have hl : lv_has ls 4 [(0, .ref (b0 0)), (1, .int x1), (2, .int x2), (3, .int x3)] := hl
  unfold f_Ref_why at hf
  refine lv_iload_n hx hb dX12_why_0 rfl (lv_at hl 1 rfl) ?_
  refine lv_iload_n hx hb dX12_why_1 rfl (lv_at hl 2 rfl) ?_
  refine lv_iload_n hx hb dX12_why_2 rfl (lv_at hl 3 rfl) ?_
  obtain ⟨r_1, hz, hf⟩ := mb_bd1_s hf
  refine gc_i (r0 := r_1) (ws' := (wC_Ref k b0 P0 L0)) (wr := (wC_Ref k b0 P0 L0)) (va_runS (As := [.int x1, .int x2, .int x3]) (rest := []) ⟨hx, hb, hml, hown, hts⟩ (c_Ref_isAsked l D k H.size x1 x2 x3 r_1 hz) (cwS 3 hts gX12_why_X12_isAsked rfl rfl rfl (by decide +kernel) ⟨Nat.le_of_ble_eq_true rfl, Nat.le_of_ble_eq_true rfl⟩) (gp_S hP hD hK hN [] (by decide +kernel) rfl) rfl rfl hl.1 rfl (lv_room (Nat.le_of_ble_eq_true rfl)) dX12_why_3 ⟨Nat.zero_le _, Nat.zero_le _⟩) hP hD hS hA [] [0, 1, 2, 3, 4, 5, 6, 7, 8, 9, 10, 11, 12, 13, 14, 15, 16, 17, 18, 19, 20, 21, 22, 23, 24, 25] rfl rfl (by decide +kernel) (by decide +kernel) [0, 1, 2, 3, 4, 5, 6, 7, 8, 9, 10, 11, 12, 13, 14, 15, 16, 17, 18, 19, 20, 21, 22, 23, 24, 25] (by decide +kernel) rfl (fun H locs hP hD hS => ?_)
  clear hz
  refine lv_if_eq (tgt := 19) hx hb dX12_why_6 (by decide) (fun c_3 => ?_) (fun c_3 => ?_)
  · have hf := mb_if_t c_3 hf
    refine lv_iconst (v := (-1)) hx hb dX12_why_19 (by decide) ?_
    have hz := Option.some.inj hf
    subst hz
    exact hret _ _ _ _ dX12_why_20 hP hD hS
  · have hf := mb_if_f c_3 hf
    refine lv_aload_n hx hb dX12_why_9 rfl (lv_at hl 0 rfl) ?_
    refine lv_iload_n hx hb dX12_why_10 rfl (lv_at hl 1 rfl) ?_
    refine lv_iload_n hx hb dX12_why_11 rfl (lv_at hl 2 rfl) ?_
    refine lv_iload_n hx hb dX12_why_12 rfl (lv_at hl 3 rfl) ?_
    obtain ⟨r_2, hz, hf⟩ := mb_bd1_s hf
    refine gc_i (r0 := r_2) (ws' := (wC_Ref k b0 P0 L0)) (wr := ([] : va_W)) (va_runV (As := [.int x1, .int x2, .int x3]) (rest := []) ⟨hx, hb, hml, hown, hts⟩ (c_Ref_whyOf l D k H.size b0 P0 L0 x1 x2 x3 r_2 hz) (cwV 3 hts gX12_why_X12_whyOf rfl rfl rfl (by decide +kernel) ⟨Nat.le_of_ble_eq_true rfl, Nat.le_of_ble_eq_true rfl⟩) (gp_V (ci := 12) (q0 := 0) (q := (RX12, TX12, 42)) hP hD hK hN [0, 1, 2, 3, 4, 5, 6, 7, 8, 9, 10, 11, 12, 13, 14, 15, 16, 17, 18, 19, 20, 21, 22, 23, 24, 25] (by decide +kernel) rfl rfl rfl) rfl rfl hl.1 rfl (lv_room (Nat.le_of_ble_eq_true rfl)) dX12_why_13 ⟨Nat.zero_le _, Nat.zero_le _⟩) hP hD hS hA [0, 1, 2, 3, 4, 5, 6, 7, 8, 9, 10, 11, 12, 13, 14, 15, 16, 17, 18, 19, 20, 21, 22, 23, 24, 25] [] rfl rfl (by decide +kernel) (by decide +kernel) [0, 1, 2, 3, 4, 5, 6, 7, 8, 9, 10, 11, 12, 13, 14, 15, 16, 17, 18, 19, 20, 21, 22, 23, 24, 25] (by decide +kernel) rfl (fun H locs hP hD hS => ?_)
    clear hz
    refine lv_goto (tgt := 20) hx hb dX12_why_16 (by decide) ?_
    have hz := Option.some.inj hf
    subst hz
    exact hret _ _ _ _ dX12_why_20 hP hD hS
def f_Ref_tells_3_b (P0 : PI) (x1 : Int32) (x2 : Int32) (x3 : Int32) (x4 : Int32) (self_5 : Int32 → Option (Int32)) (x5_4 : Int32) : Option (Int32) := mb_chk (1 : Int32) 2 ((if (P0 14 (1 : Int32).toNatClampNeg) ≤ x5_4 then some (0 : Int32) else mb_let ((300 : Int32) + ((5 : Int32) * x5_4)) (fun (x6_7 : Int32) => mb_chk x6_7 600 ((if (P0 15 x6_7.toNatClampNeg) = x1 then mb_chk (x6_7 + (1 : Int32)) 600 ((if (P0 15 (x6_7 + (1 : Int32)).toNatClampNeg) = x2 then mb_chk (x6_7 + (2 : Int32)) 600 ((if (P0 15 (x6_7 + (2 : Int32)).toNatClampNeg) = x3 then mb_chk (x6_7 + (3 : Int32)) 600 (mb_chk (x6_7 + (4 : Int32)) 600 (mb_bd1 (f_Ref_in ((x4).toInt64) (((P0 15 (x6_7 + (3 : Int32)).toNatClampNeg)).toInt64) (((P0 15 (x6_7 + (4 : Int32)).toNatClampNeg)).toInt64)) (fun (r_16 : Int32) => (if r_16 = 0 then mb_let (x5_4 + (1 : Int32)) (fun (x5_17 : Int32) => self_5 x5_17) else some (1 : Int32))))) else mb_let (x5_4 + (1 : Int32)) (fun (x5_13 : Int32) => self_5 x5_13))) else mb_let (x5_4 + (1 : Int32)) (fun (x5_11 : Int32) => self_5 x5_11))) else mb_let (x5_4 + (1 : Int32)) (fun (x5_9 : Int32) => self_5 x5_9))))))
def f_Ref_tells_3 (P0 : PI) (x1 : Int32) (x2 : Int32) (x3 : Int32) (x4 : Int32) : Nat → Int32 → Option (Int32)
  | 0, _ => none
  | n + 1, x5_4 => f_Ref_tells_3_b P0 x1 x2 x3 x4 (f_Ref_tells_3 P0 x1 x2 x3 x4 n) x5_4
def f_Ref_tells (P0 : PI) (x1 : Int32) (x2 : Int32) (x3 : Int32) (x4 : Int32) : Option (Int32) := mb_let (0 : Int32) (fun (x5_1 : Int32) => f_Ref_tells_3 P0 x1 x2 x3 x4 mb_fu x5_1)
def rm_Ref_tells : Room := { frames := 1, cells := 0, slots := 0, locals := 25 }
set_option maxHeartbeats 4000000 in
set_option maxRecDepth 100000 in
theorem c_Ref_tells (l : Launch) (D : va_G) (k : Nat → ClassId) (sz : Nat) (b0 : Nat → Nat) (P0 : PI) (L0 : PL) (x1 : Int32) (x2 : Int32) (x3 : Int32) (x4 : Int32) (z : Int32) (hf : f_Ref_tells P0 x1 x2 x3 x4 = some z) : Met l yX12_tells wsX12_tells rm_Ref_tells (va_Pc [.ref (b0 0), .int x1, .int x2, .int x3, .int x4] (gw_pre D vwCl (tyL k) (wC_Ref k b0 P0 L0) sz)) (va_Qi (fun (r : Int32) (_ : Unit) => r = z) (gw_b D vwCl (tyL k) (va_A (wC_Ref k b0 P0 L0) sz) (wC_Ref k b0 P0 L0)) (va_A (wC_Ref k b0 P0 L0) sz)) 0 0 (va_A (wC_Ref k b0 P0 L0) sz) := by
  refine gm_z (cc := cX12_tells) (maxL := 7) (by decide) rfl (Nat.le_of_ble_eq_true rfl) ?_
  intro p e s m args below meth c A Q ls H locs hx hb hml hown hts hK hN hA hP hD hS hl hret
  have hown : s.vm.findClass RX12 = some m.cls := hown
  have hl : lv_has ls 7 [(0, .ref (b0 0)), (1, .int x1), (2, .int x2), (3, .int x3), (4, .int x4)] := hl
  have iw_Ref : ∀ w ∈ u_ws RX12 TX12 42, w ∈ wsX12_tells := by decide +kernel
  have fl_38 := hts (.fieldLink RX12 38 "OneMeasureModel" "itemMany" "[I") (by decide +kernel)
  have fl_41 := hts (.fieldLink RX12 41 "OneMeasureModel" "items" "[I") (by decide +kernel)
  unfold f_Ref_tells at hf
  refine lv_iconst (v := 0) hx hb dX12_tells_0 (by decide) ?_
  obtain ⟨x5_1, e_, hf⟩ := mb_let_s hf
  refine mb_topi e_ ?_
  clear e_
  refine lv_istore (lv' := [(5, .int x5_1), (0, .ref (b0 0)), (1, .int x1), (2, .int x2), (3, .int x3), (4, .int x4)]) hx hb dX12_tells_1 hl (by decide) rfl (fun ls hl => ?_)
  have lp3_2 : ∀ (n : Nat) (x5_4 : Int32) (H : Heap) (locs : List Loc) (ls : Array Slot), f_Ref_tells_3 P0 x1 x2 x3 x4 n x5_4 = some z → va_P D vwCl (wC_Ref k b0 P0 L0) H → va_D A (wC_Ref k b0 P0 L0) → va_S A s.heap H locs → lv_has ls 7 [(0, .ref (b0 0)), (1, .int x1), (2, .int x2), (3, .int x3), (4, .int x4), (5, .int x5_4)] → W p l e rm_Ref_tells s m args below meth c H locs 0 0 Q (F0 m 3 ls []) := by
    intro n
    induction n with
    | zero =>
      intro x5_4 H locs ls hf
      exact nomatch (show (none : Option (Int32)) = some z from hf)
    | succ n ih_3 =>
      intro x5_4 H locs ls hf hP hD hS hl
      have hf : f_Ref_tells_3_b P0 x1 x2 x3 x4 (f_Ref_tells_3 P0 x1 x2 x3 x4 n) x5_4 = some z := hf
      unfold f_Ref_tells_3_b at hf
      refine lv_iload hx hb dX12_tells_3 (lv_at hl 5 rfl) ?_
      refine lv_aload_n hx hb dX12_tells_5 rfl (lv_at hl 0 rfl) ?_
      refine va_get (D := D) (ci := 12) (v := .ref (b0 14)) (C := RX12) (T := TX12) (N := 42) hx hb hts iw_Ref hown hK hP 0 rfl rfl 13 (by decide) fl_38 (fun _ h9 => h9) rfl dX12_tells_6 ?_
      refine lv_iconst (v := 1) hx hb dX12_tells_9 (by decide) ?_
      obtain ⟨h_6, hf⟩ := mb_chk_s hf
      refine va_iald hx hb hK hP 10 0 rfl rfl h_6 dX12_tells_10 ?_
      refine lv_icmp_ge (tgt := 98) hx hb dX12_tells_11 (by decide) (fun c_22 => ?_) (fun c_22 => ?_)
      · have hf := mb_if_t c_22 hf
        refine lv_iconst (v := 0) hx hb dX12_tells_98 (by decide) ?_
        have hz := Option.some.inj hf
        subst hz
        exact hret _ _ _ _ mb_n0 dX12_tells_99 hP hD hS
      · have hf := mb_if_f c_22 hf
        refine lv_sipush (v := 300) hx hb dX12_tells_14 (by decide) ?_
        refine lv_iconst (v := 5) hx hb dX12_tells_17 (by decide) ?_
        refine lv_iload hx hb dX12_tells_18 (lv_at hl 5 rfl) ?_
        refine lv_imul hx hb dX12_tells_20 ?_
        refine lv_iadd hx hb dX12_tells_21 ?_
        obtain ⟨x6_7, e_, hf⟩ := mb_let_s hf
        refine mb_topi e_ ?_
        clear e_
        refine lv_istore (lv' := [(6, .int x6_7), (0, .ref (b0 0)), (1, .int x1), (2, .int x2), (3, .int x3), (4, .int x4), (5, .int x5_4)]) hx hb dX12_tells_22 hl (by decide) rfl (fun ls hl => ?_)
        refine lv_aload_n hx hb dX12_tells_24 rfl (lv_at hl 1 rfl) ?_
        refine va_get (D := D) (ci := 12) (v := .ref (b0 15)) (C := RX12) (T := TX12) (N := 42) hx hb hts iw_Ref hown hK hP 0 rfl rfl 14 (by decide) fl_41 (fun _ h9 => h9) rfl dX12_tells_25 ?_
        refine lv_iload hx hb dX12_tells_28 (lv_at hl 0 rfl) ?_
        obtain ⟨h_8, hf⟩ := mb_chk_s hf
        refine va_iald hx hb hK hP 11 0 rfl rfl h_8 dX12_tells_30 ?_
        refine lv_iload_n hx hb dX12_tells_31 rfl (lv_at hl 2 rfl) ?_
        refine lv_icmp_ne (tgt := 92) hx hb dX12_tells_32 (by decide) (fun c_21 => ?_) (fun c_21 => ?_)
        · have hf := mb_if_f c_21 hf
          obtain ⟨x5_9, e_, hf⟩ := mb_let_s hf
          refine lv_iinc (v := x5_9) (lv' := [(5, .int x5_9), (6, .int x6_7), (0, .ref (b0 0)), (1, .int x1), (2, .int x2), (3, .int x3), (4, .int x4)]) hx hb dX12_tells_92 hl (k := 6) rfl (by rw [e_]; rfl) (by decide) rfl (fun ls hl => ?_)
          clear e_
          refine lv_goto (tgt := 3) hx hb dX12_tells_95 (by decide) ?_
          exact ih_3 x5_9 _ _ _ hf hP hD hS (lv_sub hl [2, 3, 4, 5, 6, 0] rfl)
        · have hf := mb_if_t c_21 hf
          refine lv_aload_n hx hb dX12_tells_35 rfl (lv_at hl 1 rfl) ?_
          refine va_get (D := D) (ci := 12) (v := .ref (b0 15)) (C := RX12) (T := TX12) (N := 42) hx hb hts iw_Ref hown hK hP 0 rfl rfl 14 (by decide) fl_41 (fun _ h9 => h9) rfl dX12_tells_36 ?_
          refine lv_iload hx hb dX12_tells_39 (lv_at hl 0 rfl) ?_
          refine lv_iconst (v := 1) hx hb dX12_tells_41 (by decide) ?_
          refine lv_iadd hx hb dX12_tells_42 ?_
          obtain ⟨h_10, hf⟩ := mb_chk_s hf
          refine va_iald hx hb hK hP 11 0 rfl rfl h_10 dX12_tells_43 ?_
          refine lv_iload_n hx hb dX12_tells_44 rfl (lv_at hl 3 rfl) ?_
          refine lv_icmp_ne (tgt := 92) hx hb dX12_tells_45 (by decide) (fun c_20 => ?_) (fun c_20 => ?_)
          · have hf := mb_if_f c_20 hf
            obtain ⟨x5_11, e_, hf⟩ := mb_let_s hf
            refine lv_iinc (v := x5_11) (lv' := [(5, .int x5_11), (6, .int x6_7), (0, .ref (b0 0)), (1, .int x1), (2, .int x2), (3, .int x3), (4, .int x4)]) hx hb dX12_tells_92 hl (k := 6) rfl (by rw [e_]; rfl) (by decide) rfl (fun ls hl => ?_)
            clear e_
            refine lv_goto (tgt := 3) hx hb dX12_tells_95 (by decide) ?_
            exact ih_3 x5_11 _ _ _ hf hP hD hS (lv_sub hl [2, 3, 4, 5, 6, 0] rfl)
          · have hf := mb_if_t c_20 hf
            refine lv_aload_n hx hb dX12_tells_48 rfl (lv_at hl 1 rfl) ?_
            refine va_get (D := D) (ci := 12) (v := .ref (b0 15)) (C := RX12) (T := TX12) (N := 42) hx hb hts iw_Ref hown hK hP 0 rfl rfl 14 (by decide) fl_41 (fun _ h9 => h9) rfl dX12_tells_49 ?_
            refine lv_iload hx hb dX12_tells_52 (lv_at hl 0 rfl) ?_
            refine lv_iconst (v := 2) hx hb dX12_tells_54 (by decide) ?_
            refine lv_iadd hx hb dX12_tells_55 ?_
            obtain ⟨h_12, hf⟩ := mb_chk_s hf
            refine va_iald hx hb hK hP 11 0 rfl rfl h_12 dX12_tells_56 ?_
            refine lv_iload_n hx hb dX12_tells_57 rfl (lv_at hl 4 rfl) ?_
            refine lv_icmp_ne (tgt := 92) hx hb dX12_tells_58 (by decide) (fun c_19 => ?_) (fun c_19 => ?_)
            · have hf := mb_if_f c_19 hf
              obtain ⟨x5_13, e_, hf⟩ := mb_let_s hf
              refine lv_iinc (v := x5_13) (lv' := [(5, .int x5_13), (6, .int x6_7), (0, .ref (b0 0)), (1, .int x1), (2, .int x2), (3, .int x3), (4, .int x4)]) hx hb dX12_tells_92 hl (k := 6) rfl (by rw [e_]; rfl) (by decide) rfl (fun ls hl => ?_)
              clear e_
              refine lv_goto (tgt := 3) hx hb dX12_tells_95 (by decide) ?_
              exact ih_3 x5_13 _ _ _ hf hP hD hS (lv_sub hl [2, 3, 4, 5, 6, 0] rfl)
            · have hf := mb_if_t c_19 hf
              refine lv_iload hx hb dX12_tells_61 (lv_at hl 5 rfl) ?_
              refine lv_i2l hx hb dX12_tells_63 rfl ?_
              refine lv_aload_n hx hb dX12_tells_64 rfl (lv_at hl 1 rfl) ?_
              refine va_get (D := D) (ci := 12) (v := .ref (b0 15)) (C := RX12) (T := TX12) (N := 42) hx hb hts iw_Ref hown hK hP 0 rfl rfl 14 (by decide) fl_41 (fun _ h9 => h9) rfl dX12_tells_65 ?_
              refine lv_iload hx hb dX12_tells_68 (lv_at hl 0 rfl) ?_
              refine lv_iconst (v := 3) hx hb dX12_tells_70 (by decide) ?_
              refine lv_iadd hx hb dX12_tells_71 ?_
              obtain ⟨h_14, hf⟩ := mb_chk_s hf
              refine va_iald hx hb hK hP 11 0 rfl rfl h_14 dX12_tells_72 ?_
              refine lv_i2l hx hb dX12_tells_73 rfl ?_
              refine lv_aload_n hx hb dX12_tells_74 rfl (lv_at hl 1 rfl) ?_
              refine va_get (D := D) (ci := 12) (v := .ref (b0 15)) (C := RX12) (T := TX12) (N := 42) hx hb hts iw_Ref hown hK hP 0 rfl rfl 14 (by decide) fl_41 (fun _ h9 => h9) rfl dX12_tells_75 ?_
              refine lv_iload hx hb dX12_tells_78 (lv_at hl 0 rfl) ?_
              refine lv_iconst (v := 4) hx hb dX12_tells_80 (by decide) ?_
              refine lv_iadd hx hb dX12_tells_81 ?_
              obtain ⟨h_15, hf⟩ := mb_chk_s hf
              refine va_iald hx hb hK hP 11 0 rfl rfl h_15 dX12_tells_82 ?_
              refine lv_i2l hx hb dX12_tells_83 rfl ?_
              obtain ⟨r_16, hz, hf⟩ := mb_bd1_s hf
              refine gc_i (r0 := r_16) (ws' := (wC_Ref k b0 P0 L0)) (wr := (wC_Ref k b0 P0 L0)) (va_runS (As := [.long (x4).toInt64, .long ((P0 15 (x6_7 + (3 : Int32)).toNatClampNeg)).toInt64, .long ((P0 15 (x6_7 + (4 : Int32)).toNatClampNeg)).toInt64]) (rest := []) ⟨hx, hb, hml, hown, hts⟩ (c_Ref_in l D k H.size ((x4).toInt64) (((P0 15 (x6_7 + (3 : Int32)).toNatClampNeg)).toInt64) (((P0 15 (x6_7 + (4 : Int32)).toNatClampNeg)).toInt64) r_16 hz) (cwS 3 hts gX12_tells_X12_in rfl rfl rfl (by decide +kernel) ⟨Nat.le_of_ble_eq_true rfl, Nat.le_of_ble_eq_true rfl⟩) (gp_S hP hD hK hN [] (by decide +kernel) rfl) rfl rfl hl.1 rfl (lv_room (Nat.le_of_ble_eq_true rfl)) dX12_tells_84 ⟨Nat.zero_le _, Nat.zero_le _⟩) hP hD hS hA [] [0, 1, 2, 3, 4, 5, 6, 7, 8, 9, 10, 11, 12, 13, 14, 15, 16, 17, 18, 19, 20, 21, 22, 23, 24, 25] rfl rfl (by decide +kernel) (by decide +kernel) [0, 1, 2, 3, 4, 5, 6, 7, 8, 9, 10, 11, 12, 13, 14, 15, 16, 17, 18, 19, 20, 21, 22, 23, 24, 25] (by decide +kernel) rfl (fun H locs hP hD hS => ?_)
              clear hz
              refine lv_if_eq (tgt := 92) hx hb dX12_tells_87 (by decide) (fun c_18 => ?_) (fun c_18 => ?_)
              · have hf := mb_if_t c_18 hf
                obtain ⟨x5_17, e_, hf⟩ := mb_let_s hf
                refine lv_iinc (v := x5_17) (lv' := [(5, .int x5_17), (6, .int x6_7), (0, .ref (b0 0)), (1, .int x1), (2, .int x2), (3, .int x3), (4, .int x4)]) hx hb dX12_tells_92 hl (k := 6) rfl (by rw [e_]; rfl) (by decide) rfl (fun ls hl => ?_)
                clear e_
                refine lv_goto (tgt := 3) hx hb dX12_tells_95 (by decide) ?_
                exact ih_3 x5_17 _ _ _ hf hP hD hS (lv_sub hl [2, 3, 4, 5, 6, 0] rfl)
              · have hf := mb_if_f c_18 hf
                refine lv_iconst (v := 1) hx hb dX12_tells_90 (by decide) ?_
                have hz := Option.some.inj hf
                subst hz
                exact hret _ _ _ _ mb_n1 dX12_tells_91 hP hD hS
  exact lp3_2 mb_fu x5_1 _ _ _ hf hP hD hS (lv_sub hl [1, 2, 3, 4, 5, 0] rfl)
def f_Ref_quarrels_42_b (P0 : PI) (x1 : Int32) (x2 : Int32) (x3 : Int32) (K93_7 : Int32 → Option (Int32)) (self_14 : Int32 → Int32 → Option (Int32)) (x4_12 : Int32) (x5_13 : Int32) : Option (Int32) := (if (10000 : Int32) ≤ x5_13 then K93_7 x4_12 else mb_bd1 (f_Ref_tells P0 (97 : Int32) x1 x2 x5_13) (fun (r_15 : Int32) => (if r_15 = 0 then mb_let (x5_13 + (1 : Int32)) (fun (x5_16 : Int32) => self_14 x4_12 x5_16) else mb_bd1 (f_Ref_tells P0 (98 : Int32) x1 x2 x5_13) (fun (r_17 : Int32) => (if r_17 = 0 then mb_let (x5_13 + (1 : Int32)) (fun (x5_18 : Int32) => self_14 x4_12 x5_18) else (if x3 = (1 : Int32) then some x5_13 else mb_let (x4_12 + (1 : Int32)) (fun (x4_19 : Int32) => mb_let (x5_13 + (1 : Int32)) (fun (x5_20 : Int32) => self_14 x4_19 x5_20))))))))
def f_Ref_quarrels_42 (P0 : PI) (x1 : Int32) (x2 : Int32) (x3 : Int32) (K93_7 : Int32 → Option (Int32)) : Nat → Int32 → Int32 → Option (Int32)
  | 0, _, _ => none
  | n + 1, x4_12, x5_13 => f_Ref_quarrels_42_b P0 x1 x2 x3 K93_7 (f_Ref_quarrels_42 P0 x1 x2 x3 K93_7 n) x4_12 x5_13
def f_Ref_quarrels (P0 : PI) (x1 : Int32) (x2 : Int32) (x3 : Int32) : Option (Int32) := mb_bd1 (f_Ref_in ((x1).toInt64) (0 : Int64) (15 : Int64)) (fun (r_1 : Int32) => (if r_1 = 0 then some (-1 : Int32) else mb_bd1 (f_Ref_in ((x2).toInt64) (0 : Int64) (5 : Int64)) (fun (r_2 : Int32) => (if r_2 = 0 then some (-1 : Int32) else mb_bd1 (f_Ref_in ((x3).toInt64) (0 : Int64) (1 : Int64)) (fun (r_3 : Int32) => (if r_3 = 0 then some (-1 : Int32) else mb_let (0 : Int32) (fun (x4_4 : Int32) => mb_let (0 : Int32) (fun (x5_5 : Int32) => mb_jn (fun (x4_6 : Int32) => (if x3 = 0 then some x4_6 else some (-4 : Int32))) (fun K93_7 => f_Ref_quarrels_42 P0 x1 x2 x3 K93_7 mb_fu x4_4 x5_5)))))))))
def rm_Ref_quarrels : Room := { frames := 2, cells := 0, slots := 0, locals := 51 }
set_option maxHeartbeats 4000000 in
set_option maxRecDepth 100000 in
theorem c_Ref_quarrels (l : Launch) (D : va_G) (k : Nat → ClassId) (sz : Nat) (b0 : Nat → Nat) (P0 : PI) (L0 : PL) (x1 : Int32) (x2 : Int32) (x3 : Int32) (z : Int32) (hf : f_Ref_quarrels P0 x1 x2 x3 = some z) : Met l yX12_quarrels wsX12_quarrels rm_Ref_quarrels (va_Pc [.ref (b0 0), .int x1, .int x2, .int x3] (gw_pre D vwCl (tyL k) (wC_Ref k b0 P0 L0) sz)) (va_Qi (fun (r : Int32) (_ : Unit) => r = z) (gw_b D vwCl (tyL k) (va_A (wC_Ref k b0 P0 L0) sz) (wC_Ref k b0 P0 L0)) (va_A (wC_Ref k b0 P0 L0) sz)) 0 0 (va_A (wC_Ref k b0 P0 L0) sz) := by
  refine gm_i (cc := cX12_quarrels) (maxL := 6) (by decide) rfl (Nat.le_of_ble_eq_true rfl) ?_
  intro p e s m args below meth c A Q ls H locs hx hb hml hown hts hK hN hA hP hD hS hl hret
  have hown : s.vm.findClass RX12 = some m.cls := hown
  have hl : lv_has ls 6 [(0, .ref (b0 0)), (1, .int x1), (2, .int x2), (3, .int x3)] := hl
  have lc_198 := hts (.constantLong RX12 198 (15)) (by decide +kernel)
  have lc_200 := hts (.constantLong RX12 200 (5)) (by decide +kernel)
  unfold f_Ref_quarrels at hf
  refine lv_iload_n hx hb dX12_quarrels_0 rfl (lv_at hl 1 rfl) ?_
  refine lv_i2l hx hb dX12_quarrels_1 rfl ?_
  refine lv_lconst (v := 0) hx hb dX12_quarrels_2 (by decide) ?_
  refine lv_ldc2 (v := (15)) hx hb hown lc_198 dX12_quarrels_3 ?_
  obtain ⟨r_1, hz, hf⟩ := mb_bd1_s hf
  refine gc_i (r0 := r_1) (ws' := (wC_Ref k b0 P0 L0)) (wr := (wC_Ref k b0 P0 L0)) (va_runS (As := [.long (x1).toInt64, .long (0 : Int64), .long (15 : Int64)]) (rest := []) ⟨hx, hb, hml, hown, hts⟩ (c_Ref_in l D k H.size ((x1).toInt64) (0 : Int64) (15 : Int64) r_1 hz) (cwS 3 hts gX12_quarrels_X12_in rfl rfl rfl (by decide +kernel) ⟨Nat.le_of_ble_eq_true rfl, Nat.le_of_ble_eq_true rfl⟩) (gp_S hP hD hK hN [] (by decide +kernel) rfl) rfl rfl hl.1 rfl (lv_room (Nat.le_of_ble_eq_true rfl)) dX12_quarrels_6 ⟨Nat.zero_le _, Nat.zero_le _⟩) hP hD hS hA [] [0, 1, 2, 3, 4, 5, 6, 7, 8, 9, 10, 11, 12, 13, 14, 15, 16, 17, 18, 19, 20, 21, 22, 23, 24, 25] rfl rfl (by decide +kernel) (by decide +kernel) [0, 1, 2, 3, 4, 5, 6, 7, 8, 9, 10, 11, 12, 13, 14, 15, 16, 17, 18, 19, 20, 21, 22, 23, 24, 25] (by decide +kernel) rfl (fun H locs hP hD hS => ?_)
  clear hz
  refine lv_if_eq (tgt := 34) hx hb dX12_quarrels_9 (by decide) (fun c_27 => ?_) (fun c_27 => ?_)
  · have hf := mb_if_t c_27 hf
    refine lv_iconst (v := (-1)) hx hb dX12_quarrels_34 (by decide) ?_
    have hz := Option.some.inj hf
    subst hz
    exact hret _ _ _ _ dX12_quarrels_35 hP hD hS
  · have hf := mb_if_f c_27 hf
    refine lv_iload_n hx hb dX12_quarrels_12 rfl (lv_at hl 2 rfl) ?_
    refine lv_i2l hx hb dX12_quarrels_13 rfl ?_
    refine lv_lconst (v := 0) hx hb dX12_quarrels_14 (by decide) ?_
    refine lv_ldc2 (v := (5)) hx hb hown lc_200 dX12_quarrels_15 ?_
    obtain ⟨r_2, hz, hf⟩ := mb_bd1_s hf
    refine gc_i (r0 := r_2) (ws' := (wC_Ref k b0 P0 L0)) (wr := (wC_Ref k b0 P0 L0)) (va_runS (As := [.long (x2).toInt64, .long (0 : Int64), .long (5 : Int64)]) (rest := []) ⟨hx, hb, hml, hown, hts⟩ (c_Ref_in l D k H.size ((x2).toInt64) (0 : Int64) (5 : Int64) r_2 hz) (cwS 3 hts gX12_quarrels_X12_in rfl rfl rfl (by decide +kernel) ⟨Nat.le_of_ble_eq_true rfl, Nat.le_of_ble_eq_true rfl⟩) (gp_S hP hD hK hN [] (by decide +kernel) rfl) rfl rfl hl.1 rfl (lv_room (Nat.le_of_ble_eq_true rfl)) dX12_quarrels_18 ⟨Nat.zero_le _, Nat.zero_le _⟩) hP hD hS hA [] [0, 1, 2, 3, 4, 5, 6, 7, 8, 9, 10, 11, 12, 13, 14, 15, 16, 17, 18, 19, 20, 21, 22, 23, 24, 25] rfl rfl (by decide +kernel) (by decide +kernel) [0, 1, 2, 3, 4, 5, 6, 7, 8, 9, 10, 11, 12, 13, 14, 15, 16, 17, 18, 19, 20, 21, 22, 23, 24, 25] (by decide +kernel) rfl (fun H locs hP hD hS => ?_)
    clear hz
    refine lv_if_eq (tgt := 34) hx hb dX12_quarrels_21 (by decide) (fun c_26 => ?_) (fun c_26 => ?_)
    · have hf := mb_if_t c_26 hf
      refine lv_iconst (v := (-1)) hx hb dX12_quarrels_34 (by decide) ?_
      have hz := Option.some.inj hf
      subst hz
      exact hret _ _ _ _ dX12_quarrels_35 hP hD hS
    · have hf := mb_if_f c_26 hf
      refine lv_iload_n hx hb dX12_quarrels_24 rfl (lv_at hl 3 rfl) ?_
      refine lv_i2l hx hb dX12_quarrels_25 rfl ?_
      refine lv_lconst (v := 0) hx hb dX12_quarrels_26 (by decide) ?_
      refine lv_lconst (v := 1) hx hb dX12_quarrels_27 (by decide) ?_
      obtain ⟨r_3, hz, hf⟩ := mb_bd1_s hf
      refine gc_i (r0 := r_3) (ws' := (wC_Ref k b0 P0 L0)) (wr := (wC_Ref k b0 P0 L0)) (va_runS (As := [.long (x3).toInt64, .long (0 : Int64), .long (1 : Int64)]) (rest := []) ⟨hx, hb, hml, hown, hts⟩ (c_Ref_in l D k H.size ((x3).toInt64) (0 : Int64) (1 : Int64) r_3 hz) (cwS 3 hts gX12_quarrels_X12_in rfl rfl rfl (by decide +kernel) ⟨Nat.le_of_ble_eq_true rfl, Nat.le_of_ble_eq_true rfl⟩) (gp_S hP hD hK hN [] (by decide +kernel) rfl) rfl rfl hl.1 rfl (lv_room (Nat.le_of_ble_eq_true rfl)) dX12_quarrels_28 ⟨Nat.zero_le _, Nat.zero_le _⟩) hP hD hS hA [] [0, 1, 2, 3, 4, 5, 6, 7, 8, 9, 10, 11, 12, 13, 14, 15, 16, 17, 18, 19, 20, 21, 22, 23, 24, 25] rfl rfl (by decide +kernel) (by decide +kernel) [0, 1, 2, 3, 4, 5, 6, 7, 8, 9, 10, 11, 12, 13, 14, 15, 16, 17, 18, 19, 20, 21, 22, 23, 24, 25] (by decide +kernel) rfl (fun H locs hP hD hS => ?_)
      clear hz
      refine lv_if_ne (tgt := 36) hx hb dX12_quarrels_31 (by decide) (fun c_25 => ?_) (fun c_25 => ?_)
      · have hf := mb_if_f c_25 hf
        refine lv_iconst (v := 0) hx hb dX12_quarrels_36 (by decide) ?_
        obtain ⟨x4_4, e_, hf⟩ := mb_let_s hf
        refine mb_topi e_ ?_
        clear e_
        refine lv_istore (lv' := [(4, .int x4_4), (0, .ref (b0 0)), (1, .int x1), (2, .int x2), (3, .int x3)]) hx hb dX12_quarrels_37 hl (by decide) rfl (fun ls hl => ?_)
        refine lv_iconst (v := 0) hx hb dX12_quarrels_39 (by decide) ?_
        obtain ⟨x5_5, e_, hf⟩ := mb_let_s hf
        refine mb_topi e_ ?_
        clear e_
        refine lv_istore (lv' := [(5, .int x5_5), (4, .int x4_4), (0, .ref (b0 0)), (1, .int x1), (2, .int x2), (3, .int x3)]) hx hb dX12_quarrels_40 hl (by decide) rfl (fun ls hl => ?_)
        obtain ⟨K93_7, eK93_7, hf⟩ := mb_jn_s hf
        have k93_8 : ∀ (x4_6 : Int32) (H : Heap) (locs : List Loc) (ls : Array Slot), K93_7 x4_6 = some z → va_P D vwCl (wC_Ref k b0 P0 L0) H → va_D A (wC_Ref k b0 P0 L0) → va_S A s.heap H locs → lv_has ls 6 [(3, .int x3), (4, .int x4_6)] → W p l e rm_Ref_quarrels s m args below meth c H locs 0 0 Q (F0 m 93 ls []) := by
          intro x4_6 H locs ls hf hP hD hS hl
          have hf := mb_j1 eK93_7 hf
          refine lv_iload_n hx hb dX12_quarrels_93 rfl (lv_at hl 0 rfl) ?_
          refine lv_if_ne (tgt := 102) hx hb dX12_quarrels_94 (by decide) (fun c_9 => ?_) (fun c_9 => ?_)
          · have hf := mb_if_f c_9 hf
            refine lv_bipush (v := (-4)) hx hb dX12_quarrels_102 (by decide) ?_
            have hz := Option.some.inj hf
            subst hz
            exact hret _ _ _ _ dX12_quarrels_104 hP hD hS
          · have hf := mb_if_t c_9 hf
            refine lv_iload hx hb dX12_quarrels_97 (lv_at hl 1 rfl) ?_
            refine lv_goto (tgt := 104) hx hb dX12_quarrels_99 (by decide) ?_
            have hz := Option.some.inj hf
            subst hz
            exact hret _ _ _ _ dX12_quarrels_104 hP hD hS
        have lp42_10 : ∀ (n : Nat) (x4_12 : Int32) (x5_13 : Int32) (H : Heap) (locs : List Loc) (ls : Array Slot), f_Ref_quarrels_42 P0 x1 x2 x3 K93_7 n x4_12 x5_13 = some z → va_P D vwCl (wC_Ref k b0 P0 L0) H → va_D A (wC_Ref k b0 P0 L0) → va_S A s.heap H locs → lv_has ls 6 [(0, .ref (b0 0)), (1, .int x1), (2, .int x2), (3, .int x3), (4, .int x4_12), (5, .int x5_13)] → W p l e rm_Ref_quarrels s m args below meth c H locs 0 0 Q (F0 m 42 ls []) := by
          intro n
          induction n with
          | zero =>
            intro x4_12 x5_13 H locs ls hf
            exact nomatch (show (none : Option (Int32)) = some z from hf)
          | succ n ih_11 =>
            intro x4_12 x5_13 H locs ls hf hP hD hS hl
            have hf : f_Ref_quarrels_42_b P0 x1 x2 x3 K93_7 (f_Ref_quarrels_42 P0 x1 x2 x3 K93_7 n) x4_12 x5_13 = some z := hf
            unfold f_Ref_quarrels_42_b at hf
            refine lv_iload hx hb dX12_quarrels_42 (lv_at hl 5 rfl) ?_
            refine lv_sipush (v := 10000) hx hb dX12_quarrels_44 (by decide) ?_
            refine lv_icmp_ge (tgt := 93) hx hb dX12_quarrels_47 (by decide) (fun c_24 => ?_) (fun c_24 => ?_)
            · have hf := mb_if_t c_24 hf
              exact k93_8 x4_12 _ _ _ hf hP hD hS (lv_sub hl [3, 4] rfl)
            · have hf := mb_if_f c_24 hf
              refine lv_aload_n hx hb dX12_quarrels_50 rfl (lv_at hl 0 rfl) ?_
              refine lv_bipush (v := 97) hx hb dX12_quarrels_51 (by decide) ?_
              refine lv_iload_n hx hb dX12_quarrels_53 rfl (lv_at hl 1 rfl) ?_
              refine lv_iload_n hx hb dX12_quarrels_54 rfl (lv_at hl 2 rfl) ?_
              refine lv_iload hx hb dX12_quarrels_55 (lv_at hl 5 rfl) ?_
              obtain ⟨r_15, hz, hf⟩ := mb_bd1_s hf
              refine gc_i (r0 := r_15) (ws' := (wC_Ref k b0 P0 L0)) (wr := ([] : va_W)) (va_runV (As := [.int (97 : Int32), .int x1, .int x2, .int x5_13]) (rest := []) ⟨hx, hb, hml, hown, hts⟩ (c_Ref_tells l D k H.size b0 P0 L0 (97 : Int32) x1 x2 x5_13 r_15 hz) (cwV 4 hts gX12_quarrels_X12_tells rfl rfl rfl (by decide +kernel) ⟨Nat.le_of_ble_eq_true rfl, Nat.le_of_ble_eq_true rfl⟩) (gp_V (ci := 12) (q0 := 0) (q := (RX12, TX12, 42)) hP hD hK hN [0, 1, 2, 3, 4, 5, 6, 7, 8, 9, 10, 11, 12, 13, 14, 15, 16, 17, 18, 19, 20, 21, 22, 23, 24, 25] (by decide +kernel) rfl rfl rfl) rfl rfl hl.1 rfl (lv_room (Nat.le_of_ble_eq_true rfl)) dX12_quarrels_57 ⟨Nat.zero_le _, Nat.zero_le _⟩) hP hD hS hA [0, 1, 2, 3, 4, 5, 6, 7, 8, 9, 10, 11, 12, 13, 14, 15, 16, 17, 18, 19, 20, 21, 22, 23, 24, 25] [] rfl rfl (by decide +kernel) (by decide +kernel) [0, 1, 2, 3, 4, 5, 6, 7, 8, 9, 10, 11, 12, 13, 14, 15, 16, 17, 18, 19, 20, 21, 22, 23, 24, 25] (by decide +kernel) rfl (fun H locs hP hD hS => ?_)
              clear hz
              refine lv_if_eq (tgt := 87) hx hb dX12_quarrels_60 (by decide) (fun c_23 => ?_) (fun c_23 => ?_)
              · have hf := mb_if_t c_23 hf
                obtain ⟨x5_16, e_, hf⟩ := mb_let_s hf
                refine lv_iinc (v := x5_16) (lv' := [(5, .int x5_16), (0, .ref (b0 0)), (1, .int x1), (2, .int x2), (3, .int x3), (4, .int x4_12)]) hx hb dX12_quarrels_87 hl (k := 5) rfl (by rw [e_]; rfl) (by decide) rfl (fun ls hl => ?_)
                clear e_
                refine lv_goto (tgt := 42) hx hb dX12_quarrels_90 (by decide) ?_
                exact ih_11 x4_12 x5_16 _ _ _ hf hP hD hS (lv_sub hl [1, 2, 3, 4, 5, 0] rfl)
              · have hf := mb_if_f c_23 hf
                refine lv_aload_n hx hb dX12_quarrels_63 rfl (lv_at hl 0 rfl) ?_
                refine lv_bipush (v := 98) hx hb dX12_quarrels_64 (by decide) ?_
                refine lv_iload_n hx hb dX12_quarrels_66 rfl (lv_at hl 1 rfl) ?_
                refine lv_iload_n hx hb dX12_quarrels_67 rfl (lv_at hl 2 rfl) ?_
                refine lv_iload hx hb dX12_quarrels_68 (lv_at hl 5 rfl) ?_
                obtain ⟨r_17, hz, hf⟩ := mb_bd1_s hf
                refine gc_i (r0 := r_17) (ws' := (wC_Ref k b0 P0 L0)) (wr := ([] : va_W)) (va_runV (As := [.int (98 : Int32), .int x1, .int x2, .int x5_13]) (rest := []) ⟨hx, hb, hml, hown, hts⟩ (c_Ref_tells l D k H.size b0 P0 L0 (98 : Int32) x1 x2 x5_13 r_17 hz) (cwV 4 hts gX12_quarrels_X12_tells rfl rfl rfl (by decide +kernel) ⟨Nat.le_of_ble_eq_true rfl, Nat.le_of_ble_eq_true rfl⟩) (gp_V (ci := 12) (q0 := 0) (q := (RX12, TX12, 42)) hP hD hK hN [0, 1, 2, 3, 4, 5, 6, 7, 8, 9, 10, 11, 12, 13, 14, 15, 16, 17, 18, 19, 20, 21, 22, 23, 24, 25] (by decide +kernel) rfl rfl rfl) rfl rfl hl.1 rfl (lv_room (Nat.le_of_ble_eq_true rfl)) dX12_quarrels_70 ⟨Nat.zero_le _, Nat.zero_le _⟩) hP hD hS hA [0, 1, 2, 3, 4, 5, 6, 7, 8, 9, 10, 11, 12, 13, 14, 15, 16, 17, 18, 19, 20, 21, 22, 23, 24, 25] [] rfl rfl (by decide +kernel) (by decide +kernel) [0, 1, 2, 3, 4, 5, 6, 7, 8, 9, 10, 11, 12, 13, 14, 15, 16, 17, 18, 19, 20, 21, 22, 23, 24, 25] (by decide +kernel) rfl (fun H locs hP hD hS => ?_)
                clear hz
                refine lv_if_eq (tgt := 87) hx hb dX12_quarrels_73 (by decide) (fun c_22 => ?_) (fun c_22 => ?_)
                · have hf := mb_if_t c_22 hf
                  obtain ⟨x5_18, e_, hf⟩ := mb_let_s hf
                  refine lv_iinc (v := x5_18) (lv' := [(5, .int x5_18), (0, .ref (b0 0)), (1, .int x1), (2, .int x2), (3, .int x3), (4, .int x4_12)]) hx hb dX12_quarrels_87 hl (k := 5) rfl (by rw [e_]; rfl) (by decide) rfl (fun ls hl => ?_)
                  clear e_
                  refine lv_goto (tgt := 42) hx hb dX12_quarrels_90 (by decide) ?_
                  exact ih_11 x4_12 x5_18 _ _ _ hf hP hD hS (lv_sub hl [1, 2, 3, 4, 5, 0] rfl)
                · have hf := mb_if_f c_22 hf
                  refine lv_iload_n hx hb dX12_quarrels_76 rfl (lv_at hl 3 rfl) ?_
                  refine lv_iconst (v := 1) hx hb dX12_quarrels_77 (by decide) ?_
                  refine lv_icmp_ne (tgt := 84) hx hb dX12_quarrels_78 (by decide) (fun c_21 => ?_) (fun c_21 => ?_)
                  · have hf := mb_if_f c_21 hf
                    obtain ⟨x4_19, e_, hf⟩ := mb_let_s hf
                    refine lv_iinc (v := x4_19) (lv' := [(4, .int x4_19), (0, .ref (b0 0)), (1, .int x1), (2, .int x2), (3, .int x3), (5, .int x5_13)]) hx hb dX12_quarrels_84 hl (k := 4) rfl (by rw [e_]; rfl) (by decide) rfl (fun ls hl => ?_)
                    clear e_
                    obtain ⟨x5_20, e_, hf⟩ := mb_let_s hf
                    refine lv_iinc (v := x5_20) (lv' := [(5, .int x5_20), (4, .int x4_19), (0, .ref (b0 0)), (1, .int x1), (2, .int x2), (3, .int x3)]) hx hb dX12_quarrels_87 hl (k := 5) rfl (by rw [e_]; rfl) (by decide) rfl (fun ls hl => ?_)
                    clear e_
                    refine lv_goto (tgt := 42) hx hb dX12_quarrels_90 (by decide) ?_
                    exact ih_11 x4_19 x5_20 _ _ _ hf hP hD hS (lv_sub hl [2, 3, 4, 5, 1, 0] rfl)
                  · have hf := mb_if_t c_21 hf
                    refine lv_iload hx hb dX12_quarrels_81 (lv_at hl 5 rfl) ?_
                    have hz := Option.some.inj hf
                    subst hz
                    exact hret _ _ _ _ dX12_quarrels_83 hP hD hS
        exact lp42_10 mb_fu x4_4 x5_5 _ _ _ hf hP hD hS (lv_sub hl [2, 3, 4, 5, 1, 0] rfl)
      · have hf := mb_if_t c_25 hf
        refine lv_iconst (v := (-1)) hx hb dX12_quarrels_34 (by decide) ?_
        have hz := Option.some.inj hf
        subst hz
        exact hret _ _ _ _ dX12_quarrels_35 hP hD hS
def f_Ref_meaning_6_b (P0 : PI) (x1 : Int32) (x2 : Int32) (x3 : Int32) (self_7 : Int32 → Int32 → Option (Int32)) (x4_5 : Int32) (x5_6 : Int32) : Option (Int32) := mb_chk (1 : Int32) 2 ((if (P0 14 (1 : Int32).toNatClampNeg) ≤ x5_6 then some x4_5 else mb_let ((300 : Int32) + ((5 : Int32) * x5_6)) (fun (x6_9 : Int32) => mb_chk x6_9 600 (mb_jn (fun (y_11 : Int32) => mb_let y_11 (fun (x7_14 : Int32) => mb_jn (fun (y_15 : Int32) (y_16 : Int32) => mb_let (y_16 ||| y_15) (fun (x4_19 : Int32) => mb_let (x5_6 + (1 : Int32)) (fun (x5_20 : Int32) => self_7 x4_19 x5_20))) (fun J107_17 => (if x7_14 = 0 then J107_17 (0 : Int32) x4_5 else mb_chk (x6_9 + (2 : Int32)) 600 (J107_17 ((1 : Int32) <<< ((P0 15 (x6_9 + (2 : Int32)).toNatClampNeg) &&& 31)) x4_5))))) (fun J83_12 => mb_jn (J83_12 (0 : Int32)) (fun J82_23 => (if (P0 15 x6_9.toNatClampNeg) = (110 : Int32) then mb_chk (x6_9 + (1 : Int32)) 600 ((if (P0 15 (x6_9 + (1 : Int32)).toNatClampNeg) = x1 then mb_chk (x6_9 + (3 : Int32)) 600 ((if (P0 15 (x6_9 + (3 : Int32)).toNatClampNeg) = x2 then mb_chk (x6_9 + (4 : Int32)) 600 ((if x3 < (P0 15 (x6_9 + (4 : Int32)).toNatClampNeg) then J82_23 else J83_12 (1 : Int32))) else J82_23)) else J82_23)) else J82_23)))))))
def f_Ref_meaning_6 (P0 : PI) (x1 : Int32) (x2 : Int32) (x3 : Int32) : Nat → Int32 → Int32 → Option (Int32)
  | 0, _, _ => none
  | n + 1, x4_5, x5_6 => f_Ref_meaning_6_b P0 x1 x2 x3 (f_Ref_meaning_6 P0 x1 x2 x3 n) x4_5 x5_6
def f_Ref_meaning (P0 : PI) (x1 : Int32) (x2 : Int32) (x3 : Int32) : Option (Int32) := mb_let (0 : Int32) (fun (x4_1 : Int32) => mb_let (0 : Int32) (fun (x5_2 : Int32) => f_Ref_meaning_6 P0 x1 x2 x3 mb_fu x4_1 x5_2))
def rm_Ref_meaning : Room := { frames := 0, cells := 0, slots := 0, locals := 0 }
set_option maxHeartbeats 4000000 in
set_option maxRecDepth 100000 in
theorem c_Ref_meaning (l : Launch) (D : va_G) (k : Nat → ClassId) (sz : Nat) (b0 : Nat → Nat) (P0 : PI) (L0 : PL) (x1 : Int32) (x2 : Int32) (x3 : Int32) (z : Int32) (hf : f_Ref_meaning P0 x1 x2 x3 = some z) : Met l yX12_meaning wsX12_meaning rm_Ref_meaning (va_Pc [.ref (b0 0), .int x1, .int x2, .int x3] (gw_pre D vwCl (tyL k) (wC_Ref k b0 P0 L0) sz)) (va_Qi (fun (r : Int32) (_ : Unit) => r = z) (gw_b D vwCl (tyL k) (va_A (wC_Ref k b0 P0 L0) sz) (wC_Ref k b0 P0 L0)) (va_A (wC_Ref k b0 P0 L0) sz)) 0 0 (va_A (wC_Ref k b0 P0 L0) sz) := by
  refine gm_i (cc := cX12_meaning) (maxL := 8) (by decide) rfl (Nat.le_of_ble_eq_true rfl) ?_
  intro p e s m args below meth c A Q ls H locs hx hb hml hown hts hK hN hA hP hD hS hl hret
  have hown : s.vm.findClass RX12 = some m.cls := hown
  have hl : lv_has ls 8 [(0, .ref (b0 0)), (1, .int x1), (2, .int x2), (3, .int x3)] := hl
  have iw_Ref : ∀ w ∈ u_ws RX12 TX12 42, w ∈ wsX12_meaning := by decide +kernel
  have fl_38 := hts (.fieldLink RX12 38 "OneMeasureModel" "itemMany" "[I") (by decide +kernel)
  have fl_41 := hts (.fieldLink RX12 41 "OneMeasureModel" "items" "[I") (by decide +kernel)
  unfold f_Ref_meaning at hf
  refine lv_iconst (v := 0) hx hb dX12_meaning_0 (by decide) ?_
  obtain ⟨x4_1, e_, hf⟩ := mb_let_s hf
  refine mb_topi e_ ?_
  clear e_
  refine lv_istore (lv' := [(4, .int x4_1), (0, .ref (b0 0)), (1, .int x1), (2, .int x2), (3, .int x3)]) hx hb dX12_meaning_1 hl (by decide) rfl (fun ls hl => ?_)
  refine lv_iconst (v := 0) hx hb dX12_meaning_3 (by decide) ?_
  obtain ⟨x5_2, e_, hf⟩ := mb_let_s hf
  refine mb_topi e_ ?_
  clear e_
  refine lv_istore (lv' := [(5, .int x5_2), (4, .int x4_1), (0, .ref (b0 0)), (1, .int x1), (2, .int x2), (3, .int x3)]) hx hb dX12_meaning_4 hl (by decide) rfl (fun ls hl => ?_)
  have lp6_3 : ∀ (n : Nat) (x4_5 : Int32) (x5_6 : Int32) (H : Heap) (locs : List Loc) (ls : Array Slot), f_Ref_meaning_6 P0 x1 x2 x3 n x4_5 x5_6 = some z → va_P D vwCl (wC_Ref k b0 P0 L0) H → va_D A (wC_Ref k b0 P0 L0) → va_S A s.heap H locs → lv_has ls 8 [(0, .ref (b0 0)), (1, .int x1), (2, .int x2), (3, .int x3), (4, .int x4_5), (5, .int x5_6)] → W p l e rm_Ref_meaning s m args below meth c H locs 0 0 Q (F0 m 6 ls []) := by
    intro n
    induction n with
    | zero =>
      intro x4_5 x5_6 H locs ls hf
      exact nomatch (show (none : Option (Int32)) = some z from hf)
    | succ n ih_4 =>
      intro x4_5 x5_6 H locs ls hf hP hD hS hl
      have hf : f_Ref_meaning_6_b P0 x1 x2 x3 (f_Ref_meaning_6 P0 x1 x2 x3 n) x4_5 x5_6 = some z := hf
      unfold f_Ref_meaning_6_b at hf
      refine lv_iload hx hb dX12_meaning_6 (lv_at hl 5 rfl) ?_
      refine lv_aload_n hx hb dX12_meaning_8 rfl (lv_at hl 0 rfl) ?_
      refine va_get (D := D) (ci := 12) (v := .ref (b0 14)) (C := RX12) (T := TX12) (N := 42) hx hb hts iw_Ref hown hK hP 0 rfl rfl 13 (by decide) fl_38 (fun _ h9 => h9) rfl dX12_meaning_9 ?_
      refine lv_iconst (v := 1) hx hb dX12_meaning_12 (by decide) ?_
      obtain ⟨h_8, hf⟩ := mb_chk_s hf
      refine va_iald hx hb hK hP 10 0 rfl rfl h_8 dX12_meaning_13 ?_
      refine lv_icmp_ge (tgt := 116) hx hb dX12_meaning_14 (by decide) (fun c_32 => ?_) (fun c_32 => ?_)
      · have hf := mb_if_t c_32 hf
        refine lv_iload hx hb dX12_meaning_116 (lv_at hl 4 rfl) ?_
        have hz := Option.some.inj hf
        subst hz
        exact hret _ _ _ _ dX12_meaning_118 hP hD hS
      · have hf := mb_if_f c_32 hf
        refine lv_sipush (v := 300) hx hb dX12_meaning_17 (by decide) ?_
        refine lv_iconst (v := 5) hx hb dX12_meaning_20 (by decide) ?_
        refine lv_iload hx hb dX12_meaning_21 (lv_at hl 5 rfl) ?_
        refine lv_imul hx hb dX12_meaning_23 ?_
        refine lv_iadd hx hb dX12_meaning_24 ?_
        obtain ⟨x6_9, e_, hf⟩ := mb_let_s hf
        refine mb_topi e_ ?_
        clear e_
        refine lv_istore (lv' := [(6, .int x6_9), (0, .ref (b0 0)), (1, .int x1), (2, .int x2), (3, .int x3), (4, .int x4_5), (5, .int x5_6)]) hx hb dX12_meaning_25 hl (by decide) rfl (fun ls hl => ?_)
        refine lv_aload_n hx hb dX12_meaning_27 rfl (lv_at hl 1 rfl) ?_
        refine va_get (D := D) (ci := 12) (v := .ref (b0 15)) (C := RX12) (T := TX12) (N := 42) hx hb hts iw_Ref hown hK hP 0 rfl rfl 14 (by decide) fl_41 (fun _ h9 => h9) rfl dX12_meaning_28 ?_
        refine lv_iload hx hb dX12_meaning_31 (lv_at hl 0 rfl) ?_
        obtain ⟨h_10, hf⟩ := mb_chk_s hf
        refine va_iald hx hb hK hP 11 0 rfl rfl h_10 dX12_meaning_33 ?_
        refine lv_bipush (v := 110) hx hb dX12_meaning_34 (by decide) ?_
        obtain ⟨J83_12, eJ83_12, hf⟩ := mb_jn_s hf
        have j83_13 : ∀ (y_11 : Int32) (H : Heap) (locs : List Loc) (ls : Array Slot), J83_12 y_11 = some z → va_P D vwCl (wC_Ref k b0 P0 L0) H → va_D A (wC_Ref k b0 P0 L0) → va_S A s.heap H locs → lv_has ls 8 [(0, .ref (b0 0)), (1, .int x1), (2, .int x2), (3, .int x3), (4, .int x4_5), (5, .int x5_6), (6, .int x6_9)] → W p l e rm_Ref_meaning s m args below meth c H locs 0 0 Q (F0 m 83 ls [.int y_11]) := by
          intro y_11 H locs ls hf hP hD hS hl
          have hf := mb_j1 eJ83_12 hf
          obtain ⟨x7_14, e_, hf⟩ := mb_let_s hf
          refine mb_topi e_ ?_
          clear e_
          refine lv_istore (lv' := [(7, .int x7_14), (0, .ref (b0 0)), (1, .int x1), (2, .int x2), (3, .int x3), (4, .int x4_5), (5, .int x5_6), (6, .int x6_9)]) hx hb dX12_meaning_83 hl (by decide) rfl (fun ls hl => ?_)
          refine lv_iload hx hb dX12_meaning_85 (lv_at hl 5 rfl) ?_
          refine lv_iload hx hb dX12_meaning_87 (lv_at hl 0 rfl) ?_
          obtain ⟨J107_17, eJ107_17, hf⟩ := mb_jn_s hf
          have j107_18 : ∀ (y_15 : Int32) (y_16 : Int32) (H : Heap) (locs : List Loc) (ls : Array Slot), J107_17 y_15 y_16 = some z → va_P D vwCl (wC_Ref k b0 P0 L0) H → va_D A (wC_Ref k b0 P0 L0) → va_S A s.heap H locs → lv_has ls 8 [(0, .ref (b0 0)), (1, .int x1), (2, .int x2), (3, .int x3), (5, .int x5_6)] → W p l e rm_Ref_meaning s m args below meth c H locs 0 0 Q (F0 m 107 ls [.int y_15, .int y_16]) := by
            intro y_15 y_16 H locs ls hf hP hD hS hl
            have hf := mb_j2 eJ107_17 hf
            refine lv_ior hx hb dX12_meaning_107 ?_
            obtain ⟨x4_19, e_, hf⟩ := mb_let_s hf
            refine mb_topi e_ ?_
            clear e_
            refine lv_istore (lv' := [(4, .int x4_19), (0, .ref (b0 0)), (1, .int x1), (2, .int x2), (3, .int x3), (5, .int x5_6)]) hx hb dX12_meaning_108 hl (by decide) rfl (fun ls hl => ?_)
            obtain ⟨x5_20, e_, hf⟩ := mb_let_s hf
            refine lv_iinc (v := x5_20) (lv' := [(5, .int x5_20), (4, .int x4_19), (0, .ref (b0 0)), (1, .int x1), (2, .int x2), (3, .int x3)]) hx hb dX12_meaning_110 hl (k := 5) rfl (by rw [e_]; rfl) (by decide) rfl (fun ls hl => ?_)
            clear e_
            refine lv_goto (tgt := 6) hx hb dX12_meaning_113 (by decide) ?_
            exact ih_4 x4_19 x5_20 _ _ _ hf hP hD hS (lv_sub hl [2, 3, 4, 5, 1, 0] rfl)
          refine lv_if_eq (tgt := 106) hx hb dX12_meaning_89 (by decide) (fun c_22 => ?_) (fun c_22 => ?_)
          · have hf := mb_if_t c_22 hf
            refine lv_iconst (v := 0) hx hb dX12_meaning_106 (by decide) ?_
            exact j107_18 (0 : Int32) x4_5 _ _ _ hf hP hD hS (lv_sub hl [1, 2, 3, 4, 6] rfl)
          · have hf := mb_if_f c_22 hf
            refine lv_iconst (v := 1) hx hb dX12_meaning_92 (by decide) ?_
            refine lv_aload_n hx hb dX12_meaning_93 rfl (lv_at hl 1 rfl) ?_
            refine va_get (D := D) (ci := 12) (v := .ref (b0 15)) (C := RX12) (T := TX12) (N := 42) hx hb hts iw_Ref hown hK hP 0 rfl rfl 14 (by decide) fl_41 (fun _ h9 => h9) rfl dX12_meaning_94 ?_
            refine lv_iload hx hb dX12_meaning_97 (lv_at hl 7 rfl) ?_
            refine lv_iconst (v := 2) hx hb dX12_meaning_99 (by decide) ?_
            refine lv_iadd hx hb dX12_meaning_100 ?_
            obtain ⟨h_21, hf⟩ := mb_chk_s hf
            refine va_iald hx hb hK hP 11 0 rfl rfl h_21 dX12_meaning_101 ?_
            refine lv_ishl hx hb dX12_meaning_102 ?_
            refine lv_goto (tgt := 107) hx hb dX12_meaning_103 (by decide) ?_
            exact j107_18 ((1 : Int32) <<< ((P0 15 (x6_9 + (2 : Int32)).toNatClampNeg) &&& 31)) x4_5 _ _ _ hf hP hD hS (lv_sub hl [1, 2, 3, 4, 6] rfl)
        obtain ⟨J82_23, eJ82_23, hf⟩ := mb_jn_s hf
        have j82_24 : ∀ (H : Heap) (locs : List Loc) (ls : Array Slot), J82_23 = some z → va_P D vwCl (wC_Ref k b0 P0 L0) H → va_D A (wC_Ref k b0 P0 L0) → va_S A s.heap H locs → lv_has ls 8 [(0, .ref (b0 0)), (1, .int x1), (2, .int x2), (3, .int x3), (4, .int x4_5), (5, .int x5_6), (6, .int x6_9)] → W p l e rm_Ref_meaning s m args below meth c H locs 0 0 Q (F0 m 82 ls []) := by
          intro  H locs ls hf hP hD hS hl
          have hf := mb_j0 eJ82_23 hf
          refine lv_iconst (v := 0) hx hb dX12_meaning_82 (by decide) ?_
          exact j83_13 (0 : Int32) _ _ _ hf hP hD hS (lv_sub hl [0, 1, 2, 3, 4, 5, 6] rfl)
        refine lv_icmp_ne (tgt := 82) hx hb dX12_meaning_36 (by decide) (fun c_31 => ?_) (fun c_31 => ?_)
        · have hf := mb_if_f c_31 hf
          exact j82_24  _ _ _ hf hP hD hS (lv_sub hl [1, 2, 3, 4, 5, 6, 0] rfl)
        · have hf := mb_if_t c_31 hf
          refine lv_aload_n hx hb dX12_meaning_39 rfl (lv_at hl 1 rfl) ?_
          refine va_get (D := D) (ci := 12) (v := .ref (b0 15)) (C := RX12) (T := TX12) (N := 42) hx hb hts iw_Ref hown hK hP 0 rfl rfl 14 (by decide) fl_41 (fun _ h9 => h9) rfl dX12_meaning_40 ?_
          refine lv_iload hx hb dX12_meaning_43 (lv_at hl 0 rfl) ?_
          refine lv_iconst (v := 1) hx hb dX12_meaning_45 (by decide) ?_
          refine lv_iadd hx hb dX12_meaning_46 ?_
          obtain ⟨h_25, hf⟩ := mb_chk_s hf
          refine va_iald hx hb hK hP 11 0 rfl rfl h_25 dX12_meaning_47 ?_
          refine lv_iload_n hx hb dX12_meaning_48 rfl (lv_at hl 2 rfl) ?_
          refine lv_icmp_ne (tgt := 82) hx hb dX12_meaning_49 (by decide) (fun c_30 => ?_) (fun c_30 => ?_)
          · have hf := mb_if_f c_30 hf
            exact j82_24  _ _ _ hf hP hD hS (lv_sub hl [1, 2, 3, 4, 5, 6, 0] rfl)
          · have hf := mb_if_t c_30 hf
            refine lv_aload_n hx hb dX12_meaning_52 rfl (lv_at hl 1 rfl) ?_
            refine va_get (D := D) (ci := 12) (v := .ref (b0 15)) (C := RX12) (T := TX12) (N := 42) hx hb hts iw_Ref hown hK hP 0 rfl rfl 14 (by decide) fl_41 (fun _ h9 => h9) rfl dX12_meaning_53 ?_
            refine lv_iload hx hb dX12_meaning_56 (lv_at hl 0 rfl) ?_
            refine lv_iconst (v := 3) hx hb dX12_meaning_58 (by decide) ?_
            refine lv_iadd hx hb dX12_meaning_59 ?_
            obtain ⟨h_26, hf⟩ := mb_chk_s hf
            refine va_iald hx hb hK hP 11 0 rfl rfl h_26 dX12_meaning_60 ?_
            refine lv_iload_n hx hb dX12_meaning_61 rfl (lv_at hl 3 rfl) ?_
            refine lv_icmp_ne (tgt := 82) hx hb dX12_meaning_62 (by decide) (fun c_29 => ?_) (fun c_29 => ?_)
            · have hf := mb_if_f c_29 hf
              exact j82_24  _ _ _ hf hP hD hS (lv_sub hl [1, 2, 3, 4, 5, 6, 0] rfl)
            · have hf := mb_if_t c_29 hf
              refine lv_aload_n hx hb dX12_meaning_65 rfl (lv_at hl 1 rfl) ?_
              refine va_get (D := D) (ci := 12) (v := .ref (b0 15)) (C := RX12) (T := TX12) (N := 42) hx hb hts iw_Ref hown hK hP 0 rfl rfl 14 (by decide) fl_41 (fun _ h9 => h9) rfl dX12_meaning_66 ?_
              refine lv_iload hx hb dX12_meaning_69 (lv_at hl 0 rfl) ?_
              refine lv_iconst (v := 4) hx hb dX12_meaning_71 (by decide) ?_
              refine lv_iadd hx hb dX12_meaning_72 ?_
              obtain ⟨h_27, hf⟩ := mb_chk_s hf
              refine va_iald hx hb hK hP 11 0 rfl rfl h_27 dX12_meaning_73 ?_
              refine lv_iload_n hx hb dX12_meaning_74 rfl (lv_at hl 4 rfl) ?_
              refine lv_icmp_gt (tgt := 82) hx hb dX12_meaning_75 (by decide) (fun c_28 => ?_) (fun c_28 => ?_)
              · have hf := mb_if_t c_28 hf
                exact j82_24  _ _ _ hf hP hD hS (lv_sub hl [1, 2, 3, 4, 5, 6, 0] rfl)
              · have hf := mb_if_f c_28 hf
                refine lv_iconst (v := 1) hx hb dX12_meaning_78 (by decide) ?_
                refine lv_goto (tgt := 83) hx hb dX12_meaning_79 (by decide) ?_
                exact j83_13 (1 : Int32) _ _ _ hf hP hD hS (lv_sub hl [1, 2, 3, 4, 5, 6, 0] rfl)
  exact lp6_3 mb_fu x4_1 x5_2 _ _ _ hf hP hD hS (lv_sub hl [2, 3, 4, 5, 1, 0] rfl)
