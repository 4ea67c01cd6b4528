def f_Ref_numbers_11_b (K83_12 : Int32 → Int32 → PI → Option (Int32 × PI)) (self_33 : Int32 → Int32 → PI → Option (Int32 × PI)) (x2_30 : Int32) (x3_31 : Int32) (P0_32 : PI) : Option (Int32 × PI) := (if (P0_32 0 11) ≤ (P0_32 0 32) then K83_12 x2_30 x3_31 P0_32 else mb_chk (P0_32 0 32) 300 (mb_bd1 (f_Ref_in (((P0_32 13 (P0_32 0 32).toNatClampNeg)).toInt64) (48 : Int64) (57 : Int64)) (fun (r_35 : Int32) => (if r_35 = 0 then K83_12 x2_30 x3_31 P0_32 else (if (5 : Int32) ≤ x2_30 then K83_12 x2_30 x3_31 P0_32 else mb_chk (P0_32 0 32) 300 (mb_let ((((10 : Int32) * x3_31) + (P0_32 13 (P0_32 0 32).toNatClampNeg)) - (48 : Int32)) (fun (x3_37 : Int32) => mb_let (x2_30 + (1 : Int32)) (fun (x2_38 : Int32) => mb_let (mb_uo P0_32 32 ((P0_32 0 32) + (1 : Int32))) (fun (P0_39 : PI) => self_33 x2_38 x3_37 P0_39)))))))))
def f_Ref_numbers_11 (K83_12 : Int32 → Int32 → PI → Option (Int32 × PI)) : Nat → Int32 → Int32 → PI → Option (Int32 × PI)
  | 0, _, _, _ => none
  | n + 1, x2_30, x3_31, P0_32 => f_Ref_numbers_11_b K83_12 (f_Ref_numbers_11 K83_12 n) x2_30 x3_31 P0_32
def f_Ref_numbers_2_b (self_6 : Int32 → PI → Option (Int32 × PI)) (x1_4 : Int32) (P0_5 : PI) : Option (Int32 × PI) := (if (4 : Int32) ≤ x1_4 then some ((1 : Int32), P0_5) else mb_let (0 : Int32) (fun (x2_7 : Int32) => mb_let (0 : Int32) (fun (x3_8 : Int32) => mb_jn (fun (x2_9 : Int32) (x3_10 : Int32) (P0_11 : PI) => mb_bd1 (f_Ref_in ((x2_9).toInt64) (1 : Int64) (4 : Int64)) (fun (r_14 : Int32) => (if r_14 = 0 then some ((0 : Int32), P0_11) else (if (P0_11 0 32) = (P0_11 0 11) then some ((0 : Int32), P0_11) else mb_chk (P0_11 0 32) 300 (mb_jn (fun (y_16 : Int32) (y_17 : Int32) => (if y_17 = y_16 then mb_chk x1_4 4 (mb_let (mb_u2 P0_11 34 x1_4.toNatClampNeg x3_10) (fun (P0_20 : PI) => mb_let (mb_uo P0_20 32 ((P0_20 0 32) + (1 : Int32))) (fun (P0_22 : PI) => mb_let (x1_4 + (1 : Int32)) (fun (x1_23 : Int32) => self_6 x1_23 P0_22)))) else some ((0 : Int32), P0_11))) (fun J127_18 => (if (3 : Int32) ≤ x1_4 then J127_18 (59 : Int32) (P0_11 13 (P0_11 0 32).toNatClampNeg) else J127_18 (44 : Int32) (P0_11 13 (P0_11 0 32).toNatClampNeg)))))))) (fun K83_12 => f_Ref_numbers_11 K83_12 mb_fu x2_7 x3_8 P0_5))))
def f_Ref_numbers_2 : Nat → Int32 → PI → Option (Int32 × PI)
  | 0, _, _ => none
  | n + 1, x1_4, P0_5 => f_Ref_numbers_2_b  (f_Ref_numbers_2  n) x1_4 P0_5
def f_Ref_numbers (P0 : PI) : Option (Int32 × PI) := mb_let (0 : Int32) (fun (x1_1 : Int32) => f_Ref_numbers_2  mb_fu x1_1 P0)
def rm_Ref_numbers : Room := { frames := 1, cells := 0, slots := 0, locals := 25 }
set_option maxHeartbeats 4000000 in
set_option maxRecDepth 100000 in
theorem c_Ref_numbers (l : Launch) (D : va_G) (k : Nat → ClassId) (sz : Nat) (b0 : Nat → Nat) (P0 : PI) (L0 : PL) (z : Int32 × PI) (hf : f_Ref_numbers P0 = some z) : Met l yX12_numbers wsX12_numbers rm_Ref_numbers (va_Pc [.ref (b0 0)] (gw_pre D vwCl (tyL k) (wC_Ref k b0 P0 L0) sz)) (va_Qi (fun (r : Int32) (_ : Unit) => r = z.1) (gw_b D vwCl (tyL k) (va_A (wC_Ref k b0 P0 L0) sz) (wC_Ref k b0 z.2 L0)) (va_A (wC_Ref k b0 P0 L0) sz)) 0 0 (va_A (wC_Ref k b0 P0 L0) sz) := by
  refine gm_z (cc := cX12_numbers) (maxL := 4) (by decide) rfl (Nat.le_of_ble_eq_true rfl) ?_
  intro p e s m args below meth c A Q ls H locs hx hb hml hown hts hK hN hA hP hD hS hl hret
  have hown : s.vm.findClass RX12 = some m.cls := hown
  have hl : lv_has ls 4 [(0, .ref (b0 0))] := hl
  have iw_Ref : ∀ w ∈ u_ws RX12 TX12 42, w ∈ wsX12_numbers := by decide +kernel
  have fl_35 := hts (.fieldLink RX12 35 "OneMeasureModel" "text" "[I") (by decide +kernel)
  have fl_78 := hts (.fieldLink RX12 78 "OneMeasureModel" "told" "[I") (by decide +kernel)
  have fl_182 := hts (.fieldLink RX12 182 "OneMeasureModel" "length" "I") (by decide +kernel)
  have fl_187 := hts (.fieldLink RX12 187 "OneMeasureModel" "at" "I") (by decide +kernel)
  have lc_157 := hts (.constantLong RX12 157 (4)) (by decide +kernel)
  have lc_190 := hts (.constantLong RX12 190 (48)) (by decide +kernel)
  have lc_192 := hts (.constantLong RX12 192 (57)) (by decide +kernel)
  unfold f_Ref_numbers at hf
  refine lv_iconst (v := 0) hx hb dX12_numbers_0 (by decide) ?_
  obtain ⟨x1_1, e_, hf⟩ := mb_let_s hf
  refine mb_topi e_ ?_
  clear e_
  refine lv_istore_n (lv' := [(1, .int x1_1), (0, .ref (b0 0))]) hx hb dX12_numbers_1 rfl hl (by decide) rfl (fun ls hl => ?_)
  have lp2_2 : ∀ (n : Nat) (x1_4 : Int32) (P0_5 : PI) (H : Heap) (locs : List Loc) (ls : Array Slot), f_Ref_numbers_2  n x1_4 P0_5 = some z → va_P D vwCl (wC_Ref k b0 P0_5 L0) H → va_D A (wC_Ref k b0 P0_5 L0) → va_S A s.heap H locs → lv_has ls 4 [(0, .ref (b0 0)), (1, .int x1_4)] → W p l e rm_Ref_numbers s m args below meth c H locs 0 0 Q (F0 m 2 ls []) := by
    intro n
    induction n with
    | zero =>
      intro x1_4 P0_5 H locs ls hf
      exact nomatch (show (none : Option (Int32 × PI)) = some z from hf)
    | succ n ih_3 =>
      intro x1_4 P0_5 H locs ls hf hP hD hS hl
      have hf : f_Ref_numbers_2_b  (f_Ref_numbers_2  n) x1_4 P0_5 = some z := hf
      unfold f_Ref_numbers_2_b at hf
      refine lv_iload_n hx hb dX12_numbers_2 rfl (lv_at hl 1 rfl) ?_
      refine lv_iconst (v := 4) hx hb dX12_numbers_3 (by decide) ?_
      refine lv_icmp_ge (tgt := 155) hx hb dX12_numbers_4 (by decide) (fun c_43 => ?_) (fun c_43 => ?_)
      · have hf := mb_if_t c_43 hf
        refine lv_iconst (v := 1) hx hb dX12_numbers_155 (by decide) ?_
        have hz := Option.some.inj hf
        subst hz
        exact hret _ _ _ _ mb_n1 dX12_numbers_156 hP hD hS
      · have hf := mb_if_f c_43 hf
        refine lv_iconst (v := 0) hx hb dX12_numbers_7 (by decide) ?_
        obtain ⟨x2_7, e_, hf⟩ := mb_let_s hf
        refine mb_topi e_ ?_
        clear e_
        refine lv_istore_n (lv' := [(2, .int x2_7), (0, .ref (b0 0)), (1, .int x1_4)]) hx hb dX12_numbers_8 rfl hl (by decide) rfl (fun ls hl => ?_)
        refine lv_iconst (v := 0) hx hb dX12_numbers_9 (by decide) ?_
        obtain ⟨x3_8, e_, hf⟩ := mb_let_s hf
        refine mb_topi e_ ?_
        clear e_
        refine lv_istore_n (lv' := [(3, .int x3_8), (2, .int x2_7), (0, .ref (b0 0)), (1, .int x1_4)]) hx hb dX12_numbers_10 rfl hl (by decide) rfl (fun ls hl => ?_)
        obtain ⟨K83_12, eK83_12, hf⟩ := mb_jn_s hf
        have k83_13 : ∀ (x2_9 : Int32) (x3_10 : Int32) (P0_11 : PI) (H : Heap) (locs : List Loc) (ls : Array Slot), K83_12 x2_9 x3_10 P0_11 = some z → va_P D vwCl (wC_Ref k b0 P0_11 L0) H → va_D A (wC_Ref k b0 P0_11 L0) → va_S A s.heap H locs → lv_has ls 4 [(0, .ref (b0 0)), (1, .int x1_4), (2, .int x2_9), (3, .int x3_10)] → W p l e rm_Ref_numbers s m args below meth c H locs 0 0 Q (F0 m 83 ls []) := by
          intro x2_9 x3_10 P0_11 H locs ls hf hP hD hS hl
          have hf := mb_j3 eK83_12 hf
          refine lv_iload_n hx hb dX12_numbers_83 rfl (lv_at hl 2 rfl) ?_
          refine lv_i2l hx hb dX12_numbers_84 rfl ?_
          refine lv_lconst (v := 1) hx hb dX12_numbers_85 (by decide) ?_
          refine lv_ldc2 (v := (4)) hx hb hown lc_157 dX12_numbers_86 ?_
          obtain ⟨r_14, hz, hf⟩ := mb_bd1_s hf
          refine gc_i (r0 := r_14) (ws' := (wC_Ref k b0 P0_11 L0)) (wr := (wC_Ref k b0 P0_11 L0)) (va_runS (As := [.long (x2_9).toInt64, .long (1 : Int64), .long (4 : Int64)]) (rest := []) ⟨hx, hb, hml, hown, hts⟩ (c_Ref_in l D k H.size ((x2_9).toInt64) (1 : Int64) (4 : Int64) r_14 hz) (cwS 3 hts gX12_numbers_X12_in rfl rfl rfl (by decide +kernel) ⟨Nat.le_of_ble_eq_true rfl, Nat.le_of_ble_eq_true rfl⟩) (gp_S hP hD hK hN [] (by decide +kernel) rfl) rfl rfl hl.1 rfl (lv_room (Nat.le_of_ble_eq_true rfl)) dX12_numbers_89 ⟨Nat.zero_le _, Nat.zero_le _⟩) hP hD hS hA [] [0, 1, 2, 3, 4, 5, 6, 7, 8, 9, 10, 11, 12, 13, 14, 15, 16, 17, 18, 19, 20, 21, 22, 23, 24, 25] rfl rfl (by decide +kernel) (by decide +kernel) [0, 1, 2, 3, 4, 5, 6, 7, 8, 9, 10, 11, 12, 13, 14, 15, 16, 17, 18, 19, 20, 21, 22, 23, 24, 25] (by decide +kernel) rfl (fun H locs hP hD hS => ?_)
          clear hz
          refine lv_if_eq (tgt := 130) hx hb dX12_numbers_92 (by decide) (fun c_27 => ?_) (fun c_27 => ?_)
          · have hf := mb_if_t c_27 hf
            refine lv_iconst (v := 0) hx hb dX12_numbers_130 (by decide) ?_
            have hz := Option.some.inj hf
            subst hz
            exact hret _ _ _ _ mb_n0 dX12_numbers_131 hP hD hS
          · have hf := mb_if_f c_27 hf
            refine lv_aload_n hx hb dX12_numbers_95 rfl (lv_at hl 0 rfl) ?_
            refine va_get (D := D) (ci := 12) (v := .int (P0_11 0 32)) (C := RX12) (T := TX12) (N := 42) hx hb hts iw_Ref hown hK hP 0 rfl rfl 32 (by decide) fl_187 (fun _ h9 => h9) rfl dX12_numbers_96 ?_
            refine lv_aload_n hx hb dX12_numbers_99 rfl (lv_at hl 0 rfl) ?_
            refine va_get (D := D) (ci := 12) (v := .int (P0_11 0 11)) (C := RX12) (T := TX12) (N := 42) hx hb hts iw_Ref hown hK hP 0 rfl rfl 11 (by decide) fl_182 (fun _ h9 => h9) rfl dX12_numbers_100 ?_
            refine lv_icmp_eq (tgt := 130) hx hb dX12_numbers_103 (by decide) (fun c_26 => ?_) (fun c_26 => ?_)
            · have hf := mb_if_t c_26 hf
              refine lv_iconst (v := 0) hx hb dX12_numbers_130 (by decide) ?_
              have hz := Option.some.inj hf
              subst hz
              exact hret _ _ _ _ mb_n0 dX12_numbers_131 hP hD hS
            · have hf := mb_if_f c_26 hf
              refine lv_aload_n hx hb dX12_numbers_106 rfl (lv_at hl 0 rfl) ?_
              refine va_get (D := D) (ci := 12) (v := .ref (b0 13)) (C := RX12) (T := TX12) (N := 42) hx hb hts iw_Ref hown hK hP 0 rfl rfl 12 (by decide) fl_35 (fun _ h9 => h9) rfl dX12_numbers_107 ?_
              refine lv_aload_n hx hb dX12_numbers_110 rfl (lv_at hl 0 rfl) ?_
              refine va_get (D := D) (ci := 12) (v := .int (P0_11 0 32)) (C := RX12) (T := TX12) (N := 42) hx hb hts iw_Ref hown hK hP 0 rfl rfl 32 (by decide) fl_187 (fun _ h9 => h9) rfl dX12_numbers_111 ?_
              obtain ⟨h_15, hf⟩ := mb_chk_s hf
              refine va_iald hx hb hK hP 9 0 rfl rfl h_15 dX12_numbers_114 ?_
              refine lv_iload_n hx hb dX12_numbers_115 rfl (lv_at hl 1 rfl) ?_
              refine lv_iconst (v := 3) hx hb dX12_numbers_116 (by decide) ?_
              obtain ⟨J127_18, eJ127_18, hf⟩ := mb_jn_s hf
              have j127_19 : ∀ (y_16 : Int32) (y_17 : Int32) (H : Heap) (locs : List Loc) (ls : Array Slot), J127_18 y_16 y_17 = some z → va_P D vwCl (wC_Ref k b0 P0_11 L0) H → va_D A (wC_Ref k b0 P0_11 L0) → va_S A s.heap H locs → lv_has ls 4 [(0, .ref (b0 0)), (1, .int x1_4), (3, .int x3_10)] → W p l e rm_Ref_numbers s m args below meth c H locs 0 0 Q (F0 m 127 ls [.int y_16, .int y_17]) := by
                intro y_16 y_17 H locs ls hf hP hD hS hl
                have hf := mb_j2 eJ127_18 hf
                refine lv_icmp_eq (tgt := 132) hx hb dX12_numbers_127 (by decide) (fun c_24 => ?_) (fun c_24 => ?_)
                · have hf := mb_if_t c_24 hf
                  refine lv_aload_n hx hb dX12_numbers_132 rfl (lv_at hl 0 rfl) ?_
                  refine va_get (D := D) (ci := 12) (v := .ref (b0 34)) (C := RX12) (T := TX12) (N := 42) hx hb hts iw_Ref hown hK hP 0 rfl rfl 33 (by decide) fl_78 (fun _ h9 => h9) rfl dX12_numbers_133 ?_
                  refine lv_iload_n hx hb dX12_numbers_136 rfl (lv_at hl 1 rfl) ?_
                  refine lv_iload_n hx hb dX12_numbers_137 rfl (lv_at hl 2 rfl) ?_
                  obtain ⟨h_21, hf⟩ := mb_chk_s hf
                  obtain ⟨P0_20, e_, hf⟩ := mb_let_s hf
                  refine va_iast hx hb hK hP hD hS 22 0 rfl rfl h_21 dX12_numbers_138 (fun H locs hP hD hS => ?_)
                  have hP : va_P D vwCl (wC_Ref k b0 P0_20 L0) H := by rw [e_]; exact hP
                  have hD : va_D A (wC_Ref k b0 P0_20 L0) := by rw [e_]; exact hD
                  clear e_
                  refine lv_aload_n hx hb dX12_numbers_139 rfl (lv_at hl 0 rfl) ?_
                  refine lv_dup hx hb dX12_numbers_140 rfl ?_
                  refine va_get (D := D) (ci := 12) (v := .int (P0_20 0 32)) (C := RX12) (T := TX12) (N := 42) hx hb hts iw_Ref hown hK hP 0 rfl rfl 32 (by decide) fl_187 (fun _ h9 => h9) rfl dX12_numbers_141 ?_
                  refine lv_iconst (v := 1) hx hb dX12_numbers_144 (by decide) ?_
                  refine lv_iadd hx hb dX12_numbers_145 ?_
                  obtain ⟨P0_22, e_, hf⟩ := mb_let_s hf
                  refine va_put (D := D) (ci := 12) (v := .int ((P0_20 0 32) + (1 : Int32))) (ty := .int) (C := RX12) (T := TX12) (N := 42) hx hb hts iw_Ref tyX12 tyX12_ok nmX12 hown hK hP hD hS 0 rfl rfl 32 (by decide) fl_187 (fun _ h9 => h9) rfl (by decide +kernel) rfl rfl (Nat.le_of_ble_eq_true rfl) dX12_numbers_146 (fun H locs hP hD hS => ?_)
                  have hP : va_P D vwCl (wC_Ref k b0 P0_22 L0) H := by rw [e_]; exact hP
                  have hD : va_D A (wC_Ref k b0 P0_22 L0) := by rw [e_]; exact hD
                  clear e_
                  obtain ⟨x1_23, e_, hf⟩ := mb_let_s hf
                  refine lv_iinc (v := x1_23) (lv' := [(1, .int x1_23), (0, .ref (b0 0)), (3, .int x3_10)]) hx hb dX12_numbers_149 hl (k := 1) rfl (by rw [e_]; rfl) (by decide) rfl (fun ls hl => ?_)
                  clear e_
                  refine lv_goto (tgt := 2) hx hb dX12_numbers_152 (by decide) ?_
                  exact ih_3 x1_23 P0_22 _ _ _ hf hP hD hS (lv_sub hl [1, 0] rfl)
                · have hf := mb_if_f c_24 hf
                  refine lv_iconst (v := 0) hx hb dX12_numbers_130 (by decide) ?_
                  have hz := Option.some.inj hf
                  subst hz
                  exact hret _ _ _ _ mb_n0 dX12_numbers_131 hP hD hS
              refine lv_icmp_ge (tgt := 125) hx hb dX12_numbers_117 (by decide) (fun c_25 => ?_) (fun c_25 => ?_)
              · have hf := mb_if_t c_25 hf
                refine lv_bipush (v := 59) hx hb dX12_numbers_125 (by decide) ?_
                exact j127_19 (59 : Int32) (P0_11 13 (P0_11 0 32).toNatClampNeg) _ _ _ hf hP hD hS (lv_sub hl [0, 1, 3] rfl)
              · have hf := mb_if_f c_25 hf
                refine lv_bipush (v := 44) hx hb dX12_numbers_120 (by decide) ?_
                refine lv_goto (tgt := 127) hx hb dX12_numbers_122 (by decide) ?_
                exact j127_19 (44 : Int32) (P0_11 13 (P0_11 0 32).toNatClampNeg) _ _ _ hf hP hD hS (lv_sub hl [0, 1, 3] rfl)
        have lp11_28 : ∀ (n : Nat) (x2_30 : Int32) (x3_31 : Int32) (P0_32 : PI) (H : Heap) (locs : List Loc) (ls : Array Slot), f_Ref_numbers_11 K83_12 n x2_30 x3_31 P0_32 = some z → va_P D vwCl (wC_Ref k b0 P0_32 L0) H → va_D A (wC_Ref k b0 P0_32 L0) → va_S A s.heap H locs → lv_has ls 4 [(0, .ref (b0 0)), (1, .int x1_4), (2, .int x2_30), (3, .int x3_31)] → W p l e rm_Ref_numbers s m args below meth c H locs 0 0 Q (F0 m 11 ls []) := by
          intro n
          induction n with
          | zero =>
            intro x2_30 x3_31 P0_32 H locs ls hf
            exact nomatch (show (none : Option (Int32 × PI)) = some z from hf)
          | succ n ih_29 =>
            intro x2_30 x3_31 P0_32 H locs ls hf hP hD hS hl
            have hf : f_Ref_numbers_11_b K83_12 (f_Ref_numbers_11 K83_12 n) x2_30 x3_31 P0_32 = some z := hf
            unfold f_Ref_numbers_11_b at hf
            refine lv_aload_n hx hb dX12_numbers_11 rfl (lv_at hl 0 rfl) ?_
            refine va_get (D := D) (ci := 12) (v := .int (P0_32 0 32)) (C := RX12) (T := TX12) (N := 42) hx hb hts iw_Ref hown hK hP 0 rfl rfl 32 (by decide) fl_187 (fun _ h9 => h9) rfl dX12_numbers_12 ?_
            refine lv_aload_n hx hb dX12_numbers_15 rfl (lv_at hl 0 rfl) ?_
            refine va_get (D := D) (ci := 12) (v := .int (P0_32 0 11)) (C := RX12) (T := TX12) (N := 42) hx hb hts iw_Ref hown hK hP 0 rfl rfl 11 (by decide) fl_182 (fun _ h9 => h9) rfl dX12_numbers_16 ?_
            refine lv_icmp_ge (tgt := 83) hx hb dX12_numbers_19 (by decide) (fun c_42 => ?_) (fun c_42 => ?_)
            · have hf := mb_if_t c_42 hf
              exact k83_13 x2_30 x3_31 P0_32 _ _ _ hf hP hD hS (lv_sub hl [0, 1, 2, 3] rfl)
            · have hf := mb_if_f c_42 hf
              refine lv_aload_n hx hb dX12_numbers_22 rfl (lv_at hl 0 rfl) ?_
              refine va_get (D := D) (ci := 12) (v := .ref (b0 13)) (C := RX12) (T := TX12) (N := 42) hx hb hts iw_Ref hown hK hP 0 rfl rfl 12 (by decide) fl_35 (fun _ h9 => h9) rfl dX12_numbers_23 ?_
              refine lv_aload_n hx hb dX12_numbers_26 rfl (lv_at hl 0 rfl) ?_
              refine va_get (D := D) (ci := 12) (v := .int (P0_32 0 32)) (C := RX12) (T := TX12) (N := 42) hx hb hts iw_Ref hown hK hP 0 rfl rfl 32 (by decide) fl_187 (fun _ h9 => h9) rfl dX12_numbers_27 ?_
              obtain ⟨h_34, hf⟩ := mb_chk_s hf
              refine va_iald hx hb hK hP 9 0 rfl rfl h_34 dX12_numbers_30 ?_
              refine lv_i2l hx hb dX12_numbers_31 rfl ?_
              refine lv_ldc2 (v := (48)) hx hb hown lc_190 dX12_numbers_32 ?_
              refine lv_ldc2 (v := (57)) hx hb hown lc_192 dX12_numbers_35 ?_
              obtain ⟨r_35, hz, hf⟩ := mb_bd1_s hf
              refine gc_i (r0 := r_35) (ws' := (wC_Ref k b0 P0_32 L0)) (wr := (wC_Ref k b0 P0_32 L0)) (va_runS (As := [.long ((P0_32 13 (P0_32 0 32).toNatClampNeg)).toInt64, .long (48 : Int64), .long (57 : Int64)]) (rest := []) ⟨hx, hb, hml, hown, hts⟩ (c_Ref_in l D k H.size (((P0_32 13 (P0_32 0 32).toNatClampNeg)).toInt64) (48 : Int64) (57 : Int64) r_35 hz) (cwS 3 hts gX12_numbers_X12_in rfl rfl rfl (by decide +kernel) ⟨Nat.le_of_ble_eq_true rfl, Nat.le_of_ble_eq_true rfl⟩) (gp_S hP hD hK hN [] (by decide +kernel) rfl) rfl rfl hl.1 rfl (lv_room (Nat.le_of_ble_eq_true rfl)) dX12_numbers_38 ⟨Nat.zero_le _, Nat.zero_le _⟩) hP hD hS hA [] [0, 1, 2, 3, 4, 5, 6, 7, 8, 9, 10, 11, 12, 13, 14, 15, 16, 17, 18, 19, 20, 21, 22, 23, 24, 25] rfl rfl (by decide +kernel) (by decide +kernel) [0, 1, 2, 3, 4, 5, 6, 7, 8, 9, 10, 11, 12, 13, 14, 15, 16, 17, 18, 19, 20, 21, 22, 23, 24, 25] (by decide +kernel) rfl (fun H locs hP hD hS => ?_)
              clear hz
              refine lv_if_eq (tgt := 83) hx hb dX12_numbers_41 (by decide) (fun c_41 => ?_) (fun c_41 => ?_)
              · have hf := mb_if_t c_41 hf
                exact k83_13 x2_30 x3_31 P0_32 _ _ _ hf hP hD hS (lv_sub hl [0, 1, 2, 3] rfl)
              · have hf := mb_if_f c_41 hf
                refine lv_iload_n hx hb dX12_numbers_44 rfl (lv_at hl 2 rfl) ?_
                refine lv_iconst (v := 5) hx hb dX12_numbers_45 (by decide) ?_
                refine lv_icmp_ge (tgt := 83) hx hb dX12_numbers_46 (by decide) (fun c_40 => ?_) (fun c_40 => ?_)
                · have hf := mb_if_t c_40 hf
                  exact k83_13 x2_30 x3_31 P0_32 _ _ _ hf hP hD hS (lv_sub hl [0, 1, 2, 3] rfl)
                · have hf := mb_if_f c_40 hf
                  refine lv_bipush (v := 10) hx hb dX12_numbers_49 (by decide) ?_
                  refine lv_iload_n hx hb dX12_numbers_51 rfl (lv_at hl 3 rfl) ?_
                  refine lv_imul hx hb dX12_numbers_52 ?_
                  refine lv_aload_n hx hb dX12_numbers_53 rfl (lv_at hl 0 rfl) ?_
                  refine va_get (D := D) (ci := 12) (v := .ref (b0 13)) (C := RX12) (T := TX12) (N := 42) hx hb hts iw_Ref hown hK hP 0 rfl rfl 12 (by decide) fl_35 (fun _ h9 => h9) rfl dX12_numbers_54 ?_
                  refine lv_aload_n hx hb dX12_numbers_57 rfl (lv_at hl 0 rfl) ?_
                  refine va_get (D := D) (ci := 12) (v := .int (P0_32 0 32)) (C := RX12) (T := TX12) (N := 42) hx hb hts iw_Ref hown hK hP 0 rfl rfl 32 (by decide) fl_187 (fun _ h9 => h9) rfl dX12_numbers_58 ?_
                  obtain ⟨h_36, hf⟩ := mb_chk_s hf
                  refine va_iald hx hb hK hP 9 0 rfl rfl h_36 dX12_numbers_61 ?_
                  refine lv_iadd hx hb dX12_numbers_62 ?_
                  refine lv_bipush (v := 48) hx hb dX12_numbers_63 (by decide) ?_
                  refine lv_isub hx hb dX12_numbers_65 ?_
                  obtain ⟨x3_37, e_, hf⟩ := mb_let_s hf
                  refine mb_topi e_ ?_
                  clear e_
                  refine lv_istore_n (lv' := [(3, .int x3_37), (0, .ref (b0 0)), (1, .int x1_4), (2, .int x2_30)]) hx hb dX12_numbers_66 rfl hl (by decide) rfl (fun ls hl => ?_)
                  obtain ⟨x2_38, e_, hf⟩ := mb_let_s hf
                  refine lv_iinc (v := x2_38) (lv' := [(2, .int x2_38), (3, .int x3_37), (0, .ref (b0 0)), (1, .int x1_4)]) hx hb dX12_numbers_67 hl (k := 3) rfl (by rw [e_]; rfl) (by decide) rfl (fun ls hl => ?_)
                  clear e_
                  refine lv_aload_n hx hb dX12_numbers_70 rfl (lv_at hl 2 rfl) ?_
                  refine lv_dup hx hb dX12_numbers_71 rfl ?_
                  refine va_get (D := D) (ci := 12) (v := .int (P0_32 0 32)) (C := RX12) (T := TX12) (N := 42) hx hb hts iw_Ref hown hK hP 0 rfl rfl 32 (by decide) fl_187 (fun _ h9 => h9) rfl dX12_numbers_72 ?_
                  refine lv_iconst (v := 1) hx hb dX12_numbers_75 (by decide) ?_
                  refine lv_iadd hx hb dX12_numbers_76 ?_
                  obtain ⟨P0_39, e_, hf⟩ := mb_let_s hf
                  refine va_put (D := D) (ci := 12) (v := .int ((P0_32 0 32) + (1 : Int32))) (ty := .int) (C := RX12) (T := TX12) (N := 42) hx hb hts iw_Ref tyX12 tyX12_ok nmX12 hown hK hP hD hS 0 rfl rfl 32 (by decide) fl_187 (fun _ h9 => h9) rfl (by decide +kernel) rfl rfl (Nat.le_of_ble_eq_true rfl) dX12_numbers_77 (fun H locs hP hD hS => ?_)
                  have hP : va_P D vwCl (wC_Ref k b0 P0_39 L0) H := by rw [e_]; exact hP
                  have hD : va_D A (wC_Ref k b0 P0_39 L0) := by rw [e_]; exact hD
                  clear e_
                  refine lv_goto (tgt := 11) hx hb dX12_numbers_80 (by decide) ?_
                  exact ih_29 x2_38 x3_37 P0_39 _ _ _ hf hP hD hS (lv_sub hl [2, 3, 0, 1] rfl)
        exact lp11_28 mb_fu x2_7 x3_8 P0_5 _ _ _ hf hP hD hS (lv_sub hl [2, 3, 1, 0] rfl)
  exact lp2_2 mb_fu x1_1 P0 _ _ _ hf hP hD hS (lv_sub hl [1, 0] rfl)
def f_Ref_item (P0 : PI) : Option (Int32 × PI) := mb_chk (P0 0 32) 300 (mb_let (P0 13 (P0 0 32).toNatClampNeg) (fun (x1_2 : Int32) => mb_let (mb_uo P0 32 ((P0 0 32) + (1 : Int32))) (fun (P0_3 : PI) => mb_bd2 (f_Ref_numbers P0_3) (fun (r_4 : Int32) (P0_5 : PI) => (if r_4 = 0 then some ((0 : Int32), P0_5) else (if x1_2 = (97 : Int32) then mb_chk (0 : Int32) 4 (mb_bd1 (f_Ref_in (((P0_5 34 (0 : Int32).toNatClampNeg)).toInt64) (0 : Int64) (15 : Int64)) (fun (r_7 : Int32) => (if r_7 = 0 then some ((0 : Int32), P0_5) else mb_chk (1 : Int32) 4 (mb_bd1 (f_Ref_in (((P0_5 34 (1 : Int32).toNatClampNeg)).toInt64) (0 : Int64) (5 : Int64)) (fun (r_9 : Int32) => (if r_9 = 0 then some ((0 : Int32), P0_5) else mb_chk (2 : Int32) 4 (mb_chk (3 : Int32) 4 ((if (P0_5 34 (3 : Int32).toNatClampNeg) < (P0_5 34 (2 : Int32).toNatClampNeg) then some ((0 : Int32), P0_5) else some ((1 : Int32), P0_5)))))))))) else (if x1_2 = (98 : Int32) then mb_chk (0 : Int32) 4 (mb_bd1 (f_Ref_in (((P0_5 34 (0 : Int32).toNatClampNeg)).toInt64) (0 : Int64) (15 : Int64)) (fun (r_16 : Int32) => (if r_16 = 0 then some ((0 : Int32), P0_5) else mb_chk (1 : Int32) 4 (mb_bd1 (f_Ref_in (((P0_5 34 (1 : Int32).toNatClampNeg)).toInt64) (0 : Int64) (5 : Int64)) (fun (r_18 : Int32) => (if r_18 = 0 then some ((0 : Int32), P0_5) else mb_chk (2 : Int32) 4 (mb_chk (3 : Int32) 4 ((if (P0_5 34 (3 : Int32).toNatClampNeg) < (P0_5 34 (2 : Int32).toNatClampNeg) then some ((0 : Int32), P0_5) else some ((1 : Int32), P0_5)))))))))) else (if x1_2 = (104 : Int32) then mb_chk (0 : Int32) 4 (mb_bd1 (f_Ref_in (((P0_5 34 (0 : Int32).toNatClampNeg)).toInt64) (0 : Int64) (5 : Int64)) (fun (r_25 : Int32) => (if r_25 = 0 then some ((0 : Int32), P0_5) else mb_chk (1 : Int32) 4 (mb_bd1 (f_Ref_in (((P0_5 34 (1 : Int32).toNatClampNeg)).toInt64) (0 : Int64) (1 : Int64)) (fun (r_27 : Int32) => (if r_27 = 0 then some ((0 : Int32), P0_5) else mb_chk (2 : Int32) 4 (mb_chk (3 : Int32) 4 ((if (P0_5 34 (3 : Int32).toNatClampNeg) < (P0_5 34 (2 : Int32).toNatClampNeg) then some ((0 : Int32), P0_5) else some ((1 : Int32), P0_5)))))))))) else (if x1_2 = (110 : Int32) then mb_chk (0 : Int32) 4 (mb_bd1 (f_Ref_in (((P0_5 34 (0 : Int32).toNatClampNeg)).toInt64) (0 : Int64) (9 : Int64)) (fun (r_34 : Int32) => (if r_34 = 0 then some ((0 : Int32), P0_5) else mb_chk (1 : Int32) 4 (mb_bd1 (f_Ref_in (((P0_5 34 (1 : Int32).toNatClampNeg)).toInt64) (0 : Int64) (15 : Int64)) (fun (r_36 : Int32) => (if r_36 = 0 then some ((0 : Int32), P0_5) else mb_chk (2 : Int32) 4 (mb_bd1 (f_Ref_in (((P0_5 34 (2 : Int32).toNatClampNeg)).toInt64) (0 : Int64) (5 : Int64)) (fun (r_38 : Int32) => (if r_38 = 0 then some ((0 : Int32), P0_5) else some ((1 : Int32), P0_5)))))))))) else some ((0 : Int32), P0_5))))))))))
def rm_Ref_item : Room := { frames := 2, cells := 0, slots := 0, locals := 48 }
set_option maxHeartbeats 4000000 in
set_option maxRecDepth 100000 in
theorem c_Ref_item (l : Launch) (D : va_G) (k : Nat → ClassId) (sz : Nat) (b0 : Nat → Nat) (P0 : PI) (L0 : PL) (z : Int32 × PI) (hf : f_Ref_item P0 = some z) : Met l yX12_item wsX12_item rm_Ref_item (va_Pc [.ref (b0 0)] (gw_pre D vwCl (tyL k) (wC_Ref k b0 P0 L0) sz)) (va_Qi (fun (r : Int32) (_ : Unit) => r = z.1) (gw_b D vwCl (tyL k) (va_A (wC_Ref k b0 P0 L0) sz) (wC_Ref k b0 z.2 L0)) (va_A (wC_Ref k b0 P0 L0) sz)) 0 0 (va_A (wC_Ref k b0 P0 L0) sz) := by
  refine gm_z (cc := cX12_item) (maxL := 2) (by decide) rfl (Nat.le_of_ble_eq_true rfl) ?_
  intro p e s m args below meth c A Q ls H locs hx hb hml hown hts hK hN hA hP hD hS hl hret
  have hown : s.vm.findClass RX12 = some m.cls := hown
  have hl : lv_has ls 2 [(0, .ref (b0 0))] := hl
  have iw_Ref : ∀ w ∈ u_ws RX12 TX12 42, w ∈ wsX12_item := by decide +kernel
  have fl_35 := hts (.fieldLink RX12 35 "OneMeasureModel" "text" "[I") (by decide +kernel)
  have fl_78 := hts (.fieldLink RX12 78 "OneMeasureModel" "told" "[I") (by decide +kernel)
  have fl_187 := hts (.fieldLink RX12 187 "OneMeasureModel" "at" "I") (by decide +kernel)
  have lc_198 := hts (.constantLong RX12 198 (15)) (by decide +kernel)
  have lc_200 := hts (.constantLong RX12 200 (5)) (by decide +kernel)
  have lc_202 := hts (.constantLong RX12 202 (9)) (by decide +kernel)
  unfold f_Ref_item at hf
  refine lv_aload_n hx hb dX12_item_0 rfl (lv_at hl 0 rfl) ?_
  refine va_get (D := D) (ci := 12) (v := .ref (b0 13)) (C := RX12) (T := TX12) (N := 42) hx hb hts iw_Ref hown hK hP 0 rfl rfl 12 (by decide) fl_35 (fun _ h9 => h9) rfl dX12_item_1 ?_
  refine lv_aload_n hx hb dX12_item_4 rfl (lv_at hl 0 rfl) ?_
  refine va_get (D := D) (ci := 12) (v := .int (P0 0 32)) (C := RX12) (T := TX12) (N := 42) hx hb hts iw_Ref hown hK hP 0 rfl rfl 32 (by decide) fl_187 (fun _ h9 => h9) rfl dX12_item_5 ?_
  obtain ⟨h_1, hf⟩ := mb_chk_s hf
  refine va_iald hx hb hK hP 9 0 rfl rfl h_1 dX12_item_8 ?_
  obtain ⟨x1_2, e_, hf⟩ := mb_let_s hf
  refine mb_topi e_ ?_
  clear e_
  refine lv_istore_n (lv' := [(1, .int x1_2), (0, .ref (b0 0))]) hx hb dX12_item_9 rfl hl (by decide) rfl (fun ls hl => ?_)
  refine lv_aload_n hx hb dX12_item_10 rfl (lv_at hl 1 rfl) ?_
  refine lv_dup hx hb dX12_item_11 rfl ?_
  refine va_get (D := D) (ci := 12) (v := .int (P0 0 32)) (C := RX12) (T := TX12) (N := 42) hx hb hts iw_Ref hown hK hP 0 rfl rfl 32 (by decide) fl_187 (fun _ h9 => h9) rfl dX12_item_12 ?_
  refine lv_iconst (v := 1) hx hb dX12_item_15 (by decide) ?_
  refine lv_iadd hx hb dX12_item_16 ?_
  obtain ⟨P0_3, e_, hf⟩ := mb_let_s hf
  refine va_put (D := D) (ci := 12) (v := .int ((P0 0 32) + (1 : Int32))) (ty := .int) (C := RX12) (T := TX12) (N := 42) hx hb hts iw_Ref tyX12 tyX12_ok nmX12 hown hK hP hD hS 0 rfl rfl 32 (by decide) fl_187 (fun _ h9 => h9) rfl (by decide +kernel) rfl rfl (Nat.le_of_ble_eq_true rfl) dX12_item_17 (fun H locs hP hD hS => ?_)
  have hP : va_P D vwCl (wC_Ref k b0 P0_3 L0) H := by rw [e_]; exact hP
  have hD : va_D A (wC_Ref k b0 P0_3 L0) := by rw [e_]; exact hD
  clear e_
  refine lv_aload_n hx hb dX12_item_20 rfl (lv_at hl 1 rfl) ?_
  obtain ⟨r_4, P0_5, hz, hf⟩ := mb_bd2_s hf
  refine gc_i (r0 := r_4) (ws' := (wC_Ref k b0 P0_5 L0)) (wr := ([] : va_W)) (va_runV (As := []) (rest := []) ⟨hx, hb, hml, hown, hts⟩ (c_Ref_numbers l D k H.size b0 P0_3 L0 (r_4, P0_5) hz) (cwV 0 hts gX12_item_X12_numbers rfl rfl rfl (by decide +kernel) ⟨Nat.le_of_ble_eq_true rfl, Nat.le_of_ble_eq_true rfl⟩) (gp_V (ci := 12) (q0 := 0) (q := (RX12, TX12, 42)) hP hD hK hN [0, 1, 2, 3, 4, 5, 6, 7, 8, 9, 10, 11, 12, 13, 14, 15, 16, 17, 18, 19, 20, 21, 22, 23, 24, 25] (by decide +kernel) rfl rfl rfl) rfl rfl hl.1 rfl (lv_room (Nat.le_of_ble_eq_true rfl)) dX12_item_21 ⟨Nat.zero_le _, Nat.zero_le _⟩) hP hD hS hA [0, 1, 2, 3, 4, 5, 6, 7, 8, 9, 10, 11, 12, 13, 14, 15, 16, 17, 18, 19, 20, 21, 22, 23, 24, 25] [] rfl rfl (by decide +kernel) (by decide +kernel) [0, 1, 2, 3, 4, 5, 6, 7, 8, 9, 10, 11, 12, 13, 14, 15, 16, 17, 18, 19, 20, 21, 22, 23, 24, 25] (by decide +kernel) rfl (fun H locs hP hD hS => ?_)
  clear hz
  refine lv_if_ne (tgt := 29) hx hb dX12_item_24 (by decide) (fun c_46 => ?_) (fun c_46 => ?_)
  · have hf := mb_if_f c_46 hf
    refine lv_iload_n hx hb dX12_item_29 rfl (lv_at hl 0 rfl) ?_
    by_cases c_42 : x1_2 = (97 : Int32)
    · have hf := mb_if_t c_42 hf
      refine lv_lookup (tgt := 72) hx hb dX12_item_30 (by decide) (by rw [c_42]; try rfl) (by decide) ?_
      refine lv_aload_n hx hb dX12_item_72 rfl (lv_at hl 1 rfl) ?_
      refine va_get (D := D) (ci := 12) (v := .ref (b0 34)) (C := RX12) (T := TX12) (N := 42) hx hb hts iw_Ref hown hK hP 0 rfl rfl 33 (by decide) fl_78 (fun _ h9 => h9) rfl dX12_item_73 ?_
      refine lv_iconst (v := 0) hx hb dX12_item_76 (by decide) ?_
      obtain ⟨h_6, hf⟩ := mb_chk_s hf
      refine va_iald hx hb hK hP 22 0 rfl rfl h_6 dX12_item_77 ?_
      refine lv_i2l hx hb dX12_item_78 rfl ?_
      refine lv_lconst (v := 0) hx hb dX12_item_79 (by decide) ?_
      refine lv_ldc2 (v := (15)) hx hb hown lc_198 dX12_item_80 ?_
      obtain ⟨r_7, hz, hf⟩ := mb_bd1_s hf
      refine gc_i (r0 := r_7) (ws' := (wC_Ref k b0 P0_5 L0)) (wr := (wC_Ref k b0 P0_5 L0)) (va_runS (As := [.long ((P0_5 34 (0 : Int32).toNatClampNeg)).toInt64, .long (0 : Int64), .long (15 : Int64)]) (rest := []) ⟨hx, hb, hml, hown, hts⟩ (c_Ref_in l D k H.size (((P0_5 34 (0 : Int32).toNatClampNeg)).toInt64) (0 : Int64) (15 : Int64) r_7 hz) (cwS 3 hts gX12_item_X12_in rfl rfl rfl (by decide +kernel) ⟨Nat.le_of_ble_eq_true rfl, Nat.le_of_ble_eq_true rfl⟩) (gp_S hP hD hK hN [] (by decide +kernel) rfl) rfl rfl hl.1 rfl (lv_room (Nat.le_of_ble_eq_true rfl)) dX12_item_83 ⟨Nat.zero_le _, Nat.zero_le _⟩) hP hD hS hA [] [0, 1, 2, 3, 4, 5, 6, 7, 8, 9, 10, 11, 12, 13, 14, 15, 16, 17, 18, 19, 20, 21, 22, 23, 24, 25] rfl rfl (by decide +kernel) (by decide +kernel) [0, 1, 2, 3, 4, 5, 6, 7, 8, 9, 10, 11, 12, 13, 14, 15, 16, 17, 18, 19, 20, 21, 22, 23, 24, 25] (by decide +kernel) rfl (fun H locs hP hD hS => ?_)
      clear hz
      refine lv_if_eq (tgt := 125) hx hb dX12_item_86 (by decide) (fun c_14 => ?_) (fun c_14 => ?_)
      · have hf := mb_if_t c_14 hf
        refine lv_iconst (v := 0) hx hb dX12_item_125 (by decide) ?_
        have hz := Option.some.inj hf
        subst hz
        exact hret _ _ _ _ mb_n0 dX12_item_126 hP hD hS
      · have hf := mb_if_f c_14 hf
        refine lv_aload_n hx hb dX12_item_89 rfl (lv_at hl 1 rfl) ?_
        refine va_get (D := D) (ci := 12) (v := .ref (b0 34)) (C := RX12) (T := TX12) (N := 42) hx hb hts iw_Ref hown hK hP 0 rfl rfl 33 (by decide) fl_78 (fun _ h9 => h9) rfl dX12_item_90 ?_
        refine lv_iconst (v := 1) hx hb dX12_item_93 (by decide) ?_
        obtain ⟨h_8, hf⟩ := mb_chk_s hf
        refine va_iald hx hb hK hP 22 0 rfl rfl h_8 dX12_item_94 ?_
        refine lv_i2l hx hb dX12_item_95 rfl ?_
        refine lv_lconst (v := 0) hx hb dX12_item_96 (by decide) ?_
        refine lv_ldc2 (v := (5)) hx hb hown lc_200 dX12_item_97 ?_
        obtain ⟨r_9, hz, hf⟩ := mb_bd1_s hf
        refine gc_i (r0 := r_9) (ws' := (wC_Ref k b0 P0_5 L0)) (wr := (wC_Ref k b0 P0_5 L0)) (va_runS (As := [.long ((P0_5 34 (1 : Int32).toNatClampNeg)).toInt64, .long (0 : Int64), .long (5 : Int64)]) (rest := []) ⟨hx, hb, hml, hown, hts⟩ (c_Ref_in l D k H.size (((P0_5 34 (1 : Int32).toNatClampNeg)).toInt64) (0 : Int64) (5 : Int64) r_9 hz) (cwS 3 hts gX12_item_X12_in rfl rfl rfl (by decide +kernel) ⟨Nat.le_of_ble_eq_true rfl, Nat.le_of_ble_eq_true rfl⟩) (gp_S hP hD hK hN [] (by decide +kernel) rfl) rfl rfl hl.1 rfl (lv_room (Nat.le_of_ble_eq_true rfl)) dX12_item_100 ⟨Nat.zero_le _, Nat.zero_le _⟩) hP hD hS hA [] [0, 1, 2, 3, 4, 5, 6, 7, 8, 9, 10, 11, 12, 13, 14, 15, 16, 17, 18, 19, 20, 21, 22, 23, 24, 25] rfl rfl (by decide +kernel) (by decide +kernel) [0, 1, 2, 3, 4, 5, 6, 7, 8, 9, 10, 11, 12, 13, 14, 15, 16, 17, 18, 19, 20, 21, 22, 23, 24, 25] (by decide +kernel) rfl (fun H locs hP hD hS => ?_)
        clear hz
        refine lv_if_eq (tgt := 125) hx hb dX12_item_103 (by decide) (fun c_13 => ?_) (fun c_13 => ?_)
        · have hf := mb_if_t c_13 hf
          refine lv_iconst (v := 0) hx hb dX12_item_125 (by decide) ?_
          have hz := Option.some.inj hf
          subst hz
          exact hret _ _ _ _ mb_n0 dX12_item_126 hP hD hS
        · have hf := mb_if_f c_13 hf
          refine lv_aload_n hx hb dX12_item_106 rfl (lv_at hl 1 rfl) ?_
          refine va_get (D := D) (ci := 12) (v := .ref (b0 34)) (C := RX12) (T := TX12) (N := 42) hx hb hts iw_Ref hown hK hP 0 rfl rfl 33 (by decide) fl_78 (fun _ h9 => h9) rfl dX12_item_107 ?_
          refine lv_iconst (v := 2) hx hb dX12_item_110 (by decide) ?_
          obtain ⟨h_10, hf⟩ := mb_chk_s hf
          refine va_iald hx hb hK hP 22 0 rfl rfl h_10 dX12_item_111 ?_
          refine lv_aload_n hx hb dX12_item_112 rfl (lv_at hl 1 rfl) ?_
          refine va_get (D := D) (ci := 12) (v := .ref (b0 34)) (C := RX12) (T := TX12) (N := 42) hx hb hts iw_Ref hown hK hP 0 rfl rfl 33 (by decide) fl_78 (fun _ h9 => h9) rfl dX12_item_113 ?_
          refine lv_iconst (v := 3) hx hb dX12_item_116 (by decide) ?_
          obtain ⟨h_11, hf⟩ := mb_chk_s hf
          refine va_iald hx hb hK hP 22 0 rfl rfl h_11 dX12_item_117 ?_
          refine lv_icmp_gt (tgt := 125) hx hb dX12_item_118 (by decide) (fun c_12 => ?_) (fun c_12 => ?_)
          · have hf := mb_if_t c_12 hf
            refine lv_iconst (v := 0) hx hb dX12_item_125 (by decide) ?_
            have hz := Option.some.inj hf
            subst hz
            exact hret _ _ _ _ mb_n0 dX12_item_126 hP hD hS
          · have hf := mb_if_f c_12 hf
            refine lv_iconst (v := 1) hx hb dX12_item_121 (by decide) ?_
            refine lv_goto (tgt := 126) hx hb dX12_item_122 (by decide) ?_
            have hz := Option.some.inj hf
            subst hz
            exact hret _ _ _ _ mb_n1 dX12_item_126 hP hD hS
    · have hf := mb_if_f c_42 hf
      by_cases c_43 : x1_2 = (98 : Int32)
      · have hf := mb_if_t c_43 hf
        refine lv_lookup (tgt := 72) hx hb dX12_item_30 (by decide) (by rw [c_43]; try rfl) (by decide) ?_
        refine lv_aload_n hx hb dX12_item_72 rfl (lv_at hl 1 rfl) ?_
        refine va_get (D := D) (ci := 12) (v := .ref (b0 34)) (C := RX12) (T := TX12) (N := 42) hx hb hts iw_Ref hown hK hP 0 rfl rfl 33 (by decide) fl_78 (fun _ h9 => h9) rfl dX12_item_73 ?_
        refine lv_iconst (v := 0) hx hb dX12_item_76 (by decide) ?_
        obtain ⟨h_15, hf⟩ := mb_chk_s hf
        refine va_iald hx hb hK hP 22 0 rfl rfl h_15 dX12_item_77 ?_
        refine lv_i2l hx hb dX12_item_78 rfl ?_
        refine lv_lconst (v := 0) hx hb dX12_item_79 (by decide) ?_
        refine lv_ldc2 (v := (15)) hx hb hown lc_198 dX12_item_80 ?_
        obtain ⟨r_16, hz, hf⟩ := mb_bd1_s hf
        refine gc_i (r0 := r_16) (ws' := (wC_Ref k b0 P0_5 L0)) (wr := (wC_Ref k b0 P0_5 L0)) (va_runS (As := [.long ((P0_5 34 (0 : Int32).toNatClampNeg)).toInt64, .long (0 : Int64), .long (15 : Int64)]) (rest := []) ⟨hx, hb, hml, hown, hts⟩ (c_Ref_in l D k H.size (((P0_5 34 (0 : Int32).toNatClampNeg)).toInt64) (0 : Int64) (15 : Int64) r_16 hz) (cwS 3 hts gX12_item_X12_in rfl rfl rfl (by decide +kernel) ⟨Nat.le_of_ble_eq_true rfl, Nat.le_of_ble_eq_true rfl⟩) (gp_S hP hD hK hN [] (by decide +kernel) rfl) rfl rfl hl.1 rfl (lv_room (Nat.le_of_ble_eq_true rfl)) dX12_item_83 ⟨Nat.zero_le _, Nat.zero_le _⟩) hP hD hS hA [] [0, 1, 2, 3, 4, 5, 6, 7, 8, 9, 10, 11, 12, 13, 14, 15, 16, 17, 18, 19, 20, 21, 22, 23, 24, 25] rfl rfl (by decide +kernel) (by decide +kernel) [0, 1, 2, 3, 4, 5, 6, 7, 8, 9, 10, 11, 12, 13, 14, 15, 16, 17, 18, 19, 20, 21, 22, 23, 24, 25] (by decide +kernel) rfl (fun H locs hP hD hS => ?_)
        clear hz
        refine lv_if_eq (tgt := 125) hx hb dX12_item_86 (by decide) (fun c_23 => ?_) (fun c_23 => ?_)
        · have hf := mb_if_t c_23 hf
          refine lv_iconst (v := 0) hx hb dX12_item_125 (by decide) ?_
          have hz := Option.some.inj hf
          subst hz
          exact hret _ _ _ _ mb_n0 dX12_item_126 hP hD hS
        · have hf := mb_if_f c_23 hf
          refine lv_aload_n hx hb dX12_item_89 rfl (lv_at hl 1 rfl) ?_
          refine va_get (D := D) (ci := 12) (v := .ref (b0 34)) (C := RX12) (T := TX12) (N := 42) hx hb hts iw_Ref hown hK hP 0 rfl rfl 33 (by decide) fl_78 (fun _ h9 => h9) rfl dX12_item_90 ?_
          refine lv_iconst (v := 1) hx hb dX12_item_93 (by decide) ?_
          obtain ⟨h_17, hf⟩ := mb_chk_s hf
          refine va_iald hx hb hK hP 22 0 rfl rfl h_17 dX12_item_94 ?_
          refine lv_i2l hx hb dX12_item_95 rfl ?_
          refine lv_lconst (v := 0) hx hb dX12_item_96 (by decide) ?_
          refine lv_ldc2 (v := (5)) hx hb hown lc_200 dX12_item_97 ?_
          obtain ⟨r_18, hz, hf⟩ := mb_bd1_s hf
          refine gc_i (r0 := r_18) (ws' := (wC_Ref k b0 P0_5 L0)) (wr := (wC_Ref k b0 P0_5 L0)) (va_runS (As := [.long ((P0_5 34 (1 : Int32).toNatClampNeg)).toInt64, .long (0 : Int64), .long (5 : Int64)]) (rest := []) ⟨hx, hb, hml, hown, hts⟩ (c_Ref_in l D k H.size (((P0_5 34 (1 : Int32).toNatClampNeg)).toInt64) (0 : Int64) (5 : Int64) r_18 hz) (cwS 3 hts gX12_item_X12_in rfl rfl rfl (by decide +kernel) ⟨Nat.le_of_ble_eq_true rfl, Nat.le_of_ble_eq_true rfl⟩) (gp_S hP hD hK hN [] (by decide +kernel) rfl) rfl rfl hl.1 rfl (lv_room (Nat.le_of_ble_eq_true rfl)) dX12_item_100 ⟨Nat.zero_le _, Nat.zero_le _⟩) hP hD hS hA [] [0, 1, 2, 3, 4, 5, 6, 7, 8, 9, 10, 11, 12, 13, 14, 15, 16, 17, 18, 19, 20, 21, 22, 23, 24, 25] rfl rfl (by decide +kernel) (by decide +kernel) [0, 1, 2, 3, 4, 5, 6, 7, 8, 9, 10, 11, 12, 13, 14, 15, 16, 17, 18, 19, 20, 21, 22, 23, 24, 25] (by decide +kernel) rfl (fun H locs hP hD hS => ?_)
          clear hz
          refine lv_if_eq (tgt := 125) hx hb dX12_item_103 (by decide) (fun c_22 => ?_) (fun c_22 => ?_)
          · have hf := mb_if_t c_22 hf
            refine lv_iconst (v := 0) hx hb dX12_item_125 (by decide) ?_
            have hz := Option.some.inj hf
            subst hz
            exact hret _ _ _ _ mb_n0 dX12_item_126 hP hD hS
          · have hf := mb_if_f c_22 hf
            refine lv_aload_n hx hb dX12_item_106 rfl (lv_at hl 1 rfl) ?_
            refine va_get (D := D) (ci := 12) (v := .ref (b0 34)) (C := RX12) (T := TX12) (N := 42) hx hb hts iw_Ref hown hK hP 0 rfl rfl 33 (by decide) fl_78 (fun _ h9 => h9) rfl dX12_item_107 ?_
            refine lv_iconst (v := 2) hx hb dX12_item_110 (by decide) ?_
            obtain ⟨h_19, hf⟩ := mb_chk_s hf
            refine va_iald hx hb hK hP 22 0 rfl rfl h_19 dX12_item_111 ?_
            refine lv_aload_n hx hb dX12_item_112 rfl (lv_at hl 1 rfl) ?_
            refine va_get (D := D) (ci := 12) (v := .ref (b0 34)) (C := RX12) (T := TX12) (N := 42) hx hb hts iw_Ref hown hK hP 0 rfl rfl 33 (by decide) fl_78 (fun _ h9 => h9) rfl dX12_item_113 ?_
            refine lv_iconst (v := 3) hx hb dX12_item_116 (by decide) ?_
            obtain ⟨h_20, hf⟩ := mb_chk_s hf
            refine va_iald hx hb hK hP 22 0 rfl rfl h_20 dX12_item_117 ?_
            refine lv_icmp_gt (tgt := 125) hx hb dX12_item_118 (by decide) (fun c_21 => ?_) (fun c_21 => ?_)
            · have hf := mb_if_t c_21 hf
              refine lv_iconst (v := 0) hx hb dX12_item_125 (by decide) ?_
              have hz := Option.some.inj hf
              subst hz
              exact hret _ _ _ _ mb_n0 dX12_item_126 hP hD hS
            · have hf := mb_if_f c_21 hf
              refine lv_iconst (v := 1) hx hb dX12_item_121 (by decide) ?_
              refine lv_goto (tgt := 126) hx hb dX12_item_122 (by decide) ?_
              have hz := Option.some.inj hf
              subst hz
              exact hret _ _ _ _ mb_n1 dX12_item_126 hP hD hS
      · have hf := mb_if_f c_43 hf
        by_cases c_44 : x1_2 = (104 : Int32)
        · have hf := mb_if_t c_44 hf
          refine lv_lookup (tgt := 184) hx hb dX12_item_30 (by decide) (by rw [c_44]; try rfl) (by decide) ?_
          refine lv_aload_n hx hb dX12_item_184 rfl (lv_at hl 1 rfl) ?_
          refine va_get (D := D) (ci := 12) (v := .ref (b0 34)) (C := RX12) (T := TX12) (N := 42) hx hb hts iw_Ref hown hK hP 0 rfl rfl 33 (by decide) fl_78 (fun _ h9 => h9) rfl dX12_item_185 ?_
          refine lv_iconst (v := 0) hx hb dX12_item_188 (by decide) ?_
          obtain ⟨h_24, hf⟩ := mb_chk_s hf
          refine va_iald hx hb hK hP 22 0 rfl rfl h_24 dX12_item_189 ?_
          refine lv_i2l hx hb dX12_item_190 rfl ?_
          refine lv_lconst (v := 0) hx hb dX12_item_191 (by decide) ?_
          refine lv_ldc2 (v := (5)) hx hb hown lc_200 dX12_item_192 ?_
          obtain ⟨r_25, hz, hf⟩ := mb_bd1_s hf
          refine gc_i (r0 := r_25) (ws' := (wC_Ref k b0 P0_5 L0)) (wr := (wC_Ref k b0 P0_5 L0)) (va_runS (As := [.long ((P0_5 34 (0 : Int32).toNatClampNeg)).toInt64, .long (0 : Int64), .long (5 : Int64)]) (rest := []) ⟨hx, hb, hml, hown, hts⟩ (c_Ref_in l D k H.size (((P0_5 34 (0 : Int32).toNatClampNeg)).toInt64) (0 : Int64) (5 : Int64) r_25 hz) (cwS 3 hts gX12_item_X12_in rfl rfl rfl (by decide +kernel) ⟨Nat.le_of_ble_eq_true rfl, Nat.le_of_ble_eq_true rfl⟩) (gp_S hP hD hK hN [] (by decide +kernel) rfl) rfl rfl hl.1 rfl (lv_room (Nat.le_of_ble_eq_true rfl)) dX12_item_195 ⟨Nat.zero_le _, Nat.zero_le _⟩) hP hD hS hA [] [0, 1, 2, 3, 4, 5, 6, 7, 8, 9, 10, 11, 12, 13, 14, 15, 16, 17, 18, 19, 20, 21, 22, 23, 24, 25] rfl rfl (by decide +kernel) (by decide +kernel) [0, 1, 2, 3, 4, 5, 6, 7, 8, 9, 10, 11, 12, 13, 14, 15, 16, 17, 18, 19, 20, 21, 22, 23, 24, 25] (by decide +kernel) rfl (fun H locs hP hD hS => ?_)
          clear hz
          refine lv_if_eq (tgt := 235) hx hb dX12_item_198 (by decide) (fun c_32 => ?_) (fun c_32 => ?_)
          · have hf := mb_if_t c_32 hf
            refine lv_iconst (v := 0) hx hb dX12_item_235 (by decide) ?_
            have hz := Option.some.inj hf
            subst hz
            exact hret _ _ _ _ mb_n0 dX12_item_236 hP hD hS
          · have hf := mb_if_f c_32 hf
            refine lv_aload_n hx hb dX12_item_201 rfl (lv_at hl 1 rfl) ?_
            refine va_get (D := D) (ci := 12) (v := .ref (b0 34)) (C := RX12) (T := TX12) (N := 42) hx hb hts iw_Ref hown hK hP 0 rfl rfl 33 (by decide) fl_78 (fun _ h9 => h9) rfl dX12_item_202 ?_
            refine lv_iconst (v := 1) hx hb dX12_item_205 (by decide) ?_
            obtain ⟨h_26, hf⟩ := mb_chk_s hf
            refine va_iald hx hb hK hP 22 0 rfl rfl h_26 dX12_item_206 ?_
            refine lv_i2l hx hb dX12_item_207 rfl ?_
            refine lv_lconst (v := 0) hx hb dX12_item_208 (by decide) ?_
            refine lv_lconst (v := 1) hx hb dX12_item_209 (by decide) ?_
            obtain ⟨r_27, hz, hf⟩ := mb_bd1_s hf
            refine gc_i (r0 := r_27) (ws' := (wC_Ref k b0 P0_5 L0)) (wr := (wC_Ref k b0 P0_5 L0)) (va_runS (As := [.long ((P0_5 34 (1 : Int32).toNatClampNeg)).toInt64, .long (0 : Int64), .long (1 : Int64)]) (rest := []) ⟨hx, hb, hml, hown, hts⟩ (c_Ref_in l D k H.size (((P0_5 34 (1 : Int32).toNatClampNeg)).toInt64) (0 : Int64) (1 : Int64) r_27 hz) (cwS 3 hts gX12_item_X12_in rfl rfl rfl (by decide +kernel) ⟨Nat.le_of_ble_eq_true rfl, Nat.le_of_ble_eq_true rfl⟩) (gp_S hP hD hK hN [] (by decide +kernel) rfl) rfl rfl hl.1 rfl (lv_room (Nat.le_of_ble_eq_true rfl)) dX12_item_210 ⟨Nat.zero_le _, Nat.zero_le _⟩) hP hD hS hA [] [0, 1, 2, 3, 4, 5, 6, 7, 8, 9, 10, 11, 12, 13, 14, 15, 16, 17, 18, 19, 20, 21, 22, 23, 24, 25] rfl rfl (by decide +kernel) (by decide +kernel) [0, 1, 2, 3, 4, 5, 6, 7, 8, 9, 10, 11, 12, 13, 14, 15, 16, 17, 18, 19, 20, 21, 22, 23, 24, 25] (by decide +kernel) rfl (fun H locs hP hD hS => ?_)
            clear hz
            refine lv_if_eq (tgt := 235) hx hb dX12_item_213 (by decide) (fun c_31 => ?_) (fun c_31 => ?_)
            · have hf := mb_if_t c_31 hf
              refine lv_iconst (v := 0) hx hb dX12_item_235 (by decide) ?_
              have hz := Option.some.inj hf
              subst hz
              exact hret _ _ _ _ mb_n0 dX12_item_236 hP hD hS
            · have hf := mb_if_f c_31 hf
              refine lv_aload_n hx hb dX12_item_216 rfl (lv_at hl 1 rfl) ?_
              refine va_get (D := D) (ci := 12) (v := .ref (b0 34)) (C := RX12) (T := TX12) (N := 42) hx hb hts iw_Ref hown hK hP 0 rfl rfl 33 (by decide) fl_78 (fun _ h9 => h9) rfl dX12_item_217 ?_
              refine lv_iconst (v := 2) hx hb dX12_item_220 (by decide) ?_
              obtain ⟨h_28, hf⟩ := mb_chk_s hf
              refine va_iald hx hb hK hP 22 0 rfl rfl h_28 dX12_item_221 ?_
              refine lv_aload_n hx hb dX12_item_222 rfl (lv_at hl 1 rfl) ?_
              refine va_get (D := D) (ci := 12) (v := .ref (b0 34)) (C := RX12) (T := TX12) (N := 42) hx hb hts iw_Ref hown hK hP 0 rfl rfl 33 (by decide) fl_78 (fun _ h9 => h9) rfl dX12_item_223 ?_
              refine lv_iconst (v := 3) hx hb dX12_item_226 (by decide) ?_
              obtain ⟨h_29, hf⟩ := mb_chk_s hf
              refine va_iald hx hb hK hP 22 0 rfl rfl h_29 dX12_item_227 ?_
              refine lv_icmp_gt (tgt := 235) hx hb dX12_item_228 (by decide) (fun c_30 => ?_) (fun c_30 => ?_)
              · have hf := mb_if_t c_30 hf
                refine lv_iconst (v := 0) hx hb dX12_item_235 (by decide) ?_
                have hz := Option.some.inj hf
                subst hz
                exact hret _ _ _ _ mb_n0 dX12_item_236 hP hD hS
              · have hf := mb_if_f c_30 hf
                refine lv_iconst (v := 1) hx hb dX12_item_231 (by decide) ?_
                refine lv_goto (tgt := 236) hx hb dX12_item_232 (by decide) ?_
                have hz := Option.some.inj hf
                subst hz
                exact hret _ _ _ _ mb_n1 dX12_item_236 hP hD hS
        · have hf := mb_if_f c_44 hf
          by_cases c_45 : x1_2 = (110 : Int32)
          · have hf := mb_if_t c_45 hf
            refine lv_lookup (tgt := 127) hx hb dX12_item_30 (by decide) (by rw [c_45]; try rfl) (by decide) ?_
            refine lv_aload_n hx hb dX12_item_127 rfl (lv_at hl 1 rfl) ?_
            refine va_get (D := D) (ci := 12) (v := .ref (b0 34)) (C := RX12) (T := TX12) (N := 42) hx hb hts iw_Ref hown hK hP 0 rfl rfl 33 (by decide) fl_78 (fun _ h9 => h9) rfl dX12_item_128 ?_
            refine lv_iconst (v := 0) hx hb dX12_item_131 (by decide) ?_
            obtain ⟨h_33, hf⟩ := mb_chk_s hf
            refine va_iald hx hb hK hP 22 0 rfl rfl h_33 dX12_item_132 ?_
            refine lv_i2l hx hb dX12_item_133 rfl ?_
            refine lv_lconst (v := 0) hx hb dX12_item_134 (by decide) ?_
            refine lv_ldc2 (v := (9)) hx hb hown lc_202 dX12_item_135 ?_
            obtain ⟨r_34, hz, hf⟩ := mb_bd1_s hf
            refine gc_i (r0 := r_34) (ws' := (wC_Ref k b0 P0_5 L0)) (wr := (wC_Ref k b0 P0_5 L0)) (va_runS (As := [.long ((P0_5 34 (0 : Int32).toNatClampNeg)).toInt64, .long (0 : Int64), .long (9 : Int64)]) (rest := []) ⟨hx, hb, hml, hown, hts⟩ (c_Ref_in l D k H.size (((P0_5 34 (0 : Int32).toNatClampNeg)).toInt64) (0 : Int64) (9 : Int64) r_34 hz) (cwS 3 hts gX12_item_X12_in rfl rfl rfl (by decide +kernel) ⟨Nat.le_of_ble_eq_true rfl, Nat.le_of_ble_eq_true rfl⟩) (gp_S hP hD hK hN [] (by decide +kernel) rfl) rfl rfl hl.1 rfl (lv_room (Nat.le_of_ble_eq_true rfl)) dX12_item_138 ⟨Nat.zero_le _, Nat.zero_le _⟩) hP hD hS hA [] [0, 1, 2, 3, 4, 5, 6, 7, 8, 9, 10, 11, 12, 13, 14, 15, 16, 17, 18, 19, 20, 21, 22, 23, 24, 25] rfl rfl (by decide +kernel) (by decide +kernel) [0, 1, 2, 3, 4, 5, 6, 7, 8, 9, 10, 11, 12, 13, 14, 15, 16, 17, 18, 19, 20, 21, 22, 23, 24, 25] (by decide +kernel) rfl (fun H locs hP hD hS => ?_)
            clear hz
            refine lv_if_eq (tgt := 182) hx hb dX12_item_141 (by decide) (fun c_41 => ?_) (fun c_41 => ?_)
            · have hf := mb_if_t c_41 hf
              refine lv_iconst (v := 0) hx hb dX12_item_182 (by decide) ?_
              have hz := Option.some.inj hf
              subst hz
              exact hret _ _ _ _ mb_n0 dX12_item_183 hP hD hS
            · have hf := mb_if_f c_41 hf
              refine lv_aload_n hx hb dX12_item_144 rfl (lv_at hl 1 rfl) ?_
              refine va_get (D := D) (ci := 12) (v := .ref (b0 34)) (C := RX12) (T := TX12) (N := 42) hx hb hts iw_Ref hown hK hP 0 rfl rfl 33 (by decide) fl_78 (fun _ h9 => h9) rfl dX12_item_145 ?_
              refine lv_iconst (v := 1) hx hb dX12_item_148 (by decide) ?_
              obtain ⟨h_35, hf⟩ := mb_chk_s hf
              refine va_iald hx hb hK hP 22 0 rfl rfl h_35 dX12_item_149 ?_
              refine lv_i2l hx hb dX12_item_150 rfl ?_
              refine lv_lconst (v := 0) hx hb dX12_item_151 (by decide) ?_
              refine lv_ldc2 (v := (15)) hx hb hown lc_198 dX12_item_152 ?_
              obtain ⟨r_36, hz, hf⟩ := mb_bd1_s hf
              refine gc_i (r0 := r_36) (ws' := (wC_Ref k b0 P0_5 L0)) (wr := (wC_Ref k b0 P0_5 L0)) (va_runS (As := [.long ((P0_5 34 (1 : Int32).toNatClampNeg)).toInt64, .long (0 : Int64), .long (15 : Int64)]) (rest := []) ⟨hx, hb, hml, hown, hts⟩ (c_Ref_in l D k H.size (((P0_5 34 (1 : Int32).toNatClampNeg)).toInt64) (0 : Int64) (15 : Int64) r_36 hz) (cwS 3 hts gX12_item_X12_in rfl rfl rfl (by decide +kernel) ⟨Nat.le_of_ble_eq_true rfl, Nat.le_of_ble_eq_true rfl⟩) (gp_S hP hD hK hN [] (by decide +kernel) rfl) rfl rfl hl.1 rfl (lv_room (Nat.le_of_ble_eq_true rfl)) dX12_item_155 ⟨Nat.zero_le _, Nat.zero_le _⟩) hP hD hS hA [] [0, 1, 2, 3, 4, 5, 6, 7, 8, 9, 10, 11, 12, 13, 14, 15, 16, 17, 18, 19, 20, 21, 22, 23, 24, 25] rfl rfl (by decide +kernel) (by decide +kernel) [0, 1, 2, 3, 4, 5, 6, 7, 8, 9, 10, 11, 12, 13, 14, 15, 16, 17, 18, 19, 20, 21, 22, 23, 24, 25] (by decide +kernel) rfl (fun H locs hP hD hS => ?_)
              clear hz
              refine lv_if_eq (tgt := 182) hx hb dX12_item_158 (by decide) (fun c_40 => ?_) (fun c_40 => ?_)
              · have hf := mb_if_t c_40 hf
                refine lv_iconst (v := 0) hx hb dX12_item_182 (by decide) ?_
                have hz := Option.some.inj hf
                subst hz
                exact hret _ _ _ _ mb_n0 dX12_item_183 hP hD hS
              · have hf := mb_if_f c_40 hf
                refine lv_aload_n hx hb dX12_item_161 rfl (lv_at hl 1 rfl) ?_
                refine va_get (D := D) (ci := 12) (v := .ref (b0 34)) (C := RX12) (T := TX12) (N := 42) hx hb hts iw_Ref hown hK hP 0 rfl rfl 33 (by decide) fl_78 (fun _ h9 => h9) rfl dX12_item_162 ?_
                refine lv_iconst (v := 2) hx hb dX12_item_165 (by decide) ?_
                obtain ⟨h_37, hf⟩ := mb_chk_s hf
                refine va_iald hx hb hK hP 22 0 rfl rfl h_37 dX12_item_166 ?_
                refine lv_i2l hx hb dX12_item_167 rfl ?_
                refine lv_lconst (v := 0) hx hb dX12_item_168 (by decide) ?_
                refine lv_ldc2 (v := (5)) hx hb hown lc_200 dX12_item_169 ?_
                obtain ⟨r_38, hz, hf⟩ := mb_bd1_s hf
                refine gc_i (r0 := r_38) (ws' := (wC_Ref k b0 P0_5 L0)) (wr := (wC_Ref k b0 P0_5 L0)) (va_runS (As := [.long ((P0_5 34 (2 : Int32).toNatClampNeg)).toInt64, .long (0 : Int64), .long (5 : Int64)]) (rest := []) ⟨hx, hb, hml, hown, hts⟩ (c_Ref_in l D k H.size (((P0_5 34 (2 : Int32).toNatClampNeg)).toInt64) (0 : Int64) (5 : Int64) r_38 hz) (cwS 3 hts gX12_item_X12_in rfl rfl rfl (by decide +kernel) ⟨Nat.le_of_ble_eq_true rfl, Nat.le_of_ble_eq_true rfl⟩) (gp_S hP hD hK hN [] (by decide +kernel) rfl) rfl rfl hl.1 rfl (lv_room (Nat.le_of_ble_eq_true rfl)) dX12_item_172 ⟨Nat.zero_le _, Nat.zero_le _⟩) hP hD hS hA [] [0, 1, 2, 3, 4, 5, 6, 7, 8, 9, 10, 11, 12, 13, 14, 15, 16, 17, 18, 19, 20, 21, 22, 23, 24, 25] rfl rfl (by decide +kernel) (by decide +kernel) [0, 1, 2, 3, 4, 5, 6, 7, 8, 9, 10, 11, 12, 13, 14, 15, 16, 17, 18, 19, 20, 21, 22, 23, 24, 25] (by decide +kernel) rfl (fun H locs hP hD hS => ?_)
                clear hz
                refine lv_if_eq (tgt := 182) hx hb dX12_item_175 (by decide) (fun c_39 => ?_) (fun c_39 => ?_)
                · have hf := mb_if_t c_39 hf
                  refine lv_iconst (v := 0) hx hb dX12_item_182 (by decide) ?_
                  have hz := Option.some.inj hf
                  subst hz
                  exact hret _ _ _ _ mb_n0 dX12_item_183 hP hD hS
                · have hf := mb_if_f c_39 hf
                  refine lv_iconst (v := 1) hx hb dX12_item_178 (by decide) ?_
                  refine lv_goto (tgt := 183) hx hb dX12_item_179 (by decide) ?_
                  have hz := Option.some.inj hf
                  subst hz
                  exact hret _ _ _ _ mb_n1 dX12_item_183 hP hD hS
          · have hf := mb_if_f c_45 hf
            refine lv_lookup (tgt := 237) hx hb dX12_item_30 (by decide) (mb_lout4 (mb_ni c_42 (by decide)) (mb_ni c_43 (by decide)) (mb_ni c_44 (by decide)) (mb_ni c_45 (by decide))) (by decide) ?_
            refine lv_iconst (v := 0) hx hb dX12_item_237 (by decide) ?_
            have hz := Option.some.inj hf
            subst hz
            exact hret _ _ _ _ mb_n0 dX12_item_238 hP hD hS
  · have hf := mb_if_t c_46 hf
    refine lv_iconst (v := 0) hx hb dX12_item_27 (by decide) ?_
    have hz := Option.some.inj hf
    subst hz
    exact hret _ _ _ _ mb_n0 dX12_item_28 hP hD hS
def f_Ref_readAll_60_b (x2_12 : Int32) (K87_18 : PI → Option (Int32 × PI)) (self_27 : Int32 → PI → Option (Int32 × PI)) (x3_25 : Int32) (P0_26 : PI) : Option (Int32 × PI) := (if (4 : Int32) ≤ x3_25 then K87_18 P0_26 else mb_chk x3_25 4 (mb_chk ((x2_12 + (1 : Int32)) + x3_25) 600 (mb_let (mb_u2 P0_26 15 ((x2_12 + (1 : Int32)) + x3_25).toNatClampNeg (P0_26 34 x3_25.toNatClampNeg)) (fun (P0_29 : PI) => mb_let (x3_25 + (1 : Int32)) (fun (x3_31 : Int32) => self_27 x3_31 P0_29)))))
def f_Ref_readAll_60 (x2_12 : Int32) (K87_18 : PI → Option (Int32 × PI)) : Nat → Int32 → PI → Option (Int32 × PI)
  | 0, _, _ => none
  | n + 1, x3_25, P0_26 => f_Ref_readAll_60_b x2_12 K87_18 (f_Ref_readAll_60 x2_12 K87_18 n) x3_25 P0_26
def f_Ref_readAll_12_b (self_7 : PI → Option (Int32 × PI)) (P0_6 : PI) : Option (Int32 × PI) := (if (P0_6 0 11) ≤ (P0_6 0 32) then some ((-4 : Int32), P0_6) else mb_let (P0_6 0 32) (fun (x1_8 : Int32) => mb_bd2 (f_Ref_item P0_6) (fun (r_9 : Int32) (P0_10 : PI) => (if r_9 = 0 then some (x1_8, P0_10) else mb_chk (0 : Int32) 2 (mb_let ((5 : Int32) * (P0_10 14 (0 : Int32).toNatClampNeg)) (fun (x2_12 : Int32) => mb_chk x1_8 300 (mb_chk x2_12 600 (mb_let (mb_u2 P0_10 15 x2_12.toNatClampNeg (P0_10 13 x1_8.toNatClampNeg)) (fun (P0_14 : PI) => mb_let (0 : Int32) (fun (x3_16 : Int32) => mb_jn (fun (P0_17 : PI) => mb_chk (0 : Int32) 2 (mb_chk (0 : Int32) 2 (mb_let (mb_u2 P0_17 14 (0 : Int32).toNatClampNeg ((P0_17 14 (0 : Int32).toNatClampNeg) + (1 : Int32))) (fun (P0_21 : PI) => self_7 P0_21)))) (fun K87_18 => f_Ref_readAll_60 x2_12 K87_18 mb_fu x3_16 P0_14)))))))))))
def f_Ref_readAll_12 : Nat → PI → Option (Int32 × PI)
  | 0, _ => none
  | n + 1, P0_6 => f_Ref_readAll_12_b  (f_Ref_readAll_12  n) P0_6
def f_Ref_readAll (P0 : PI) : Option (Int32 × PI) := mb_chk (0 : Int32) 2 (mb_let (mb_u2 P0 14 (0 : Int32).toNatClampNeg (0 : Int32)) (fun (P0_1 : PI) => mb_let (mb_uo P0_1 32 (0 : Int32)) (fun (P0_3 : PI) => f_Ref_readAll_12  mb_fu P0_3)))
def rm_Ref_readAll : Room := { frames := 3, cells := 0, slots := 0, locals := 69 }
set_option maxHeartbeats 4000000 in
set_option maxRecDepth 100000 in
theorem c_Ref_readAll (l : Launch) (D : va_G) (k : Nat → ClassId) (sz : Nat) (b0 : Nat → Nat) (P0 : PI) (L0 : PL) (z : Int32 × PI) (hf : f_Ref_readAll P0 = some z) : Met l yX12_readAll wsX12_readAll rm_Ref_readAll (va_Pc [.ref (b0 0)] (gw_pre D vwCl (tyL k) (wC_Ref k b0 P0 L0) sz)) (va_Qi (fun (r : Int32) (_ : Unit) => r = z.1) (gw_b D vwCl (tyL k) (va_A (wC_Ref k b0 P0 L0) sz) (wC_Ref k b0 z.2 L0)) (va_A (wC_Ref k b0 P0 L0) sz)) 0 0 (va_A (wC_Ref k b0 P0 L0) sz) := by
  refine gm_i (cc := cX12_readAll) (maxL := 4) (by decide) rfl (Nat.le_of_ble_eq_true rfl) ?_
  intro p e s m args below meth c A Q ls H locs hx hb hml hown hts hK hN hA hP hD hS hl hret
  have hown : s.vm.findClass RX12 = some m.cls := hown
  have hl : lv_has ls 4 [(0, .ref (b0 0))] := hl
  have iw_Ref : ∀ w ∈ u_ws RX12 TX12 42, w ∈ wsX12_readAll := by decide +kernel
  have fl_35 := hts (.fieldLink RX12 35 "OneMeasureModel" "text" "[I") (by decide +kernel)
  have fl_38 := hts (.fieldLink RX12 38 "OneMeasureModel" "itemMany" "[I") (by decide +kernel)
  have fl_41 := hts (.fieldLink RX12 41 "OneMeasureModel" "items" "[I") (by decide +kernel)
  have fl_78 := hts (.fieldLink RX12 78 "OneMeasureModel" "told" "[I") (by decide +kernel)
  have fl_182 := hts (.fieldLink RX12 182 "OneMeasureModel" "length" "I") (by decide +kernel)
  have fl_187 := hts (.fieldLink RX12 187 "OneMeasureModel" "at" "I") (by decide +kernel)
  unfold f_Ref_readAll at hf
  refine lv_aload_n hx hb dX12_readAll_0 rfl (lv_at hl 0 rfl) ?_
  refine va_get (D := D) (ci := 12) (v := .ref (b0 14)) (C := RX12) (T := TX12) (N := 42) hx hb hts iw_Ref hown hK hP 0 rfl rfl 13 (by decide) fl_38 (fun _ h9 => h9) rfl dX12_readAll_1 ?_
  refine lv_iconst (v := 0) hx hb dX12_readAll_4 (by decide) ?_
  refine lv_iconst (v := 0) hx hb dX12_readAll_5 (by decide) ?_
  obtain ⟨h_2, hf⟩ := mb_chk_s hf
  obtain ⟨P0_1, e_, hf⟩ := mb_let_s hf
  refine va_iast hx hb hK hP hD hS 10 0 rfl rfl h_2 dX12_readAll_6 (fun H locs hP hD hS => ?_)
  have hP : va_P D vwCl (wC_Ref k b0 P0_1 L0) H := by rw [e_]; exact hP
  have hD : va_D A (wC_Ref k b0 P0_1 L0) := by rw [e_]; exact hD
  clear e_
  refine lv_aload_n hx hb dX12_readAll_7 rfl (lv_at hl 0 rfl) ?_
  refine lv_iconst (v := 0) hx hb dX12_readAll_8 (by decide) ?_
  obtain ⟨P0_3, e_, hf⟩ := mb_let_s hf
  refine va_put (D := D) (ci := 12) (v := .int (0 : Int32)) (ty := .int) (C := RX12) (T := TX12) (N := 42) hx hb hts iw_Ref tyX12 tyX12_ok nmX12 hown hK hP hD hS 0 rfl rfl 32 (by decide) fl_187 (fun _ h9 => h9) rfl (by decide +kernel) rfl rfl (Nat.le_of_ble_eq_true rfl) dX12_readAll_9 (fun H locs hP hD hS => ?_)
  have hP : va_P D vwCl (wC_Ref k b0 P0_3 L0) H := by rw [e_]; exact hP
  have hD : va_D A (wC_Ref k b0 P0_3 L0) := by rw [e_]; exact hD
  clear e_
  have lp12_4 : ∀ (n : Nat) (P0_6 : PI) (H : Heap) (locs : List Loc) (ls : Array Slot), f_Ref_readAll_12  n P0_6 = some z → va_P D vwCl (wC_Ref k b0 P0_6 L0) H → va_D A (wC_Ref k b0 P0_6 L0) → va_S A s.heap H locs → lv_has ls 4 [(0, .ref (b0 0))] → W p l e rm_Ref_readAll s m args below meth c H locs 0 0 Q (F0 m 12 ls []) := by
    intro n
    induction n with
    | zero =>
      intro P0_6 H locs ls hf
      exact nomatch (show (none : Option (Int32 × PI)) = some z from hf)
    | succ n ih_5 =>
      intro P0_6 H locs ls hf hP hD hS hl
      have hf : f_Ref_readAll_12_b  (f_Ref_readAll_12  n) P0_6 = some z := hf
      unfold f_Ref_readAll_12_b at hf
      refine lv_aload_n hx hb dX12_readAll_12 rfl (lv_at hl 0 rfl) ?_
      refine va_get (D := D) (ci := 12) (v := .int (P0_6 0 32)) (C := RX12) (T := TX12) (N := 42) hx hb hts iw_Ref hown hK hP 0 rfl rfl 32 (by decide) fl_187 (fun _ h9 => h9) rfl dX12_readAll_13 ?_
      refine lv_aload_n hx hb dX12_readAll_16 rfl (lv_at hl 0 rfl) ?_
      refine va_get (D := D) (ci := 12) (v := .int (P0_6 0 11)) (C := RX12) (T := TX12) (N := 42) hx hb hts iw_Ref hown hK hP 0 rfl rfl 11 (by decide) fl_182 (fun _ h9 => h9) rfl dX12_readAll_17 ?_
      refine lv_icmp_ge (tgt := 100) hx hb dX12_readAll_20 (by decide) (fun c_34 => ?_) (fun c_34 => ?_)
      · have hf := mb_if_t c_34 hf
        refine lv_bipush (v := (-4)) hx hb dX12_readAll_100 (by decide) ?_
        have hz := Option.some.inj hf
        subst hz
        exact hret _ _ _ _ dX12_readAll_102 hP hD hS
      · have hf := mb_if_f c_34 hf
        refine lv_aload_n hx hb dX12_readAll_23 rfl (lv_at hl 0 rfl) ?_
        refine va_get (D := D) (ci := 12) (v := .int (P0_6 0 32)) (C := RX12) (T := TX12) (N := 42) hx hb hts iw_Ref hown hK hP 0 rfl rfl 32 (by decide) fl_187 (fun _ h9 => h9) rfl dX12_readAll_24 ?_
        obtain ⟨x1_8, e_, hf⟩ := mb_let_s hf
        refine mb_topi e_ ?_
        clear e_
        refine lv_istore_n (lv' := [(1, .int x1_8), (0, .ref (b0 0))]) hx hb dX12_readAll_27 rfl hl (by decide) rfl (fun ls hl => ?_)
        refine lv_aload_n hx hb dX12_readAll_28 rfl (lv_at hl 1 rfl) ?_
        obtain ⟨r_9, P0_10, hz, hf⟩ := mb_bd2_s hf
        refine gc_i (r0 := r_9) (ws' := (wC_Ref k b0 P0_10 L0)) (wr := ([] : va_W)) (va_runV (As := []) (rest := []) ⟨hx, hb, hml, hown, hts⟩ (c_Ref_item l D k H.size b0 P0_6 L0 (r_9, P0_10) hz) (cwV 0 hts gX12_readAll_X12_item rfl rfl rfl (by decide +kernel) ⟨Nat.le_of_ble_eq_true rfl, Nat.le_of_ble_eq_true rfl⟩) (gp_V (ci := 12) (q0 := 0) (q := (RX12, TX12, 42)) hP hD hK hN [0, 1, 2, 3, 4, 5, 6, 7, 8, 9, 10, 11, 12, 13, 14, 15, 16, 17, 18, 19, 20, 21, 22, 23, 24, 25] (by decide +kernel) rfl rfl rfl) rfl rfl hl.1 rfl (lv_room (Nat.le_of_ble_eq_true rfl)) dX12_readAll_29 ⟨Nat.zero_le _, Nat.zero_le _⟩) hP hD hS hA [0, 1, 2, 3, 4, 5, 6, 7, 8, 9, 10, 11, 12, 13, 14, 15, 16, 17, 18, 19, 20, 21, 22, 23, 24, 25] [] rfl rfl (by decide +kernel) (by decide +kernel) [0, 1, 2, 3, 4, 5, 6, 7, 8, 9, 10, 11, 12, 13, 14, 15, 16, 17, 18, 19, 20, 21, 22, 23, 24, 25] (by decide +kernel) rfl (fun H locs hP hD hS => ?_)
        clear hz
        refine lv_if_ne (tgt := 37) hx hb dX12_readAll_32 (by decide) (fun c_33 => ?_) (fun c_33 => ?_)
        · have hf := mb_if_f c_33 hf
          refine lv_iconst (v := 5) hx hb dX12_readAll_37 (by decide) ?_
          refine lv_aload_n hx hb dX12_readAll_38 rfl (lv_at hl 1 rfl) ?_
          refine va_get (D := D) (ci := 12) (v := .ref (b0 14)) (C := RX12) (T := TX12) (N := 42) hx hb hts iw_Ref hown hK hP 0 rfl rfl 13 (by decide) fl_38 (fun _ h9 => h9) rfl dX12_readAll_39 ?_
          refine lv_iconst (v := 0) hx hb dX12_readAll_42 (by decide) ?_
          obtain ⟨h_11, hf⟩ := mb_chk_s hf
          refine va_iald hx hb hK hP 10 0 rfl rfl h_11 dX12_readAll_43 ?_
          refine lv_imul hx hb dX12_readAll_44 ?_
          obtain ⟨x2_12, e_, hf⟩ := mb_let_s hf
          refine mb_topi e_ ?_
          clear e_
          refine lv_istore_n (lv' := [(2, .int x2_12), (1, .int x1_8), (0, .ref (b0 0))]) hx hb dX12_readAll_45 rfl hl (by decide) rfl (fun ls hl => ?_)
          refine lv_aload_n hx hb dX12_readAll_46 rfl (lv_at hl 2 rfl) ?_
          refine va_get (D := D) (ci := 12) (v := .ref (b0 15)) (C := RX12) (T := TX12) (N := 42) hx hb hts iw_Ref hown hK hP 0 rfl rfl 14 (by decide) fl_41 (fun _ h9 => h9) rfl dX12_readAll_47 ?_
          refine lv_iload_n hx hb dX12_readAll_50 rfl (lv_at hl 0 rfl) ?_
          refine lv_aload_n hx hb dX12_readAll_51 rfl (lv_at hl 2 rfl) ?_
          refine va_get (D := D) (ci := 12) (v := .ref (b0 13)) (C := RX12) (T := TX12) (N := 42) hx hb hts iw_Ref hown hK hP 0 rfl rfl 12 (by decide) fl_35 (fun _ h9 => h9) rfl dX12_readAll_52 ?_
          refine lv_iload_n hx hb dX12_readAll_55 rfl (lv_at hl 1 rfl) ?_
          obtain ⟨h_13, hf⟩ := mb_chk_s hf
          refine va_iald hx hb hK hP 9 0 rfl rfl h_13 dX12_readAll_56 ?_
          obtain ⟨h_15, hf⟩ := mb_chk_s hf
          obtain ⟨P0_14, e_, hf⟩ := mb_let_s hf
          refine va_iast hx hb hK hP hD hS 11 0 rfl rfl h_15 dX12_readAll_57 (fun H locs hP hD hS => ?_)
          have hP : va_P D vwCl (wC_Ref k b0 P0_14 L0) H := by rw [e_]; exact hP
          have hD : va_D A (wC_Ref k b0 P0_14 L0) := by rw [e_]; exact hD
          clear e_
          refine lv_iconst (v := 0) hx hb dX12_readAll_58 (by decide) ?_
          obtain ⟨x3_16, e_, hf⟩ := mb_let_s hf
          refine mb_topi e_ ?_
          clear e_
          refine lv_istore_n (lv' := [(3, .int x3_16), (2, .int x2_12), (1, .int x1_8), (0, .ref (b0 0))]) hx hb dX12_readAll_59 rfl hl (by decide) rfl (fun ls hl => ?_)
          obtain ⟨K87_18, eK87_18, hf⟩ := mb_jn_s hf
          have k87_19 : ∀ (P0_17 : PI) (H : Heap) (locs : List Loc) (ls : Array Slot), K87_18 P0_17 = some z → va_P D vwCl (wC_Ref k b0 P0_17 L0) H → va_D A (wC_Ref k b0 P0_17 L0) → va_S A s.heap H locs → lv_has ls 4 [(0, .ref (b0 0))] → W p l e rm_Ref_readAll s m args below meth c H locs 0 0 Q (F0 m 87 ls []) := by
            intro P0_17 H locs ls hf hP hD hS hl
            have hf := mb_j1 eK87_18 hf
            refine lv_aload_n hx hb dX12_readAll_87 rfl (lv_at hl 0 rfl) ?_
            refine va_get (D := D) (ci := 12) (v := .ref (b0 14)) (C := RX12) (T := TX12) (N := 42) hx hb hts iw_Ref hown hK hP 0 rfl rfl 13 (by decide) fl_38 (fun _ h9 => h9) rfl dX12_readAll_88 ?_
            refine lv_iconst (v := 0) hx hb dX12_readAll_91 (by decide) ?_
            refine lv_dup2_11 hx hb dX12_readAll_92 rfl rfl ?_
            obtain ⟨h_20, hf⟩ := mb_chk_s hf
            refine va_iald hx hb hK hP 10 0 rfl rfl h_20 dX12_readAll_93 ?_
            refine lv_iconst (v := 1) hx hb dX12_readAll_94 (by decide) ?_
            refine lv_iadd hx hb dX12_readAll_95 ?_
            obtain ⟨h_22, hf⟩ := mb_chk_s hf
            obtain ⟨P0_21, e_, hf⟩ := mb_let_s hf
            refine va_iast hx hb hK hP hD hS 10 0 rfl rfl h_22 dX12_readAll_96 (fun H locs hP hD hS => ?_)
            have hP : va_P D vwCl (wC_Ref k b0 P0_21 L0) H := by rw [e_]; exact hP
            have hD : va_D A (wC_Ref k b0 P0_21 L0) := by rw [e_]; exact hD
            clear e_
            refine lv_goto (tgt := 12) hx hb dX12_readAll_97 (by decide) ?_
            exact ih_5 P0_21 _ _ _ hf hP hD hS (lv_sub hl [0] rfl)
          have lp60_23 : ∀ (n : Nat) (x3_25 : Int32) (P0_26 : PI) (H : Heap) (locs : List Loc) (ls : Array Slot), f_Ref_readAll_60 x2_12 K87_18 n x3_25 P0_26 = some z → va_P D vwCl (wC_Ref k b0 P0_26 L0) H → va_D A (wC_Ref k b0 P0_26 L0) → va_S A s.heap H locs → lv_has ls 4 [(0, .ref (b0 0)), (2, .int x2_12), (3, .int x3_25)] → W p l e rm_Ref_readAll s m args below meth c H locs 0 0 Q (F0 m 60 ls []) := by
            intro n
            induction n with
            | zero =>
              intro x3_25 P0_26 H locs ls hf
              exact nomatch (show (none : Option (Int32 × PI)) = some z from hf)
            | succ n ih_24 =>
              intro x3_25 P0_26 H locs ls hf hP hD hS hl
              have hf : f_Ref_readAll_60_b x2_12 K87_18 (f_Ref_readAll_60 x2_12 K87_18 n) x3_25 P0_26 = some z := hf
              unfold f_Ref_readAll_60_b at hf
              refine lv_iload_n hx hb dX12_readAll_60 rfl (lv_at hl 2 rfl) ?_
              refine lv_iconst (v := 4) hx hb dX12_readAll_61 (by decide) ?_
              refine lv_icmp_ge (tgt := 87) hx hb dX12_readAll_62 (by decide) (fun c_32 => ?_) (fun c_32 => ?_)
              · have hf := mb_if_t c_32 hf
                exact k87_19 P0_26 _ _ _ hf hP hD hS (lv_sub hl [0] rfl)
              · have hf := mb_if_f c_32 hf
                refine lv_aload_n hx hb dX12_readAll_65 rfl (lv_at hl 0 rfl) ?_
                refine va_get (D := D) (ci := 12) (v := .ref (b0 15)) (C := RX12) (T := TX12) (N := 42) hx hb hts iw_Ref hown hK hP 0 rfl rfl 14 (by decide) fl_41 (fun _ h9 => h9) rfl dX12_readAll_66 ?_
                refine lv_iload_n hx hb dX12_readAll_69 rfl (lv_at hl 1 rfl) ?_
                refine lv_iconst (v := 1) hx hb dX12_readAll_70 (by decide) ?_
                refine lv_iadd hx hb dX12_readAll_71 ?_
                refine lv_iload_n hx hb dX12_readAll_72 rfl (lv_at hl 2 rfl) ?_
                refine lv_iadd hx hb dX12_readAll_73 ?_
                refine lv_aload_n hx hb dX12_readAll_74 rfl (lv_at hl 0 rfl) ?_
                refine va_get (D := D) (ci := 12) (v := .ref (b0 34)) (C := RX12) (T := TX12) (N := 42) hx hb hts iw_Ref hown hK hP 0 rfl rfl 33 (by decide) fl_78 (fun _ h9 => h9) rfl dX12_readAll_75 ?_
                refine lv_iload_n hx hb dX12_readAll_78 rfl (lv_at hl 2 rfl) ?_
                obtain ⟨h_28, hf⟩ := mb_chk_s hf
                refine va_iald hx hb hK hP 22 0 rfl rfl h_28 dX12_readAll_79 ?_
                obtain ⟨h_30, hf⟩ := mb_chk_s hf
                obtain ⟨P0_29, e_, hf⟩ := mb_let_s hf
                refine va_iast hx hb hK hP hD hS 11 0 rfl rfl h_30 dX12_readAll_80 (fun H locs hP hD hS => ?_)
                have hP : va_P D vwCl (wC_Ref k b0 P0_29 L0) H := by rw [e_]; exact hP
                have hD : va_D A (wC_Ref k b0 P0_29 L0) := by rw [e_]; exact hD
                clear e_
                obtain ⟨x3_31, e_, hf⟩ := mb_let_s hf
                refine lv_iinc (v := x3_31) (lv' := [(3, .int x3_31), (0, .ref (b0 0)), (2, .int x2_12)]) hx hb dX12_readAll_81 hl (k := 2) rfl (by rw [e_]; rfl) (by decide) rfl (fun ls hl => ?_)
                clear e_
                refine lv_goto (tgt := 60) hx hb dX12_readAll_84 (by decide) ?_
                exact ih_24 x3_31 P0_29 _ _ _ hf hP hD hS (lv_sub hl [1, 2, 0] rfl)
          exact lp60_23 mb_fu x3_16 P0_14 _ _ _ hf hP hD hS (lv_sub hl [3, 1, 0] rfl)
        · have hf := mb_if_t c_33 hf
          refine lv_iload_n hx hb dX12_readAll_35 rfl (lv_at hl 0 rfl) ?_
          have hz := Option.some.inj hf
          subst hz
          exact hret _ _ _ _ dX12_readAll_36 hP hD hS
  exact lp12_4 mb_fu P0_3 _ _ _ hf hP hD hS (lv_sub hl [0] rfl)
def f_Ref_fault (P0 : PI) : Option (Int32 × PI) := mb_bd2 (f_Ref_readAll P0) (fun (r_1 : Int32) (P0_2 : PI) => some (r_1, P0_2))
def rm_Ref_fault : Room := { frames := 4, cells := 0, slots := 0, locals := 92 }
set_option maxHeartbeats 4000000 in
set_option maxRecDepth 100000 in
theorem c_Ref_fault (l : Launch) (D : va_G) (k : Nat → ClassId) (sz : Nat) (b0 : Nat → Nat) (P0 : PI) (L0 : PL) (z : Int32 × PI) (hf : f_Ref_fault P0 = some z) : Met l yX12_fault wsX12_fault rm_Ref_fault (va_Pc [.ref (b0 0)] (gw_pre D vwCl (tyL k) (wC_Ref k b0 P0 L0) sz)) (va_Qi (fun (r : Int32) (_ : Unit) => r = z.1) (gw_b D vwCl (tyL k) (va_A (wC_Ref k b0 P0 L0) sz) (wC_Ref k b0 z.2 L0)) (va_A (wC_Ref k b0 P0 L0) sz)) 0 0 (va_A (wC_Ref k b0 P0 L0) sz) := by
  refine gm_i (cc := cX12_fault) (maxL := 1) (by decide) rfl (Nat.le_of_ble_eq_true rfl) ?_
  intro p e s m args below meth c A Q ls H locs hx hb hml hown hts hK hN hA hP hD hS hl hret
  have hown : s.vm.findClass RX12 = some m.cls := hown
  have hl : lv_has ls 1 [(0, .ref (b0 0))] := hl
  unfold f_Ref_fault at hf
  refine lv_aload_n hx hb dX12_fault_0 rfl (lv_at hl 0 rfl) ?_
  obtain ⟨r_1, P0_2, hz, hf⟩ := mb_bd2_s hf
  refine gc_i (r0 := r_1) (ws' := (wC_Ref k b0 P0_2 L0)) (wr := ([] : va_W)) (va_runV (As := []) (rest := []) ⟨hx, hb, hml, hown, hts⟩ (c_Ref_readAll l D k H.size b0 P0 L0 (r_1, P0_2) hz) (cwV 0 hts gX12_fault_X12_readAll rfl rfl rfl (by decide +kernel) ⟨Nat.le_of_ble_eq_true rfl, Nat.le_of_ble_eq_true rfl⟩) (gp_V (ci := 12) (q0 := 0) (q := (RX12, TX12, 42)) hP hD hK hN [0, 1, 2, 3, 4, 5, 6, 7, 8, 9, 10, 11, 12, 13, 14, 15, 16, 17, 18, 19, 20, 21, 22, 23, 24, 25] (by decide +kernel) rfl rfl rfl) rfl rfl hl.1 rfl (lv_room (Nat.le_of_ble_eq_true rfl)) dX12_fault_1 ⟨Nat.zero_le _, Nat.zero_le _⟩) hP hD hS hA [0, 1, 2, 3, 4, 5, 6, 7, 8, 9, 10, 11, 12, 13, 14, 15, 16, 17, 18, 19, 20, 21, 22, 23, 24, 25] [] rfl rfl (by decide +kernel) (by decide +kernel) [0, 1, 2, 3, 4, 5, 6, 7, 8, 9, 10, 11, 12, 13, 14, 15, 16, 17, 18, 19, 20, 21, 22, 23, 24, 25] (by decide +kernel) rfl (fun H locs hP hD hS => ?_)
  clear hz
  have hz := Option.some.inj hf
  subst hz
  exact hret _ _ _ _ dX12_fault_4 hP hD hS
def f_Ref_force_26_b (K55_8 : PI → Option (Int32 × PI)) (self_15 : Int32 → PI → Option (Int32 × PI)) (x1_13 : Int32) (P0_14 : PI) : Option (Int32 × PI) := (if (300 : Int32) ≤ x1_13 then K55_8 P0_14 else mb_chk x1_13 600 (mb_chk ((300 : Int32) + x1_13) 600 (mb_let (mb_u2 P0_14 15 ((300 : Int32) + x1_13).toNatClampNeg (P0_14 15 x1_13.toNatClampNeg)) (fun (P0_17 : PI) => mb_let (x1_13 + (1 : Int32)) (fun (x1_19 : Int32) => self_15 x1_19 P0_17)))))
def f_Ref_force_26 (K55_8 : PI → Option (Int32 × PI)) : Nat → Int32 → PI → Option (Int32 × PI)
  | 0, _, _ => none
  | n + 1, x1_13, P0_14 => f_Ref_force_26_b K55_8 (f_Ref_force_26 K55_8 n) x1_13 P0_14
def f_Ref_force (P0 : PI) : Option (Int32 × PI) := mb_bd2 (f_Ref_readAll P0) (fun (r_1 : Int32) (P0_2 : PI) => (if r_1 = (-4 : Int32) then mb_chk (0 : Int32) 2 (mb_chk (1 : Int32) 2 (mb_let (mb_u2 P0_2 14 (1 : Int32).toNatClampNeg (P0_2 14 (0 : Int32).toNatClampNeg)) (fun (P0_4 : PI) => mb_let (0 : Int32) (fun (x1_6 : Int32) => mb_jn (fun (P0_7 : PI) => mb_chk (1 : Int32) 2 (some ((P0_7 14 (1 : Int32).toNatClampNeg), P0_7))) (fun K55_8 => f_Ref_force_26 K55_8 mb_fu x1_6 P0_4))))) else some ((-2 : Int32), P0_2)))
def rm_Ref_force : Room := { frames := 4, cells := 0, slots := 0, locals := 92 }
set_option maxHeartbeats 4000000 in
set_option maxRecDepth 100000 in
theorem c_Ref_force (l : Launch) (D : va_G) (k : Nat → ClassId) (sz : Nat) (b0 : Nat → Nat) (P0 : PI) (L0 : PL) (z : Int32 × PI) (hf : f_Ref_force P0 = some z) : Met l yX12_force wsX12_force rm_Ref_force (va_Pc [.ref (b0 0)] (gw_pre D vwCl (tyL k) (wC_Ref k b0 P0 L0) sz)) (va_Qi (fun (r : Int32) (_ : Unit) => r = z.1) (gw_b D vwCl (tyL k) (va_A (wC_Ref k b0 P0 L0) sz) (wC_Ref k b0 z.2 L0)) (va_A (wC_Ref k b0 P0 L0) sz)) 0 0 (va_A (wC_Ref k b0 P0 L0) sz) := by
  refine gm_i (cc := cX12_force) (maxL := 2) (by decide) rfl (Nat.le_of_ble_eq_true rfl) ?_
  intro p e s m args below meth c A Q ls H locs hx hb hml hown hts hK hN hA hP hD hS hl hret
  have hown : s.vm.findClass RX12 = some m.cls := hown
  have hl : lv_has ls 2 [(0, .ref (b0 0))] := hl
  have iw_Ref : ∀ w ∈ u_ws RX12 TX12 42, w ∈ wsX12_force := by decide +kernel
  have fl_38 := hts (.fieldLink RX12 38 "OneMeasureModel" "itemMany" "[I") (by decide +kernel)
  have fl_41 := hts (.fieldLink RX12 41 "OneMeasureModel" "items" "[I") (by decide +kernel)
  unfold f_Ref_force at hf
  refine lv_aload_n hx hb dX12_force_0 rfl (lv_at hl 0 rfl) ?_
  obtain ⟨r_1, P0_2, hz, hf⟩ := mb_bd2_s hf
  refine gc_i (r0 := r_1) (ws' := (wC_Ref k b0 P0_2 L0)) (wr := ([] : va_W)) (va_runV (As := []) (rest := []) ⟨hx, hb, hml, hown, hts⟩ (c_Ref_readAll l D k H.size b0 P0 L0 (r_1, P0_2) hz) (cwV 0 hts gX12_force_X12_readAll rfl rfl rfl (by decide +kernel) ⟨Nat.le_of_ble_eq_true rfl, Nat.le_of_ble_eq_true rfl⟩) (gp_V (ci := 12) (q0 := 0) (q := (RX12, TX12, 42)) hP hD hK hN [0, 1, 2, 3, 4, 5, 6, 7, 8, 9, 10, 11, 12, 13, 14, 15, 16, 17, 18, 19, 20, 21, 22, 23, 24, 25] (by decide +kernel) rfl rfl rfl) rfl rfl hl.1 rfl (lv_room (Nat.le_of_ble_eq_true rfl)) dX12_force_1 ⟨Nat.zero_le _, Nat.zero_le _⟩) hP hD hS hA [0, 1, 2, 3, 4, 5, 6, 7, 8, 9, 10, 11, 12, 13, 14, 15, 16, 17, 18, 19, 20, 21, 22, 23, 24, 25] [] rfl rfl (by decide +kernel) (by decide +kernel) [0, 1, 2, 3, 4, 5, 6, 7, 8, 9, 10, 11, 12, 13, 14, 15, 16, 17, 18, 19, 20, 21, 22, 23, 24, 25] (by decide +kernel) rfl (fun H locs hP hD hS => ?_)
  clear hz
  refine lv_bipush (v := (-4)) hx hb dX12_force_4 (by decide) ?_
  refine lv_icmp_eq (tgt := 12) hx hb dX12_force_6 (by decide) (fun c_21 => ?_) (fun c_21 => ?_)
  · have hf := mb_if_t c_21 hf
    refine lv_aload_n hx hb dX12_force_12 rfl (lv_at hl 0 rfl) ?_
    refine va_get (D := D) (ci := 12) (v := .ref (b0 14)) (C := RX12) (T := TX12) (N := 42) hx hb hts iw_Ref hown hK hP 0 rfl rfl 13 (by decide) fl_38 (fun _ h9 => h9) rfl dX12_force_13 ?_
    refine lv_iconst (v := 1) hx hb dX12_force_16 (by decide) ?_
    refine lv_aload_n hx hb dX12_force_17 rfl (lv_at hl 0 rfl) ?_
    refine va_get (D := D) (ci := 12) (v := .ref (b0 14)) (C := RX12) (T := TX12) (N := 42) hx hb hts iw_Ref hown hK hP 0 rfl rfl 13 (by decide) fl_38 (fun _ h9 => h9) rfl dX12_force_18 ?_
    refine lv_iconst (v := 0) hx hb dX12_force_21 (by decide) ?_
    obtain ⟨h_3, hf⟩ := mb_chk_s hf
    refine va_iald hx hb hK hP 10 0 rfl rfl h_3 dX12_force_22 ?_
    obtain ⟨h_5, hf⟩ := mb_chk_s hf
    obtain ⟨P0_4, e_, hf⟩ := mb_let_s hf
    refine va_iast hx hb hK hP hD hS 10 0 rfl rfl h_5 dX12_force_23 (fun H locs hP hD hS => ?_)
    have hP : va_P D vwCl (wC_Ref k b0 P0_4 L0) H := by rw [e_]; exact hP
    have hD : va_D A (wC_Ref k b0 P0_4 L0) := by rw [e_]; exact hD
    clear e_
    refine lv_iconst (v := 0) hx hb dX12_force_24 (by decide) ?_
    obtain ⟨x1_6, e_, hf⟩ := mb_let_s hf
    refine mb_topi e_ ?_
    clear e_
    refine lv_istore_n (lv' := [(1, .int x1_6), (0, .ref (b0 0))]) hx hb dX12_force_25 rfl hl (by decide) rfl (fun ls hl => ?_)
    obtain ⟨K55_8, eK55_8, hf⟩ := mb_jn_s hf
    have k55_9 : ∀ (P0_7 : PI) (H : Heap) (locs : List Loc) (ls : Array Slot), K55_8 P0_7 = some z → va_P D vwCl (wC_Ref k b0 P0_7 L0) H → va_D A (wC_Ref k b0 P0_7 L0) → va_S A s.heap H locs → lv_has ls 2 [(0, .ref (b0 0))] → W p l e rm_Ref_force s m args below meth c H locs 0 0 Q (F0 m 55 ls []) := by
      intro P0_7 H locs ls hf hP hD hS hl
      have hf := mb_j1 eK55_8 hf
      refine lv_aload_n hx hb dX12_force_55 rfl (lv_at hl 0 rfl) ?_
      refine va_get (D := D) (ci := 12) (v := .ref (b0 14)) (C := RX12) (T := TX12) (N := 42) hx hb hts iw_Ref hown hK hP 0 rfl rfl 13 (by decide) fl_38 (fun _ h9 => h9) rfl dX12_force_56 ?_
      refine lv_iconst (v := 1) hx hb dX12_force_59 (by decide) ?_
      obtain ⟨h_10, hf⟩ := mb_chk_s hf
      refine va_iald hx hb hK hP 10 0 rfl rfl h_10 dX12_force_60 ?_
      have hz := Option.some.inj hf
      subst hz
      exact hret _ _ _ _ dX12_force_61 hP hD hS
    have lp26_11 : ∀ (n : Nat) (x1_13 : Int32) (P0_14 : PI) (H : Heap) (locs : List Loc) (ls : Array Slot), f_Ref_force_26 K55_8 n x1_13 P0_14 = some z → va_P D vwCl (wC_Ref k b0 P0_14 L0) H → va_D A (wC_Ref k b0 P0_14 L0) → va_S A s.heap H locs → lv_has ls 2 [(0, .ref (b0 0)), (1, .int x1_13)] → W p l e rm_Ref_force s m args below meth c H locs 0 0 Q (F0 m 26 ls []) := by
      intro n
      induction n with
      | zero =>
        intro x1_13 P0_14 H locs ls hf
        exact nomatch (show (none : Option (Int32 × PI)) = some z from hf)
      | succ n ih_12 =>
        intro x1_13 P0_14 H locs ls hf hP hD hS hl
        have hf : f_Ref_force_26_b K55_8 (f_Ref_force_26 K55_8 n) x1_13 P0_14 = some z := hf
        unfold f_Ref_force_26_b at hf
        refine lv_iload_n hx hb dX12_force_26 rfl (lv_at hl 1 rfl) ?_
        refine lv_sipush (v := 300) hx hb dX12_force_27 (by decide) ?_
        refine lv_icmp_ge (tgt := 55) hx hb dX12_force_30 (by decide) (fun c_20 => ?_) (fun c_20 => ?_)
        · have hf := mb_if_t c_20 hf
          exact k55_9 P0_14 _ _ _ hf hP hD hS (lv_sub hl [0] rfl)
        · have hf := mb_if_f c_20 hf
          refine lv_aload_n hx hb dX12_force_33 rfl (lv_at hl 0 rfl) ?_
          refine va_get (D := D) (ci := 12) (v := .ref (b0 15)) (C := RX12) (T := TX12) (N := 42) hx hb hts iw_Ref hown hK hP 0 rfl rfl 14 (by decide) fl_41 (fun _ h9 => h9) rfl dX12_force_34 ?_
          refine lv_sipush (v := 300) hx hb dX12_force_37 (by decide) ?_
          refine lv_iload_n hx hb dX12_force_40 rfl (lv_at hl 1 rfl) ?_
          refine lv_iadd hx hb dX12_force_41 ?_
          refine lv_aload_n hx hb dX12_force_42 rfl (lv_at hl 0 rfl) ?_
          refine va_get (D := D) (ci := 12) (v := .ref (b0 15)) (C := RX12) (T := TX12) (N := 42) hx hb hts iw_Ref hown hK hP 0 rfl rfl 14 (by decide) fl_41 (fun _ h9 => h9) rfl dX12_force_43 ?_
          refine lv_iload_n hx hb dX12_force_46 rfl (lv_at hl 1 rfl) ?_
          obtain ⟨h_16, hf⟩ := mb_chk_s hf
          refine va_iald hx hb hK hP 11 0 rfl rfl h_16 dX12_force_47 ?_
          obtain ⟨h_18, hf⟩ := mb_chk_s hf
          obtain ⟨P0_17, e_, hf⟩ := mb_let_s hf
          refine va_iast hx hb hK hP hD hS 11 0 rfl rfl h_18 dX12_force_48 (fun H locs hP hD hS => ?_)
          have hP : va_P D vwCl (wC_Ref k b0 P0_17 L0) H := by rw [e_]; exact hP
          have hD : va_D A (wC_Ref k b0 P0_17 L0) := by rw [e_]; exact hD
          clear e_
          obtain ⟨x1_19, e_, hf⟩ := mb_let_s hf
          refine lv_iinc (v := x1_19) (lv' := [(1, .int x1_19), (0, .ref (b0 0))]) hx hb dX12_force_49 hl (k := 1) rfl (by rw [e_]; rfl) (by decide) rfl (fun ls hl => ?_)
          clear e_
          refine lv_goto (tgt := 26) hx hb dX12_force_52 (by decide) ?_
          exact ih_12 x1_19 P0_17 _ _ _ hf hP hD hS (lv_sub hl [1, 0] rfl)
    exact lp26_11 mb_fu x1_6 P0_4 _ _ _ hf hP hD hS (lv_sub hl [1, 0] rfl)
  · have hf := mb_if_f c_21 hf
    refine lv_bipush (v := (-2)) hx hb dX12_force_9 (by decide) ?_
    have hz := Option.some.inj hf
    subst hz
    exact hret _ _ _ _ dX12_force_11 hP hD hS
def f_Ref_isAsked (x0 : Int32) (x1 : Int32) (x2 : Int32) : Option (Int32) := mb_bd1 (f_Ref_in ((x0).toInt64) (0 : Int64) (15 : Int64)) (fun (r_1 : Int32) => (if r_1 = 0 then some (0 : Int32) else mb_bd1 (f_Ref_in ((x1).toInt64) (0 : Int64) (5 : Int64)) (fun (r_2 : Int32) => (if r_2 = 0 then some (0 : Int32) else mb_bd1 (f_Ref_in ((x2).toInt64) (0 : Int64) (9999 : Int64)) (fun (r_3 : Int32) => (if r_3 = 0 then some (0 : Int32) else some (1 : Int32)))))))
def rm_Ref_isAsked : Room := { frames := 1, cells := 0, slots := 0, locals := 25 }
set_option maxHeartbeats 4000000 in
set_option maxRecDepth 100000 in
theorem c_Ref_isAsked (l : Launch) (D : va_G) (k : Nat → ClassId) (sz : Nat) (x0 : Int32) (x1 : Int32) (x2 : Int32) (z : Int32) (hf : f_Ref_isAsked x0 x1 x2 = some z) : Met l yX12_isAsked wsX12_isAsked rm_Ref_isAsked (va_Pc [.int x0, .int x1, .int x2] (gw_pre D vwCl (tyL k) ([] : va_W) sz)) (va_Qi (fun (r : Int32) (_ : Unit) => r = z) (gw_b D vwCl (tyL k) (va_A ([] : va_W) sz) ([] : va_W)) (va_A ([] : va_W) sz)) 0 0 (va_A ([] : va_W) sz) := by
  refine gm_z (cc := cX12_isAsked) (maxL := 3) (by decide) rfl (Nat.le_of_ble_eq_true rfl) ?_
  intro p e s m args below meth c A Q ls H locs hx hb hml hown hts hK hN hA hP hD hS hl hret
  have hown : s.vm.findClass RX12 = some m.cls := hown
  have hl : lv_has ls 3 [(0, .int x0), (1, .int x1), (2, .int x2)] := hl
  have lc_198 := hts (.constantLong RX12 198 (15)) (by decide +kernel)
  have lc_200 := hts (.constantLong RX12 200 (5)) (by decide +kernel)
  have lc_211 := hts (.constantLong RX12 211 (9999)) (by decide +kernel)
  unfold f_Ref_isAsked at hf
  refine lv_iload_n hx hb dX12_isAsked_0 rfl (lv_at hl 0 rfl) ?_
  refine lv_i2l hx hb dX12_isAsked_1 rfl ?_
  refine lv_lconst (v := 0) hx hb dX12_isAsked_2 (by decide) ?_
  refine lv_ldc2 (v := (15)) hx hb hown lc_198 dX12_isAsked_3 ?_
  obtain ⟨r_1, hz, hf⟩ := mb_bd1_s hf
  refine gc_i (r0 := r_1) (ws' := ([] : va_W)) (wr := ([] : va_W)) (va_runS (As := [.long (x0).toInt64, .long (0 : Int64), .long (15 : Int64)]) (rest := []) ⟨hx, hb, hml, hown, hts⟩ (c_Ref_in l D k H.size ((x0).toInt64) (0 : Int64) (15 : Int64) r_1 hz) (cwS 3 hts gX12_isAsked_X12_in rfl rfl rfl (by decide +kernel) ⟨Nat.le_of_ble_eq_true rfl, Nat.le_of_ble_eq_true rfl⟩) (gp_S hP hD hK hN [] (by decide +kernel) rfl) rfl rfl hl.1 rfl (lv_room (Nat.le_of_ble_eq_true rfl)) dX12_isAsked_6 ⟨Nat.zero_le _, Nat.zero_le _⟩) hP hD hS hA [] [] rfl rfl (by decide +kernel) (by decide +kernel) [] (by decide +kernel) rfl (fun H locs hP hD hS => ?_)
  clear hz
  refine lv_if_eq (tgt := 40) hx hb dX12_isAsked_9 (by decide) (fun c_6 => ?_) (fun c_6 => ?_)
  · have hf := mb_if_t c_6 hf
    refine lv_iconst (v := 0) hx hb dX12_isAsked_40 (by decide) ?_
    have hz := Option.some.inj hf
    subst hz
    exact hret _ _ _ _ mb_n0 dX12_isAsked_41 hP hD hS
  · have hf := mb_if_f c_6 hf
    refine lv_iload_n hx hb dX12_isAsked_12 rfl (lv_at hl 1 rfl) ?_
    refine lv_i2l hx hb dX12_isAsked_13 rfl ?_
    refine lv_lconst (v := 0) hx hb dX12_isAsked_14 (by decide) ?_
    refine lv_ldc2 (v := (5)) hx hb hown lc_200 dX12_isAsked_15 ?_
    obtain ⟨r_2, hz, hf⟩ := mb_bd1_s hf
    refine gc_i (r0 := r_2) (ws' := ([] : va_W)) (wr := ([] : va_W)) (va_runS (As := [.long (x1).toInt64, .long (0 : Int64), .long (5 : Int64)]) (rest := []) ⟨hx, hb, hml, hown, hts⟩ (c_Ref_in l D k H.size ((x1).toInt64) (0 : Int64) (5 : Int64) r_2 hz) (cwS 3 hts gX12_isAsked_X12_in rfl rfl rfl (by decide +kernel) ⟨Nat.le_of_ble_eq_true rfl, Nat.le_of_ble_eq_true rfl⟩) (gp_S hP hD hK hN [] (by decide +kernel) rfl) rfl rfl hl.1 rfl (lv_room (Nat.le_of_ble_eq_true rfl)) dX12_isAsked_18 ⟨Nat.zero_le _, Nat.zero_le _⟩) hP hD hS hA [] [] rfl rfl (by decide +kernel) (by decide +kernel) [] (by decide +kernel) rfl (fun H locs hP hD hS => ?_)
    clear hz
    refine lv_if_eq (tgt := 40) hx hb dX12_isAsked_21 (by decide) (fun c_5 => ?_) (fun c_5 => ?_)
    · have hf := mb_if_t c_5 hf
      refine lv_iconst (v := 0) hx hb dX12_isAsked_40 (by decide) ?_
      have hz := Option.some.inj hf
      subst hz
      exact hret _ _ _ _ mb_n0 dX12_isAsked_41 hP hD hS
    · have hf := mb_if_f c_5 hf
      refine lv_iload_n hx hb dX12_isAsked_24 rfl (lv_at hl 2 rfl) ?_
      refine lv_i2l hx hb dX12_isAsked_25 rfl ?_
      refine lv_lconst (v := 0) hx hb dX12_isAsked_26 (by decide) ?_
      refine lv_ldc2 (v := (9999)) hx hb hown lc_211 dX12_isAsked_27 ?_
      obtain ⟨r_3, hz, hf⟩ := mb_bd1_s hf
      refine gc_i (r0 := r_3) (ws' := ([] : va_W)) (wr := ([] : va_W)) (va_runS (As := [.long (x2).toInt64, .long (0 : Int64), .long (9999 : Int64)]) (rest := []) ⟨hx, hb, hml, hown, hts⟩ (c_Ref_in l D k H.size ((x2).toInt64) (0 : Int64) (9999 : Int64) r_3 hz) (cwS 3 hts gX12_isAsked_X12_in rfl rfl rfl (by decide +kernel) ⟨Nat.le_of_ble_eq_true rfl, Nat.le_of_ble_eq_true rfl⟩) (gp_S hP hD hK hN [] (by decide +kernel) rfl) rfl rfl hl.1 rfl (lv_room (Nat.le_of_ble_eq_true rfl)) dX12_isAsked_30 ⟨Nat.zero_le _, Nat.zero_le _⟩) hP hD hS hA [] [] rfl rfl (by decide +kernel) (by decide +kernel) [] (by decide +kernel) rfl (fun H locs hP hD hS => ?_)
      clear hz
      refine lv_if_eq (tgt := 40) hx hb dX12_isAsked_33 (by decide) (fun c_4 => ?_) (fun c_4 => ?_)
      · have hf := mb_if_t c_4 hf
        refine lv_iconst (v := 0) hx hb dX12_isAsked_40 (by decide) ?_
        have hz := Option.some.inj hf
        subst hz
        exact hret _ _ _ _ mb_n0 dX12_isAsked_41 hP hD hS
      · have hf := mb_if_f c_4 hf
        refine lv_iconst (v := 1) hx hb dX12_isAsked_36 (by decide) ?_
        refine lv_goto (tgt := 41) hx hb dX12_isAsked_37 (by decide) ?_
        have hz := Option.some.inj hf
        subst hz
        exact hret _ _ _ _ mb_n1 dX12_isAsked_41 hP hD hS
