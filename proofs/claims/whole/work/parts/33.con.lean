def f_Trials_leftAtMost (L0 : PL) (x1 : Int64) : Option (Int64) := mb_let (((L0 0 7) - (L0 0 6)) + (1 : Int64)) (fun (x3_1 : Int64) => mb_let (if x1 < (L0 0 7) then x1 else (L0 0 7)) (fun (v_2 : Int64) => mb_let (if ((v_2 - (L0 0 6)) + (1 : Int64)) < (0 : Int64) then (0 : Int64) else ((v_2 - (L0 0 6)) + (1 : Int64))) (fun (v_3 : Int64) => mb_let v_3 (fun (x5_4 : Int64) => mb_let (if (x3_1 - x5_4) < x5_4 then x5_4 else (x3_1 - x5_4)) (fun (v_5 : Int64) => some v_5)))))
def rm_Trials_leftAtMost : Room := { frames := 1, cells := 0, slots := 0, locals := 40 }
set_option maxHeartbeats 4000000 in
set_option maxRecDepth 100000 in
theorem c_Trials_leftAtMost (l : Launch) (D : va_G) (k : Nat → ClassId) (sz : Nat) (b0 : Nat → Nat) (P0 : PI) (L0 : PL) (x1 : Int64) (z : Int64) (hf : f_Trials_leftAtMost L0 x1 = some z) : Met l yX8_leftAtMost wsX8_leftAtMost rm_Trials_leftAtMost (va_Pc [.ref (b0 0), .long x1] (gw_pre D vwCl (tyL k) (wC_Trials k b0 P0 L0) sz)) (va_Ql (fun (r : Int64) (_ : Unit) => r = z) (gw_b D vwCl (tyL k) (va_A (wC_Trials k b0 P0 L0) sz) (wC_Trials k b0 P0 L0)) (va_A (wC_Trials k b0 P0 L0) sz)) 0 0 (va_A (wC_Trials k b0 P0 L0) sz) := by
  refine gm_l (cc := cX8_leftAtMost) (maxL := 7) (by decide) rfl (Nat.le_of_ble_eq_true rfl) ?_
  intro p e s m args below meth c A Q ls H locs hx hb hml hown hts hK hN hA hP hD hS hl hret
  have hown : s.vm.findClass RX8 = some m.cls := hown
  have hl : lv_has ls 7 [(0, .ref (b0 0)), (1, .long x1)] := hl
  have iw_Trials : ∀ w ∈ u_ws RX8 TX8 10, w ∈ wsX8_leftAtMost := by decide +kernel
  have fl_31 := hts (.fieldLink RX8 31 "OneMeasure$Trials" "least" "J") (by decide +kernel)
  have fl_37 := hts (.fieldLink RX8 37 "OneMeasure$Trials" "greatest" "J") (by decide +kernel)
  have ml_50 := hts (.methodLink RX8 50 Lib.MathLoose.max_long.x) (by decide +kernel)
  have maxJ_st := hts (.static Lib.MathLoose.max_long.x) (by decide +kernel)
  have ma_ini := hts (.initialized "java/lang/Math") (by decide +kernel)
  have maxJ_code := hts (.code Lib.MathLoose.max_long.x Lib.MathLoose.max_long.code 4 (some .long)) (by decide +kernel)
  have ml_56 := hts (.methodLink RX8 56 Lib.MathLoose.min_long.x) (by decide +kernel)
  have minJ_st := hts (.static Lib.MathLoose.min_long.x) (by decide +kernel)
  have minJ_code := hts (.code Lib.MathLoose.min_long.x Lib.MathLoose.min_long.code 4 (some .long)) (by decide +kernel)
  unfold f_Trials_leftAtMost at hf
  refine lv_aload_n hx hb dX8_leftAtMost_0 rfl (lv_at hl 0 rfl) ?_
  refine va_get (D := D) (ci := 8) (v := .long (L0 0 7)) (C := RX8) (T := TX8) (N := 10) hx hb hts iw_Trials hown hK hP 0 rfl rfl 7 (by decide) fl_37 (fun _ h9 => h9) rfl dX8_leftAtMost_1 ?_
  refine lv_aload_n hx hb dX8_leftAtMost_4 rfl (lv_at hl 0 rfl) ?_
  refine va_get (D := D) (ci := 8) (v := .long (L0 0 6)) (C := RX8) (T := TX8) (N := 10) hx hb hts iw_Trials hown hK hP 0 rfl rfl 6 (by decide) fl_31 (fun _ h9 => h9) rfl dX8_leftAtMost_5 ?_
  refine lv_lsub hx hb dX8_leftAtMost_8 ?_
  refine lv_lconst (v := 1) hx hb dX8_leftAtMost_9 (by decide) ?_
  refine lv_ladd hx hb dX8_leftAtMost_10 ?_
  obtain ⟨x3_1, e_, hf⟩ := mb_let_s hf
  refine mb_topl e_ ?_
  clear e_
  refine lv_lstore_n (lv' := [(3, .long x3_1), (0, .ref (b0 0)), (1, .long x1)]) hx hb dX8_leftAtMost_11 rfl hl (by decide) rfl (fun ls hl => ?_)
  refine lv_lconst (v := 0) hx hb dX8_leftAtMost_12 (by decide) ?_
  refine lv_aload_n hx hb dX8_leftAtMost_13 rfl (lv_at hl 1 rfl) ?_
  refine va_get (D := D) (ci := 8) (v := .long (L0 0 7)) (C := RX8) (T := TX8) (N := 10) hx hb hts iw_Trials hown hK hP 0 rfl rfl 7 (by decide) fl_37 (fun _ h9 => h9) rfl dX8_leftAtMost_14 ?_
  refine lv_lload_n hx hb dX8_leftAtMost_17 rfl (lv_at hl 2 rfl) ?_
  obtain ⟨v_2, e_, hf⟩ := mb_let_s hf
  refine va_mmin_long hx hb (hml.trans hl.1.symm) hown ml_56 minJ_st ma_ini minJ_code (Nat.le_of_ble_eq_true rfl) (Nat.le_of_ble_eq_true rfl) (Nat.zero_le _) (Nat.zero_le _) dX8_leftAtMost_18 ?_
  refine mb_topl e_ ?_
  clear e_
  refine lv_aload_n hx hb dX8_leftAtMost_21 rfl (lv_at hl 1 rfl) ?_
  refine va_get (D := D) (ci := 8) (v := .long (L0 0 6)) (C := RX8) (T := TX8) (N := 10) hx hb hts iw_Trials hown hK hP 0 rfl rfl 6 (by decide) fl_31 (fun _ h9 => h9) rfl dX8_leftAtMost_22 ?_
  refine lv_lsub hx hb dX8_leftAtMost_25 ?_
  refine lv_lconst (v := 1) hx hb dX8_leftAtMost_26 (by decide) ?_
  refine lv_ladd hx hb dX8_leftAtMost_27 ?_
  obtain ⟨v_3, e_, hf⟩ := mb_let_s hf
  refine va_mmax_long hx hb (hml.trans hl.1.symm) hown ml_50 maxJ_st ma_ini maxJ_code (Nat.le_of_ble_eq_true rfl) (Nat.le_of_ble_eq_true rfl) (Nat.zero_le _) (Nat.zero_le _) dX8_leftAtMost_28 ?_
  refine mb_topl e_ ?_
  clear e_
  obtain ⟨x5_4, e_, hf⟩ := mb_let_s hf
  refine mb_topl e_ ?_
  clear e_
  refine lv_lstore (lv' := [(5, .long x5_4), (3, .long x3_1), (0, .ref (b0 0)), (1, .long x1)]) hx hb dX8_leftAtMost_31 hl (by decide) rfl (fun ls hl => ?_)
  refine lv_lload hx hb dX8_leftAtMost_33 (lv_at hl 0 rfl) ?_
  refine lv_lload_n hx hb dX8_leftAtMost_35 rfl (lv_at hl 1 rfl) ?_
  refine lv_lload hx hb dX8_leftAtMost_36 (lv_at hl 0 rfl) ?_
  refine lv_lsub hx hb dX8_leftAtMost_38 ?_
  obtain ⟨v_5, e_, hf⟩ := mb_let_s hf
  refine va_mmax_long hx hb (hml.trans hl.1.symm) hown ml_50 maxJ_st ma_ini maxJ_code (Nat.le_of_ble_eq_true rfl) (Nat.le_of_ble_eq_true rfl) (Nat.zero_le _) (Nat.zero_le _) dX8_leftAtMost_39 ?_
  refine mb_topl e_ ?_
  clear e_
  have hz := Option.some.inj hf
  subst hz
  exact hret _ _ _ _ dX8_leftAtMost_42 hP hD hS
def f_Trials_divide_17_b (L0 : PL) (x1 : Int64) (x5_6 : Int32) (K70_12 : Int64 → PI → Option (PI)) (self_20 : Int64 → Int32 → PI → Option (PI)) (x3_17 : Int64) (x6_18 : Int32) (P0_19 : PI) : Option (PI) := (if (10 : Int32) < x6_18 then K70_12 x3_17 P0_19 else mb_dvl (x5_6).toInt64 (mb_bd1 (f_Trials_leftAtMost L0 (((x6_18).toInt64 * x1) / (x5_6).toInt64)) (fun (r_22 : Int64) => mb_let r_22 (fun (x7_23 : Int64) => (if (lg_cmp x7_23 x3_17) < 0 then mb_let x7_23 (fun (x3_24 : Int64) => mb_let (mb_uo P0_19 8 x5_6) (fun (P0_25 : PI) => mb_let (mb_uo P0_25 9 x6_18) (fun (P0_26 : PI) => mb_let (x6_18 + (1 : Int32)) (fun (x6_27 : Int32) => self_20 x3_24 x6_27 P0_26)))) else mb_let (x6_18 + (1 : Int32)) (fun (x6_28 : Int32) => self_20 x3_17 x6_28 P0_19))))))
def f_Trials_divide_17 (L0 : PL) (x1 : Int64) (x5_6 : Int32) (K70_12 : Int64 → PI → Option (PI)) : Nat → Int64 → Int32 → PI → Option (PI)
  | 0, _, _, _ => none
  | n + 1, x3_17, x6_18, P0_19 => f_Trials_divide_17_b L0 x1 x5_6 K70_12 (f_Trials_divide_17 L0 x1 x5_6 K70_12 n) x3_17 x6_18 P0_19
def f_Trials_divide_7_b (L0 : PL) (x1 : Int64) (self_8 : Int64 → Int32 → PI → Option (PI)) (x3_5 : Int64) (x5_6 : Int32) (P0_7 : PI) : Option (PI) := (if (10 : Int32) < x5_6 then some P0_7 else mb_let (1 : Int32) (fun (x6_9 : Int32) => mb_jn (fun (x3_10 : Int64) (P0_11 : PI) => mb_let (x5_6 + (1 : Int32)) (fun (x5_14 : Int32) => self_8 x3_10 x5_14 P0_11)) (fun K70_12 => f_Trials_divide_17 L0 x1 x5_6 K70_12 mb_fu x3_5 x6_9 P0_7)))
def f_Trials_divide_7 (L0 : PL) (x1 : Int64) : Nat → Int64 → Int32 → PI → Option (PI)
  | 0, _, _, _ => none
  | n + 1, x3_5, x5_6, P0_7 => f_Trials_divide_7_b L0 x1 (f_Trials_divide_7 L0 x1 n) x3_5 x5_6 P0_7
def f_Trials_divide (P0 : PI) (L0 : PL) (x1 : Int64) : Option (PI) := mb_let (9223372036854775807 : Int64) (fun (x3_1 : Int64) => mb_let (1 : Int32) (fun (x5_2 : Int32) => f_Trials_divide_7 L0 x1 mb_fu x3_1 x5_2 P0))
def rm_Trials_divide : Room := { frames := 2, cells := 0, slots := 0, locals := 66 }
set_option maxHeartbeats 4000000 in
set_option maxRecDepth 100000 in
theorem c_Trials_divide (l : Launch) (D : va_G) (k : Nat → ClassId) (sz : Nat) (b0 : Nat → Nat) (P0 : PI) (L0 : PL) (x1 : Int64) (z : PI) (hf : f_Trials_divide P0 L0 x1 = some z) : Met l yX8_divide wsX8_divide rm_Trials_divide (va_Pc [.ref (b0 0), .long x1] (gw_pre D vwCl (tyL k) (wC_Trials k b0 P0 L0) sz)) (va_Qv (fun (_ : Unit) => True) (gw_b D vwCl (tyL k) (va_A (wC_Trials k b0 P0 L0) sz) (wC_Trials k b0 z L0)) (va_A (wC_Trials k b0 P0 L0) sz)) 0 0 (va_A (wC_Trials k b0 P0 L0) sz) := by
  refine gm_v (cc := cX8_divide) (maxL := 9) (by decide) rfl (Nat.le_of_ble_eq_true rfl) ?_
  intro p e s m args below meth c A Q ls H locs hx hb hml hown hts hK hN hA hP hD hS hl hret
  have hown : s.vm.findClass RX8 = some m.cls := hown
  have hl : lv_has ls 9 [(0, .ref (b0 0)), (1, .long x1)] := hl
  have iw_Trials : ∀ w ∈ u_ws RX8 TX8 10, w ∈ wsX8_divide := by decide +kernel
  have fl_40 := hts (.fieldLink RX8 40 "OneMeasure$Trials" "partingX" "I") (by decide +kernel)
  have fl_43 := hts (.fieldLink RX8 43 "OneMeasure$Trials" "partingY" "I") (by decide +kernel)
  have lc_61 := hts (.constantLong RX8 61 (9223372036854775807)) (by decide +kernel)
  unfold f_Trials_divide at hf
  refine lv_ldc2 (v := (9223372036854775807)) hx hb hown lc_61 dX8_divide_0 ?_
  obtain ⟨x3_1, e_, hf⟩ := mb_let_s hf
  refine mb_topl e_ ?_
  clear e_
  refine lv_lstore_n (lv' := [(3, .long x3_1), (0, .ref (b0 0)), (1, .long x1)]) hx hb dX8_divide_3 rfl hl (by decide) rfl (fun ls hl => ?_)
  refine lv_iconst (v := 1) hx hb dX8_divide_4 (by decide) ?_
  obtain ⟨x5_2, e_, hf⟩ := mb_let_s hf
  refine mb_topi e_ ?_
  clear e_
  refine lv_istore (lv' := [(5, .int x5_2), (3, .long x3_1), (0, .ref (b0 0)), (1, .long x1)]) hx hb dX8_divide_5 hl (by decide) rfl (fun ls hl => ?_)
  have lp7_3 : ∀ (n : Nat) (x3_5 : Int64) (x5_6 : Int32) (P0_7 : PI) (H : Heap) (locs : List Loc) (ls : Array Slot), f_Trials_divide_7 L0 x1 n x3_5 x5_6 P0_7 = some z → va_P D vwCl (wC_Trials k b0 P0_7 L0) H → va_D A (wC_Trials k b0 P0_7 L0) → va_S A s.heap H locs → lv_has ls 9 [(0, .ref (b0 0)), (1, .long x1), (3, .long x3_5), (5, .int x5_6)] → W p l e rm_Trials_divide s m args below meth c H locs 0 0 Q (F0 m 7 ls []) := by
    intro n
    induction n with
    | zero =>
      intro x3_5 x5_6 P0_7 H locs ls hf
      exact nomatch (show (none : Option (PI)) = some z from hf)
    | succ n ih_4 =>
      intro x3_5 x5_6 P0_7 H locs ls hf hP hD hS hl
      have hf : f_Trials_divide_7_b L0 x1 (f_Trials_divide_7 L0 x1 n) x3_5 x5_6 P0_7 = some z := hf
      unfold f_Trials_divide_7_b at hf
      refine lv_iload hx hb dX8_divide_7 (lv_at hl 3 rfl) ?_
      refine lv_bipush (v := 10) hx hb dX8_divide_9 (by decide) ?_
      refine lv_icmp_gt (tgt := 76) hx hb dX8_divide_11 (by decide) (fun c_31 => ?_) (fun c_31 => ?_)
      · have hf := mb_if_t c_31 hf
        have hz := Option.some.inj hf
        subst hz
        exact hret _ _ _ _ dX8_divide_76 hP hD hS
      · have hf := mb_if_f c_31 hf
        refine lv_iconst (v := 1) hx hb dX8_divide_14 (by decide) ?_
        obtain ⟨x6_9, e_, hf⟩ := mb_let_s hf
        refine mb_topi e_ ?_
        clear e_
        refine lv_istore (lv' := [(6, .int x6_9), (0, .ref (b0 0)), (1, .long x1), (3, .long x3_5), (5, .int x5_6)]) hx hb dX8_divide_15 hl (by decide) rfl (fun ls hl => ?_)
        obtain ⟨K70_12, eK70_12, hf⟩ := mb_jn_s hf
        have k70_13 : ∀ (x3_10 : Int64) (P0_11 : PI) (H : Heap) (locs : List Loc) (ls : Array Slot), K70_12 x3_10 P0_11 = some z → va_P D vwCl (wC_Trials k b0 P0_11 L0) H → va_D A (wC_Trials k b0 P0_11 L0) → va_S A s.heap H locs → lv_has ls 9 [(0, .ref (b0 0)), (1, .long x1), (3, .long x3_10), (5, .int x5_6)] → W p l e rm_Trials_divide s m args below meth c H locs 0 0 Q (F0 m 70 ls []) := by
          intro x3_10 P0_11 H locs ls hf hP hD hS hl
          have hf := mb_j2 eK70_12 hf
          obtain ⟨x5_14, e_, hf⟩ := mb_let_s hf
          refine lv_iinc (v := x5_14) (lv' := [(5, .int x5_14), (0, .ref (b0 0)), (1, .long x1), (3, .long x3_10)]) hx hb dX8_divide_70 hl (k := 3) rfl (by rw [e_]; rfl) (by decide) rfl (fun ls hl => ?_)
          clear e_
          refine lv_goto (tgt := 7) hx hb dX8_divide_73 (by decide) ?_
          exact ih_4 x3_10 x5_14 P0_11 _ _ _ hf hP hD hS (lv_sub hl [1, 2, 3, 0] rfl)
        have lp17_15 : ∀ (n : Nat) (x3_17 : Int64) (x6_18 : Int32) (P0_19 : PI) (H : Heap) (locs : List Loc) (ls : Array Slot), f_Trials_divide_17 L0 x1 x5_6 K70_12 n x3_17 x6_18 P0_19 = some z → va_P D vwCl (wC_Trials k b0 P0_19 L0) H → va_D A (wC_Trials k b0 P0_19 L0) → va_S A s.heap H locs → lv_has ls 9 [(0, .ref (b0 0)), (1, .long x1), (3, .long x3_17), (5, .int x5_6), (6, .int x6_18)] → W p l e rm_Trials_divide s m args below meth c H locs 0 0 Q (F0 m 17 ls []) := by
          intro n
          induction n with
          | zero =>
            intro x3_17 x6_18 P0_19 H locs ls hf
            exact nomatch (show (none : Option (PI)) = some z from hf)
          | succ n ih_16 =>
            intro x3_17 x6_18 P0_19 H locs ls hf hP hD hS hl
            have hf : f_Trials_divide_17_b L0 x1 x5_6 K70_12 (f_Trials_divide_17 L0 x1 x5_6 K70_12 n) x3_17 x6_18 P0_19 = some z := hf
            unfold f_Trials_divide_17_b at hf
            refine lv_iload hx hb dX8_divide_17 (lv_at hl 4 rfl) ?_
            refine lv_bipush (v := 10) hx hb dX8_divide_19 (by decide) ?_
            refine lv_icmp_gt (tgt := 70) hx hb dX8_divide_21 (by decide) (fun c_30 => ?_) (fun c_30 => ?_)
            · have hf := mb_if_t c_30 hf
              exact k70_13 x3_17 P0_19 _ _ _ hf hP hD hS (lv_sub hl [0, 1, 2, 3] rfl)
            · have hf := mb_if_f c_30 hf
              refine lv_aload_n hx hb dX8_divide_24 rfl (lv_at hl 0 rfl) ?_
              refine lv_iload hx hb dX8_divide_25 (lv_at hl 4 rfl) ?_
              refine lv_i2l hx hb dX8_divide_27 rfl ?_
              refine lv_lload_n hx hb dX8_divide_28 rfl (lv_at hl 1 rfl) ?_
              refine lv_lmul hx hb dX8_divide_29 ?_
              refine lv_iload hx hb dX8_divide_30 (lv_at hl 3 rfl) ?_
              refine lv_i2l hx hb dX8_divide_32 rfl ?_
              obtain ⟨h_21, hf⟩ := mb_dvl_s hf
              refine lv_ldiv hx hb dX8_divide_33 h_21 ?_
              obtain ⟨r_22, hz, hf⟩ := mb_bd1_s hf
              refine gc_l (r0 := r_22) (ws' := (wC_Trials k b0 P0_19 L0)) (wr := ([] : va_W)) (va_runV (As := [.long (((x6_18).toInt64 * x1) / (x5_6).toInt64)]) (rest := []) ⟨hx, hb, hml, hown, hts⟩ (c_Trials_leftAtMost l D k H.size b0 P0_19 L0 (((x6_18).toInt64 * x1) / (x5_6).toInt64) r_22 hz) (cwV 1 hts gX8_divide_X8_leftAtMost rfl rfl rfl (by decide +kernel) ⟨Nat.le_of_ble_eq_true rfl, Nat.le_of_ble_eq_true rfl⟩) (gp_V (ci := 8) (q0 := 0) (q := (RX8, TX8, 10)) hP hD hK hN [0, 1, 2, 3, 4, 5] (by decide +kernel) rfl rfl rfl) rfl rfl hl.1 rfl (lv_room (Nat.le_of_ble_eq_true rfl)) dX8_divide_34 ⟨Nat.zero_le _, Nat.zero_le _⟩) hP hD hS hA [0, 1, 2, 3, 4, 5] [] rfl rfl (by decide +kernel) (by decide +kernel) [0, 1, 2, 3, 4, 5] (by decide +kernel) rfl (fun H locs hP hD hS => ?_)
              clear hz
              obtain ⟨x7_23, e_, hf⟩ := mb_let_s hf
              refine mb_topl e_ ?_
              clear e_
              refine lv_lstore (lv' := [(7, .long x7_23), (0, .ref (b0 0)), (1, .long x1), (3, .long x3_17), (5, .int x5_6), (6, .int x6_18)]) hx hb dX8_divide_37 hl (by decide) rfl (fun ls hl => ?_)
              refine lv_lload hx hb dX8_divide_39 (lv_at hl 0 rfl) ?_
              refine lv_lload_n hx hb dX8_divide_41 rfl (lv_at hl 3 rfl) ?_
              refine W.lcmp hx hb dX8_divide_42 ?_
              refine lv_if_lt (tgt := 49) hx hb dX8_divide_43 (by decide) (fun c_29 => ?_) (fun c_29 => ?_)
              · have hf := mb_if_t c_29 hf
                refine lv_lload hx hb dX8_divide_49 (lv_at hl 0 rfl) ?_
                obtain ⟨x3_24, e_, hf⟩ := mb_let_s hf
                refine mb_topl e_ ?_
                clear e_
                refine lv_lstore_n (lv' := [(3, .long x3_24), (7, .long x7_23), (0, .ref (b0 0)), (1, .long x1), (5, .int x5_6), (6, .int x6_18)]) hx hb dX8_divide_51 rfl hl (by decide) rfl (fun ls hl => ?_)
                refine lv_aload_n hx hb dX8_divide_52 rfl (lv_at hl 2 rfl) ?_
                refine lv_iload hx hb dX8_divide_53 (lv_at hl 4 rfl) ?_
                obtain ⟨P0_25, e_, hf⟩ := mb_let_s hf
                refine va_put (D := D) (ci := 8) (v := .int x5_6) (ty := .int) (C := RX8) (T := TX8) (N := 10) hx hb hts iw_Trials tyX8 tyX8_ok nmX8 hown hK hP hD hS 0 rfl rfl 8 (by decide) fl_40 (fun _ h9 => h9) rfl (by decide +kernel) rfl rfl (Nat.le_of_ble_eq_true rfl) dX8_divide_55 (fun H locs hP hD hS => ?_)
                have hP : va_P D vwCl (wC_Trials k b0 P0_25 L0) H := by rw [e_]; exact hP
                have hD : va_D A (wC_Trials k b0 P0_25 L0) := by rw [e_]; exact hD
                clear e_
                refine lv_aload_n hx hb dX8_divide_58 rfl (lv_at hl 2 rfl) ?_
                refine lv_iload hx hb dX8_divide_59 (lv_at hl 5 rfl) ?_
                obtain ⟨P0_26, e_, hf⟩ := mb_let_s hf
                refine va_put (D := D) (ci := 8) (v := .int x6_18) (ty := .int) (C := RX8) (T := TX8) (N := 10) hx hb hts iw_Trials tyX8 tyX8_ok nmX8 hown hK hP hD hS 0 rfl rfl 9 (by decide) fl_43 (fun _ h9 => h9) rfl (by decide +kernel) rfl rfl (Nat.le_of_ble_eq_true rfl) dX8_divide_61 (fun H locs hP hD hS => ?_)
                have hP : va_P D vwCl (wC_Trials k b0 P0_26 L0) H := by rw [e_]; exact hP
                have hD : va_D A (wC_Trials k b0 P0_26 L0) := by rw [e_]; exact hD
                clear e_
                obtain ⟨x6_27, e_, hf⟩ := mb_let_s hf
                refine lv_iinc (v := x6_27) (lv' := [(6, .int x6_27), (3, .long x3_24), (7, .long x7_23), (0, .ref (b0 0)), (1, .long x1), (5, .int x5_6)]) hx hb dX8_divide_64 hl (k := 5) rfl (by rw [e_]; rfl) (by decide) rfl (fun ls hl => ?_)
                clear e_
                refine lv_goto (tgt := 17) hx hb dX8_divide_67 (by decide) ?_
                exact ih_16 x3_24 x6_27 P0_26 _ _ _ hf hP hD hS (lv_sub hl [3, 4, 1, 5, 0] rfl)
              · have hf := mb_if_f c_29 hf
                refine lv_goto (tgt := 64) hx hb dX8_divide_46 (by decide) ?_
                obtain ⟨x6_28, e_, hf⟩ := mb_let_s hf
                refine lv_iinc (v := x6_28) (lv' := [(6, .int x6_28), (7, .long x7_23), (0, .ref (b0 0)), (1, .long x1), (3, .long x3_17), (5, .int x5_6)]) hx hb dX8_divide_64 hl (k := 5) rfl (by rw [e_]; rfl) (by decide) rfl (fun ls hl => ?_)
                clear e_
                refine lv_goto (tgt := 17) hx hb dX8_divide_67 (by decide) ?_
                exact ih_16 x3_17 x6_28 P0_19 _ _ _ hf hP hD hS (lv_sub hl [2, 3, 4, 5, 0] rfl)
        exact lp17_15 mb_fu x3_5 x6_9 P0_7 _ _ _ hf hP hD hS (lv_sub hl [1, 2, 3, 4, 0] rfl)
  exact lp7_3 mb_fu x3_1 x5_2 P0 _ _ _ hf hP hD hS (lv_sub hl [2, 3, 1, 0] rfl)
def f_One_span (P1 : PI) (P2 : PI) (L2 : PL) (x1 : Int32) (x2 : Int32) (x3 : Int32) (x4 : Int32) : Option (Int32 × PI × PL) := mb_bd1 (f_Units_told P1 x1) (fun (r_1 : Int32) => (if r_1 = 0 then some ((-1 : Int32), P2, L2) else mb_bd1 (f_Units_told P1 x2) (fun (r_2 : Int32) => (if r_2 = 0 then some ((-1 : Int32), P2, L2) else mb_bd1 (f_One_within x3 (1 : Int32) (1000000 : Int32)) (fun (r_3 : Int32) => (if r_3 = 0 then some ((-1 : Int32), P2, L2) else mb_bd1 (f_One_within x4 (0 : Int32) (3 : Int32)) (fun (r_4 : Int32) => (if r_4 = 0 then some ((-1 : Int32), P2, L2) else (if x1 = x2 then some ((-2 : Int32), P2, L2) else mb_bd1 (f_Units_alike P1 x1 x2) (fun (r_5 : Int32) => (if r_5 = 0 then some ((-2 : Int32), P2, L2) else mb_bd1 (f_Trials_narrow P2 L2 x1 x2 ((x3).toInt64)) (fun (L2_6 : PL) => (if (lg_cmp (L2_6 0 6) (L2_6 0 7)) ≤ 0 then (if x4 = 0 then some (((L2_6 0 6)).toInt32, P2, L2_6) else (if x4 = (1 : Int32) then some (((L2_6 0 7)).toInt32, P2, L2_6) else mb_bd1 (f_Trials_divide P2 L2_6 ((x3).toInt64)) (fun (P2_7 : PI) => (if x4 = (2 : Int32) then some ((P2_7 0 8), P2_7, L2_6) else some ((P2_7 0 9), P2_7, L2_6))))) else some ((-4 : Int32), P2, L2_6))))))))))))))
def rm_One_span : Room := { frames := 3, cells := 0, slots := 0, locals := 94 }
set_option maxHeartbeats 4000000 in
set_option maxRecDepth 100000 in
theorem c_One_span (l : Launch) (D : va_G) (k : Nat → ClassId) (sz : Nat) (a0 : Nat → Nat → Nat) (P0 : PI) (P1 : PI) (P2 : PI) (L2 : PL) (x1 : Int32) (x2 : Int32) (x3 : Int32) (x4 : Int32) (z : Int32 × PI × PL) (hf : f_One_span P1 P2 L2 x1 x2 x3 x4 = some z) : Met l yX11_span wsX11_span rm_One_span (va_Pc [.ref (a0 0 0), .int x1, .int x2, .int x3, .int x4] (gw_pre D vwCl (tyL k) (wC_One k a0 P0 ++ (wC_Units k (a0 1) P1 ++ (wC_Trials k (a0 5) P2 L2))) sz)) (va_Qi (fun (r : Int32) (_ : Unit) => r = z.1) (gw_b D vwCl (tyL k) (va_A (wC_One k a0 P0 ++ (wC_Units k (a0 1) P1 ++ (wC_Trials k (a0 5) P2 L2))) sz) (wC_One k a0 P0 ++ (wC_Units k (a0 1) P1 ++ (wC_Trials k (a0 5) z.2.1 z.2.2)))) (va_A (wC_One k a0 P0 ++ (wC_Units k (a0 1) P1 ++ (wC_Trials k (a0 5) P2 L2))) sz)) 0 0 (va_A (wC_One k a0 P0 ++ (wC_Units k (a0 1) P1 ++ (wC_Trials k (a0 5) P2 L2))) sz) := by
  refine gm_i (cc := cX11_span) (maxL := 5) (by decide) rfl (Nat.le_of_ble_eq_true rfl) ?_
  intro p e s m args below meth c A Q ls H locs hx hb hml hown hts hK hN hA hP hD hS hl hret
  have hown : s.vm.findClass RX11 = some m.cls := hown
  have hl : lv_has ls 5 [(0, .ref (a0 0 0)), (1, .int x1), (2, .int x2), (3, .int x3), (4, .int x4)] := hl
  have iw_One : ∀ w ∈ u_ws RX11 TX11 16, w ∈ wsX11_span := by decide +kernel
  have iw_Trials : ∀ w ∈ u_ws RX8 TX8 10, w ∈ wsX11_span := by decide +kernel
  have fl_10 := hts (.fieldLink RX11 10 "OneMeasure" "units" "LOneMeasure$Units;") (by decide +kernel)
  have fl_40 := hts (.fieldLink RX11 40 "OneMeasure" "trials" "LOneMeasure$Trials;") (by decide +kernel)
  have fl_183 := hts (.fieldLink RX11 183 "OneMeasure$Trials" "least" "J") (by decide +kernel)
  have fl_186 := hts (.fieldLink RX11 186 "OneMeasure$Trials" "greatest" "J") (by decide +kernel)
  have fl_193 := hts (.fieldLink RX11 193 "OneMeasure$Trials" "partingX" "I") (by decide +kernel)
  have fl_196 := hts (.fieldLink RX11 196 "OneMeasure$Trials" "partingY" "I") (by decide +kernel)
  have lc_109 := hts (.constant RX11 109 (1000000)) (by decide +kernel)
  unfold f_One_span at hf
  refine lv_aload_n hx hb dX11_span_0 rfl (lv_at hl 0 rfl) ?_
  refine va_get (D := D) (ci := 11) (v := .ref (a0 1 0)) (C := RX11) (T := TX11) (N := 16) hx hb hts iw_One hown hK hP 0 rfl rfl 0 (by decide) fl_10 (fun _ h9 => h9) rfl dX11_span_1 ?_
  refine lv_iload_n hx hb dX11_span_4 rfl (lv_at hl 1 rfl) ?_
  obtain ⟨r_1, hz, hf⟩ := mb_bd1_s hf
  refine gc_i (r0 := r_1) (ws' := (wC_One k a0 P0 ++ (wC_Units k (a0 1) P1 ++ (wC_Trials k (a0 5) P2 L2)))) (wr := (wC_One k a0 P0 ++ (wC_Trials k (a0 5) P2 L2))) (va_runV (As := [.int x1]) (rest := []) ⟨hx, hb, hml, hown, hts⟩ (c_Units_told l D k H.size (a0 1) P1 x1 r_1 hz) (cwV 1 hts gX11_span_X9_told rfl rfl rfl (by decide +kernel) ⟨Nat.le_of_ble_eq_true rfl, Nat.le_of_ble_eq_true rfl⟩) (gp_V (ci := 9) (q0 := 0) (q := (RX9, TX9, 4)) hP hD hK hN [4, 5, 6, 7] (by decide +kernel) rfl rfl rfl) rfl rfl hl.1 rfl (lv_room (Nat.le_of_ble_eq_true rfl)) dX11_span_5 ⟨Nat.zero_le _, Nat.zero_le _⟩) hP hD hS hA [4, 5, 6, 7] [0, 1, 2, 3, 8, 9, 10, 11, 12, 13] rfl rfl (by decide +kernel) (by decide +kernel) [0, 1, 2, 3, 10, 11, 12, 13, 4, 5, 6, 7, 8, 9] (by decide +kernel) rfl (fun H locs hP hD hS => ?_)
  clear hz
  refine lv_if_eq (tgt := 42) hx hb dX11_span_8 (by decide) (fun c_17 => ?_) (fun c_17 => ?_)
  · have hf := mb_if_t c_17 hf
    refine lv_iconst (v := (-1)) hx hb dX11_span_42 (by decide) ?_
    have hz := Option.some.inj hf
    subst hz
    exact hret _ _ _ _ dX11_span_43 hP hD hS
  · have hf := mb_if_f c_17 hf
    refine lv_aload_n hx hb dX11_span_11 rfl (lv_at hl 0 rfl) ?_
    refine va_get (D := D) (ci := 11) (v := .ref (a0 1 0)) (C := RX11) (T := TX11) (N := 16) hx hb hts iw_One hown hK hP 0 rfl rfl 0 (by decide) fl_10 (fun _ h9 => h9) rfl dX11_span_12 ?_
    refine lv_iload_n hx hb dX11_span_15 rfl (lv_at hl 2 rfl) ?_
    obtain ⟨r_2, hz, hf⟩ := mb_bd1_s hf
    refine gc_i (r0 := r_2) (ws' := (wC_One k a0 P0 ++ (wC_Units k (a0 1) P1 ++ (wC_Trials k (a0 5) P2 L2)))) (wr := (wC_One k a0 P0 ++ (wC_Trials k (a0 5) P2 L2))) (va_runV (As := [.int x2]) (rest := []) ⟨hx, hb, hml, hown, hts⟩ (c_Units_told l D k H.size (a0 1) P1 x2 r_2 hz) (cwV 1 hts gX11_span_X9_told rfl rfl rfl (by decide +kernel) ⟨Nat.le_of_ble_eq_true rfl, Nat.le_of_ble_eq_true rfl⟩) (gp_V (ci := 9) (q0 := 0) (q := (RX9, TX9, 4)) hP hD hK hN [4, 5, 6, 7] (by decide +kernel) rfl rfl rfl) rfl rfl hl.1 rfl (lv_room (Nat.le_of_ble_eq_true rfl)) dX11_span_16 ⟨Nat.zero_le _, Nat.zero_le _⟩) hP hD hS hA [4, 5, 6, 7] [0, 1, 2, 3, 8, 9, 10, 11, 12, 13] rfl rfl (by decide +kernel) (by decide +kernel) [0, 1, 2, 3, 10, 11, 12, 13, 4, 5, 6, 7, 8, 9] (by decide +kernel) rfl (fun H locs hP hD hS => ?_)
    clear hz
    refine lv_if_eq (tgt := 42) hx hb dX11_span_19 (by decide) (fun c_16 => ?_) (fun c_16 => ?_)
    · have hf := mb_if_t c_16 hf
      refine lv_iconst (v := (-1)) hx hb dX11_span_42 (by decide) ?_
      have hz := Option.some.inj hf
      subst hz
      exact hret _ _ _ _ dX11_span_43 hP hD hS
    · have hf := mb_if_f c_16 hf
      refine lv_iload_n hx hb dX11_span_22 rfl (lv_at hl 3 rfl) ?_
      refine lv_iconst (v := 1) hx hb dX11_span_23 (by decide) ?_
      refine lv_ldc (v := (1000000)) hx hb hown lc_109 dX11_span_24 ?_
      obtain ⟨r_3, hz, hf⟩ := mb_bd1_s hf
      refine gc_i (r0 := r_3) (ws' := (wC_One k a0 P0 ++ (wC_Units k (a0 1) P1 ++ (wC_Trials k (a0 5) P2 L2)))) (wr := (wC_One k a0 P0 ++ (wC_Units k (a0 1) P1 ++ (wC_Trials k (a0 5) P2 L2)))) (va_runS (As := [.int x3, .int (1 : Int32), .int (1000000 : Int32)]) (rest := []) ⟨hx, hb, hml, hown, hts⟩ (c_One_within l D k H.size x3 (1 : Int32) (1000000 : Int32) r_3 hz) (cwS 3 hts gX11_span_X11_within rfl rfl rfl (by decide +kernel) ⟨Nat.le_of_ble_eq_true rfl, Nat.le_of_ble_eq_true rfl⟩) (gp_S hP hD hK hN [] (by decide +kernel) rfl) rfl rfl hl.1 rfl (lv_room (Nat.le_of_ble_eq_true rfl)) dX11_span_26 ⟨Nat.zero_le _, Nat.zero_le _⟩) hP hD hS hA [] [0, 1, 2, 3, 4, 5, 6, 7, 8, 9, 10, 11, 12, 13] rfl rfl (by decide +kernel) (by decide +kernel) [0, 1, 2, 3, 4, 5, 6, 7, 8, 9, 10, 11, 12, 13] (by decide +kernel) rfl (fun H locs hP hD hS => ?_)
      clear hz
      refine lv_if_eq (tgt := 42) hx hb dX11_span_29 (by decide) (fun c_15 => ?_) (fun c_15 => ?_)
      · have hf := mb_if_t c_15 hf
        refine lv_iconst (v := (-1)) hx hb dX11_span_42 (by decide) ?_
        have hz := Option.some.inj hf
        subst hz
        exact hret _ _ _ _ dX11_span_43 hP hD hS
      · have hf := mb_if_f c_15 hf
        refine lv_iload hx hb dX11_span_32 (lv_at hl 4 rfl) ?_
        refine lv_iconst (v := 0) hx hb dX11_span_34 (by decide) ?_
        refine lv_iconst (v := 3) hx hb dX11_span_35 (by decide) ?_
        obtain ⟨r_4, hz, hf⟩ := mb_bd1_s hf
        refine gc_i (r0 := r_4) (ws' := (wC_One k a0 P0 ++ (wC_Units k (a0 1) P1 ++ (wC_Trials k (a0 5) P2 L2)))) (wr := (wC_One k a0 P0 ++ (wC_Units k (a0 1) P1 ++ (wC_Trials k (a0 5) P2 L2)))) (va_runS (As := [.int x4, .int (0 : Int32), .int (3 : Int32)]) (rest := []) ⟨hx, hb, hml, hown, hts⟩ (c_One_within l D k H.size x4 (0 : Int32) (3 : Int32) r_4 hz) (cwS 3 hts gX11_span_X11_within rfl rfl rfl (by decide +kernel) ⟨Nat.le_of_ble_eq_true rfl, Nat.le_of_ble_eq_true rfl⟩) (gp_S hP hD hK hN [] (by decide +kernel) rfl) rfl rfl hl.1 rfl (lv_room (Nat.le_of_ble_eq_true rfl)) dX11_span_36 ⟨Nat.zero_le _, Nat.zero_le _⟩) hP hD hS hA [] [0, 1, 2, 3, 4, 5, 6, 7, 8, 9, 10, 11, 12, 13] rfl rfl (by decide +kernel) (by decide +kernel) [0, 1, 2, 3, 4, 5, 6, 7, 8, 9, 10, 11, 12, 13] (by decide +kernel) rfl (fun H locs hP hD hS => ?_)
        clear hz
        refine lv_if_ne (tgt := 44) hx hb dX11_span_39 (by decide) (fun c_14 => ?_) (fun c_14 => ?_)
        · have hf := mb_if_f c_14 hf
          refine lv_iload_n hx hb dX11_span_44 rfl (lv_at hl 1 rfl) ?_
          refine lv_iload_n hx hb dX11_span_45 rfl (lv_at hl 2 rfl) ?_
          refine lv_icmp_eq (tgt := 61) hx hb dX11_span_46 (by decide) (fun c_13 => ?_) (fun c_13 => ?_)
          · have hf := mb_if_t c_13 hf
            refine lv_bipush (v := (-2)) hx hb dX11_span_61 (by decide) ?_
            have hz := Option.some.inj hf
            subst hz
            exact hret _ _ _ _ dX11_span_63 hP hD hS
          · have hf := mb_if_f c_13 hf
            refine lv_aload_n hx hb dX11_span_49 rfl (lv_at hl 0 rfl) ?_
            refine va_get (D := D) (ci := 11) (v := .ref (a0 1 0)) (C := RX11) (T := TX11) (N := 16) hx hb hts iw_One hown hK hP 0 rfl rfl 0 (by decide) fl_10 (fun _ h9 => h9) rfl dX11_span_50 ?_
            refine lv_iload_n hx hb dX11_span_53 rfl (lv_at hl 1 rfl) ?_
            refine lv_iload_n hx hb dX11_span_54 rfl (lv_at hl 2 rfl) ?_
            obtain ⟨r_5, hz, hf⟩ := mb_bd1_s hf
            refine gc_i (r0 := r_5) (ws' := (wC_One k a0 P0 ++ (wC_Units k (a0 1) P1 ++ (wC_Trials k (a0 5) P2 L2)))) (wr := (wC_One k a0 P0 ++ (wC_Trials k (a0 5) P2 L2))) (va_runV (As := [.int x1, .int x2]) (rest := []) ⟨hx, hb, hml, hown, hts⟩ (c_Units_alike l D k H.size (a0 1) P1 x1 x2 r_5 hz) (cwV 2 hts gX11_span_X9_alike rfl rfl rfl (by decide +kernel) ⟨Nat.le_of_ble_eq_true rfl, Nat.le_of_ble_eq_true rfl⟩) (gp_V (ci := 9) (q0 := 0) (q := (RX9, TX9, 4)) hP hD hK hN [4, 5, 6, 7] (by decide +kernel) rfl rfl rfl) rfl rfl hl.1 rfl (lv_room (Nat.le_of_ble_eq_true rfl)) dX11_span_55 ⟨Nat.zero_le _, Nat.zero_le _⟩) hP hD hS hA [4, 5, 6, 7] [0, 1, 2, 3, 8, 9, 10, 11, 12, 13] rfl rfl (by decide +kernel) (by decide +kernel) [0, 1, 2, 3, 10, 11, 12, 13, 4, 5, 6, 7, 8, 9] (by decide +kernel) rfl (fun H locs hP hD hS => ?_)
            clear hz
            refine lv_if_ne (tgt := 64) hx hb dX11_span_58 (by decide) (fun c_12 => ?_) (fun c_12 => ?_)
            · have hf := mb_if_f c_12 hf
              refine lv_aload_n hx hb dX11_span_64 rfl (lv_at hl 0 rfl) ?_
              refine va_get (D := D) (ci := 11) (v := .ref (a0 5 0)) (C := RX11) (T := TX11) (N := 16) hx hb hts iw_One hown hK hP 0 rfl rfl 4 (by decide) fl_40 (fun _ h9 => h9) rfl dX11_span_65 ?_
              refine lv_iload_n hx hb dX11_span_68 rfl (lv_at hl 1 rfl) ?_
              refine lv_iload_n hx hb dX11_span_69 rfl (lv_at hl 2 rfl) ?_
              refine lv_iload_n hx hb dX11_span_70 rfl (lv_at hl 3 rfl) ?_
              refine lv_i2l hx hb dX11_span_71 rfl ?_
              obtain ⟨L2_6, hz, hf⟩ := mb_bd1_s hf
              refine gc_v (ws' := (wC_One k a0 P0 ++ (wC_Units k (a0 1) P1 ++ (wC_Trials k (a0 5) P2 L2_6)))) (wr := (wC_One k a0 P0 ++ (wC_Units k (a0 1) P1))) (va_runV (As := [.int x1, .int x2, .long (x3).toInt64]) (rest := []) ⟨hx, hb, hml, hown, hts⟩ (c_Trials_narrow l D k H.size (a0 5) P2 L2 x1 x2 ((x3).toInt64) L2_6 hz) (cwV 3 hts gX11_span_X8_narrow rfl rfl rfl (by decide +kernel) ⟨Nat.le_of_ble_eq_true rfl, Nat.le_of_ble_eq_true rfl⟩) (gp_V (ci := 8) (q0 := 0) (q := (RX8, TX8, 10)) hP hD hK hN [8, 9, 10, 11, 12, 13] (by decide +kernel) rfl rfl rfl) rfl rfl hl.1 rfl (lv_room (Nat.le_of_ble_eq_true rfl)) dX11_span_72 ⟨Nat.zero_le _, Nat.zero_le _⟩) hP hD hS hA [8, 9, 10, 11, 12, 13] [0, 1, 2, 3, 4, 5, 6, 7] rfl rfl (by decide +kernel) (by decide +kernel) [0, 1, 2, 3, 4, 5, 6, 7, 8, 9, 10, 11, 12, 13] (by decide +kernel) rfl (fun H locs hP hD hS => ?_)
              clear hz
              refine lv_aload_n hx hb dX11_span_75 rfl (lv_at hl 0 rfl) ?_
              refine va_get (D := D) (ci := 11) (v := .ref (a0 5 0)) (C := RX11) (T := TX11) (N := 16) hx hb hts iw_One hown hK hP 0 rfl rfl 4 (by decide) fl_40 (fun _ h9 => h9) rfl dX11_span_76 ?_
              refine va_get (D := D) (ci := 8) (v := .long (L2_6 0 6)) (C := RX8) (T := TX8) (N := 10) hx hb hts iw_Trials hown hK hP 8 rfl rfl 6 (by decide) fl_183 (fun _ h9 => h9) rfl dX11_span_79 ?_
              refine lv_aload_n hx hb dX11_span_82 rfl (lv_at hl 0 rfl) ?_
              refine va_get (D := D) (ci := 11) (v := .ref (a0 5 0)) (C := RX11) (T := TX11) (N := 16) hx hb hts iw_One hown hK hP 0 rfl rfl 4 (by decide) fl_40 (fun _ h9 => h9) rfl dX11_span_83 ?_
              refine va_get (D := D) (ci := 8) (v := .long (L2_6 0 7)) (C := RX8) (T := TX8) (N := 10) hx hb hts iw_Trials hown hK hP 8 rfl rfl 7 (by decide) fl_186 (fun _ h9 => h9) rfl dX11_span_86 ?_
              refine W.lcmp hx hb dX11_span_89 ?_
              refine lv_if_le (tgt := 96) hx hb dX11_span_90 (by decide) (fun c_11 => ?_) (fun c_11 => ?_)
              · have hf := mb_if_t c_11 hf
                refine lv_iload hx hb dX11_span_96 (lv_at hl 4 rfl) ?_
                refine lv_if_ne (tgt := 110) hx hb dX11_span_98 (by decide) (fun c_10 => ?_) (fun c_10 => ?_)
                · have hf := mb_if_f c_10 hf
                  refine lv_iload hx hb dX11_span_110 (lv_at hl 4 rfl) ?_
                  refine lv_iconst (v := 1) hx hb dX11_span_112 (by decide) ?_
                  refine lv_icmp_ne (tgt := 125) hx hb dX11_span_113 (by decide) (fun c_9 => ?_) (fun c_9 => ?_)
                  · have hf := mb_if_f c_9 hf
                    refine lv_aload_n hx hb dX11_span_125 rfl (lv_at hl 0 rfl) ?_
                    refine va_get (D := D) (ci := 11) (v := .ref (a0 5 0)) (C := RX11) (T := TX11) (N := 16) hx hb hts iw_One hown hK hP 0 rfl rfl 4 (by decide) fl_40 (fun _ h9 => h9) rfl dX11_span_126 ?_
                    refine lv_iload_n hx hb dX11_span_129 rfl (lv_at hl 3 rfl) ?_
                    refine lv_i2l hx hb dX11_span_130 rfl ?_
                    obtain ⟨P2_7, hz, hf⟩ := mb_bd1_s hf
                    refine gc_v (ws' := (wC_One k a0 P0 ++ (wC_Units k (a0 1) P1 ++ (wC_Trials k (a0 5) P2_7 L2_6)))) (wr := (wC_One k a0 P0 ++ (wC_Units k (a0 1) P1))) (va_runV (As := [.long (x3).toInt64]) (rest := []) ⟨hx, hb, hml, hown, hts⟩ (c_Trials_divide l D k H.size (a0 5) P2 L2_6 ((x3).toInt64) P2_7 hz) (cwV 1 hts gX11_span_X8_divide rfl rfl rfl (by decide +kernel) ⟨Nat.le_of_ble_eq_true rfl, Nat.le_of_ble_eq_true rfl⟩) (gp_V (ci := 8) (q0 := 0) (q := (RX8, TX8, 10)) hP hD hK hN [8, 9, 10, 11, 12, 13] (by decide +kernel) rfl rfl rfl) rfl rfl hl.1 rfl (lv_room (Nat.le_of_ble_eq_true rfl)) dX11_span_131 ⟨Nat.zero_le _, Nat.zero_le _⟩) hP hD hS hA [8, 9, 10, 11, 12, 13] [0, 1, 2, 3, 4, 5, 6, 7] rfl rfl (by decide +kernel) (by decide +kernel) [0, 1, 2, 3, 4, 5, 6, 7, 8, 9, 10, 11, 12, 13] (by decide +kernel) rfl (fun H locs hP hD hS => ?_)
                    clear hz
                    refine lv_iload hx hb dX11_span_134 (lv_at hl 4 rfl) ?_
                    refine lv_iconst (v := 2) hx hb dX11_span_136 (by decide) ?_
                    refine lv_icmp_ne (tgt := 150) hx hb dX11_span_137 (by decide) (fun c_8 => ?_) (fun c_8 => ?_)
                    · have hf := mb_if_f c_8 hf
                      refine lv_aload_n hx hb dX11_span_150 rfl (lv_at hl 0 rfl) ?_
                      refine va_get (D := D) (ci := 11) (v := .ref (a0 5 0)) (C := RX11) (T := TX11) (N := 16) hx hb hts iw_One hown hK hP 0 rfl rfl 4 (by decide) fl_40 (fun _ h9 => h9) rfl dX11_span_151 ?_
                      refine va_get (D := D) (ci := 8) (v := .int (P2_7 0 9)) (C := RX8) (T := TX8) (N := 10) hx hb hts iw_Trials hown hK hP 8 rfl rfl 9 (by decide) fl_196 (fun _ h9 => h9) rfl dX11_span_154 ?_
                      have hz := Option.some.inj hf
                      subst hz
                      exact hret _ _ _ _ dX11_span_157 hP hD hS
                    · have hf := mb_if_t c_8 hf
                      refine lv_aload_n hx hb dX11_span_140 rfl (lv_at hl 0 rfl) ?_
                      refine va_get (D := D) (ci := 11) (v := .ref (a0 5 0)) (C := RX11) (T := TX11) (N := 16) hx hb hts iw_One hown hK hP 0 rfl rfl 4 (by decide) fl_40 (fun _ h9 => h9) rfl dX11_span_141 ?_
                      refine va_get (D := D) (ci := 8) (v := .int (P2_7 0 8)) (C := RX8) (T := TX8) (N := 10) hx hb hts iw_Trials hown hK hP 8 rfl rfl 8 (by decide) fl_193 (fun _ h9 => h9) rfl dX11_span_144 ?_
                      refine lv_goto (tgt := 157) hx hb dX11_span_147 (by decide) ?_
                      have hz := Option.some.inj hf
                      subst hz
                      exact hret _ _ _ _ dX11_span_157 hP hD hS
                  · have hf := mb_if_t c_9 hf
                    refine lv_aload_n hx hb dX11_span_116 rfl (lv_at hl 0 rfl) ?_
                    refine va_get (D := D) (ci := 11) (v := .ref (a0 5 0)) (C := RX11) (T := TX11) (N := 16) hx hb hts iw_One hown hK hP 0 rfl rfl 4 (by decide) fl_40 (fun _ h9 => h9) rfl dX11_span_117 ?_
                    refine va_get (D := D) (ci := 8) (v := .long (L2_6 0 7)) (C := RX8) (T := TX8) (N := 10) hx hb hts iw_Trials hown hK hP 8 rfl rfl 7 (by decide) fl_186 (fun _ h9 => h9) rfl dX11_span_120 ?_
                    refine lv_l2i hx hb dX11_span_123 rfl ?_
                    have hz := Option.some.inj hf
                    subst hz
                    exact hret _ _ _ _ dX11_span_124 hP hD hS
                · have hf := mb_if_t c_10 hf
                  refine lv_aload_n hx hb dX11_span_101 rfl (lv_at hl 0 rfl) ?_
                  refine va_get (D := D) (ci := 11) (v := .ref (a0 5 0)) (C := RX11) (T := TX11) (N := 16) hx hb hts iw_One hown hK hP 0 rfl rfl 4 (by decide) fl_40 (fun _ h9 => h9) rfl dX11_span_102 ?_
                  refine va_get (D := D) (ci := 8) (v := .long (L2_6 0 6)) (C := RX8) (T := TX8) (N := 10) hx hb hts iw_Trials hown hK hP 8 rfl rfl 6 (by decide) fl_183 (fun _ h9 => h9) rfl dX11_span_105 ?_
                  refine lv_l2i hx hb dX11_span_108 rfl ?_
                  have hz := Option.some.inj hf
                  subst hz
                  exact hret _ _ _ _ dX11_span_109 hP hD hS
              · have hf := mb_if_f c_11 hf
                refine lv_bipush (v := (-4)) hx hb dX11_span_93 (by decide) ?_
                have hz := Option.some.inj hf
                subst hz
                exact hret _ _ _ _ dX11_span_95 hP hD hS
            · have hf := mb_if_t c_12 hf
              refine lv_bipush (v := (-2)) hx hb dX11_span_61 (by decide) ?_
              have hz := Option.some.inj hf
              subst hz
              exact hret _ _ _ _ dX11_span_63 hP hD hS
        · have hf := mb_if_t c_14 hf
          refine lv_iconst (v := (-1)) hx hb dX11_span_42 (by decide) ?_
          have hz := Option.some.inj hf
          subst hz
          exact hret _ _ _ _ dX11_span_43 hP hD hS
def f_Script_add_5_b (x2 : Int64) (self_6 : Int32 → PI → Option (Int32 × PI)) (x4_4 : Int32) (P0_5 : PI) : Option (Int32 × PI) := (if x4_4 < 0 then some ((P0_5 0 3), P0_5) else mb_chk (P0_5 0 3) 300 (mb_let (mb_u2 P0_5 1 (P0_5 0 3).toNatClampNeg (((((x2.toUInt64 >>> (((8 : Int32) * x4_4).toInt64.toUInt64 &&& Int64.toUInt64 63)).toInt64) &&& (255 : Int64))).toInt32)) (fun (P0_7 : PI) => mb_let (mb_uo P0_7 3 ((P0_7 0 3) + (1 : Int32))) (fun (P0_9 : PI) => mb_let (x4_4 + (-1 : Int32)) (fun (x4_10 : Int32) => self_6 x4_10 P0_9)))))
def f_Script_add_5 (x2 : Int64) : Nat → Int32 → PI → Option (Int32 × PI)
  | 0, _, _ => none
  | n + 1, x4_4, P0_5 => f_Script_add_5_b x2 (f_Script_add_5 x2 n) x4_4 P0_5
def f_Script_add (P0 : PI) (x1 : Int32) (x2 : Int64) : Option (Int32 × PI) := mb_let (x1 - (1 : Int32)) (fun (x4_1 : Int32) => f_Script_add_5 x2 mb_fu x4_1 P0)
def rm_Script_add : Room := { frames := 0, cells := 0, slots := 0, locals := 0 }
set_option maxHeartbeats 4000000 in
set_option maxRecDepth 100000 in
theorem c_Script_add (l : Launch) (D : va_G) (k : Nat → ClassId) (sz : Nat) (b0 : Nat → Nat) (P0 : PI) (x1 : Int32) (x2 : Int64) (z : Int32 × PI) (hf : f_Script_add P0 x1 x2 = some z) : Met l yX5_add wsX5_add rm_Script_add (va_Pc [.ref (b0 0), .int x1, .long x2] (gw_pre D vwCl (tyL k) (wC_Script k b0 P0) sz)) (va_Qi (fun (r : Int32) (_ : Unit) => r = z.1) (gw_b D vwCl (tyL k) (va_A (wC_Script k b0 P0) sz) (wC_Script k b0 z.2)) (va_A (wC_Script k b0 P0) sz)) 0 0 (va_A (wC_Script k b0 P0) sz) := by
  refine gm_i (cc := cX5_add) (maxL := 5) (by decide) rfl (Nat.le_of_ble_eq_true rfl) ?_
  intro p e s m args below meth c A Q ls H locs hx hb hml hown hts hK hN hA hP hD hS hl hret
  have hown : s.vm.findClass RX5 = some m.cls := hown
  have hl : lv_has ls 5 [(0, .ref (b0 0)), (1, .int x1), (2, .long x2)] := hl
  have iw_Script : ∀ w ∈ u_ws RX5 TX5 4, w ∈ wsX5_add := by decide +kernel
  have fl_11 := hts (.fieldLink RX5 11 "OneMeasure$Script" "bytes" "[I") (by decide +kernel)
  have fl_22 := hts (.fieldLink RX5 22 "OneMeasure$Script" "length" "I") (by decide +kernel)
  have lc_25 := hts (.constantLong RX5 25 (255)) (by decide +kernel)
  unfold f_Script_add at hf
  refine lv_iload_n hx hb dX5_add_0 rfl (lv_at hl 1 rfl) ?_
  refine lv_iconst (v := 1) hx hb dX5_add_1 (by decide) ?_
  refine lv_isub hx hb dX5_add_2 ?_
  obtain ⟨x4_1, e_, hf⟩ := mb_let_s hf
  refine mb_topi e_ ?_
  clear e_
  refine lv_istore (lv' := [(4, .int x4_1), (0, .ref (b0 0)), (1, .int x1), (2, .long x2)]) hx hb dX5_add_3 hl (by decide) rfl (fun ls hl => ?_)
  have lp5_2 : ∀ (n : Nat) (x4_4 : Int32) (P0_5 : PI) (H : Heap) (locs : List Loc) (ls : Array Slot), f_Script_add_5 x2 n x4_4 P0_5 = some z → va_P D vwCl (wC_Script k b0 P0_5) H → va_D A (wC_Script k b0 P0_5) → va_S A s.heap H locs → lv_has ls 5 [(0, .ref (b0 0)), (2, .long x2), (4, .int x4_4)] → W p l e rm_Script_add s m args below meth c H locs 0 0 Q (F0 m 5 ls []) := by
    intro n
    induction n with
    | zero =>
      intro x4_4 P0_5 H locs ls hf
      exact nomatch (show (none : Option (Int32 × PI)) = some z from hf)
    | succ n ih_3 =>
      intro x4_4 P0_5 H locs ls hf hP hD hS hl
      have hf : f_Script_add_5_b x2 (f_Script_add_5 x2 n) x4_4 P0_5 = some z := hf
      unfold f_Script_add_5_b at hf
      refine lv_iload hx hb dX5_add_5 (lv_at hl 2 rfl) ?_
      refine lv_if_lt (tgt := 47) hx hb dX5_add_7 (by decide) (fun c_11 => ?_) (fun c_11 => ?_)
      · have hf := mb_if_t c_11 hf
        refine lv_aload_n hx hb dX5_add_47 rfl (lv_at hl 0 rfl) ?_
        refine va_get (D := D) (ci := 5) (v := .int (P0_5 0 3)) (C := RX5) (T := TX5) (N := 4) hx hb hts iw_Script hown hK hP 0 rfl rfl 3 (by decide) fl_22 (fun _ h9 => h9) rfl dX5_add_48 ?_
        have hz := Option.some.inj hf
        subst hz
        exact hret _ _ _ _ dX5_add_51 hP hD hS
      · have hf := mb_if_f c_11 hf
        refine lv_aload_n hx hb dX5_add_10 rfl (lv_at hl 0 rfl) ?_
        refine va_get (D := D) (ci := 5) (v := .ref (b0 1)) (C := RX5) (T := TX5) (N := 4) hx hb hts iw_Script hown hK hP 0 rfl rfl 0 (by decide) fl_11 (fun _ h9 => h9) rfl dX5_add_11 ?_
        refine lv_aload_n hx hb dX5_add_14 rfl (lv_at hl 0 rfl) ?_
        refine va_get (D := D) (ci := 5) (v := .int (P0_5 0 3)) (C := RX5) (T := TX5) (N := 4) hx hb hts iw_Script hown hK hP 0 rfl rfl 3 (by decide) fl_22 (fun _ h9 => h9) rfl dX5_add_15 ?_
        refine lv_lload_n hx hb dX5_add_18 rfl (lv_at hl 1 rfl) ?_
        refine lv_bipush (v := 8) hx hb dX5_add_19 (by decide) ?_
        refine lv_iload hx hb dX5_add_21 (lv_at hl 2 rfl) ?_
        refine lv_imul hx hb dX5_add_23 ?_
        refine lv_lushr hx hb dX5_add_24 rfl ?_
        refine lv_ldc2 (v := (255)) hx hb hown lc_25 dX5_add_25 ?_
        refine lv_land hx hb dX5_add_28 ?_
        refine lv_l2i hx hb dX5_add_29 rfl ?_
        obtain ⟨h_8, hf⟩ := mb_chk_s hf
        obtain ⟨P0_7, e_, hf⟩ := mb_let_s hf
        refine va_iast hx hb hK hP hD hS 1 0 rfl rfl h_8 dX5_add_30 (fun H locs hP hD hS => ?_)
        have hP : va_P D vwCl (wC_Script k b0 P0_7) H := by rw [e_]; exact hP
        have hD : va_D A (wC_Script k b0 P0_7) := by rw [e_]; exact hD
        clear e_
        refine lv_aload_n hx hb dX5_add_31 rfl (lv_at hl 0 rfl) ?_
        refine lv_dup hx hb dX5_add_32 rfl ?_
        refine va_get (D := D) (ci := 5) (v := .int (P0_7 0 3)) (C := RX5) (T := TX5) (N := 4) hx hb hts iw_Script hown hK hP 0 rfl rfl 3 (by decide) fl_22 (fun _ h9 => h9) rfl dX5_add_33 ?_
        refine lv_iconst (v := 1) hx hb dX5_add_36 (by decide) ?_
        refine lv_iadd hx hb dX5_add_37 ?_
        obtain ⟨P0_9, e_, hf⟩ := mb_let_s hf
        refine va_put (D := D) (ci := 5) (v := .int ((P0_7 0 3) + (1 : Int32))) (ty := .int) (C := RX5) (T := TX5) (N := 4) hx hb hts iw_Script tyX5 tyX5_ok nmX5 hown hK hP hD hS 0 rfl rfl 3 (by decide) fl_22 (fun _ h9 => h9) rfl (by decide +kernel) rfl rfl (Nat.le_of_ble_eq_true rfl) dX5_add_38 (fun H locs hP hD hS => ?_)
        have hP : va_P D vwCl (wC_Script k b0 P0_9) H := by rw [e_]; exact hP
        have hD : va_D A (wC_Script k b0 P0_9) := by rw [e_]; exact hD
        clear e_
        obtain ⟨x4_10, e_, hf⟩ := mb_let_s hf
        refine lv_iinc (v := x4_10) (lv' := [(4, .int x4_10), (0, .ref (b0 0)), (2, .long x2)]) hx hb dX5_add_41 hl (k := 2) rfl (by rw [e_]; rfl) (by decide) rfl (fun ls hl => ?_)
        clear e_
        refine lv_goto (tgt := 5) hx hb dX5_add_44 (by decide) ?_
        exact ih_3 x4_10 P0_9 _ _ _ hf hP hD hS (lv_sub hl [1, 2, 0] rfl)
  exact lp5_2 mb_fu x4_1 P0 _ _ _ hf hP hD hS (lv_sub hl [1, 3, 0] rfl)
def f_One_write (P1 : PI) (x1 : Int32) (x2 : Int64) : Option (Int32 × PI) := mb_bd1 (f_One_within x1 (1 : Int32) (8 : Int32)) (fun (r_1 : Int32) => (if r_1 = 0 then some ((-1 : Int32), P1) else (if ((P1 0 3) + x1) ≤ (300 : Int32) then mb_bd2 (f_Script_add P1 x1 x2) (fun (r_2 : Int32) (P1_3 : PI) => some (r_2, P1_3)) else some ((-3 : Int32), P1))))
def rm_One_write : Room := { frames := 1, cells := 0, slots := 0, locals := 24 }
set_option maxHeartbeats 4000000 in
set_option maxRecDepth 100000 in
theorem c_One_write (l : Launch) (D : va_G) (k : Nat → ClassId) (sz : Nat) (a0 : Nat → Nat → Nat) (P0 : PI) (P1 : PI) (x1 : Int32) (x2 : Int64) (z : Int32 × PI) (hf : f_One_write P1 x1 x2 = some z) : Met l yX11_write wsX11_write rm_One_write (va_Pc [.ref (a0 0 0), .int x1, .long x2] (gw_pre D vwCl (tyL k) (wC_One k a0 P0 ++ (wC_Script k (a0 6) P1)) sz)) (va_Qi (fun (r : Int32) (_ : Unit) => r = z.1) (gw_b D vwCl (tyL k) (va_A (wC_One k a0 P0 ++ (wC_Script k (a0 6) P1)) sz) (wC_One k a0 P0 ++ (wC_Script k (a0 6) z.2))) (va_A (wC_One k a0 P0 ++ (wC_Script k (a0 6) P1)) sz)) 0 0 (va_A (wC_One k a0 P0 ++ (wC_Script k (a0 6) P1)) sz) := by
  refine gm_i (cc := cX11_write) (maxL := 4) (by decide) rfl (Nat.le_of_ble_eq_true rfl) ?_
  intro p e s m args below meth c A Q ls H locs hx hb hml hown hts hK hN hA hP hD hS hl hret
  have hown : s.vm.findClass RX11 = some m.cls := hown
  have hl : lv_has ls 4 [(0, .ref (a0 0 0)), (1, .int x1), (2, .long x2)] := hl
  have iw_One : ∀ w ∈ u_ws RX11 TX11 16, w ∈ wsX11_write := by decide +kernel
  have iw_Script : ∀ w ∈ u_ws RX5 TX5 4, w ∈ wsX11_write := by decide +kernel
  have fl_47 := hts (.fieldLink RX11 47 "OneMeasure" "script" "LOneMeasure$Script;") (by decide +kernel)
  have fl_199 := hts (.fieldLink RX11 199 "OneMeasure$Script" "length" "I") (by decide +kernel)
  unfold f_One_write at hf
  refine lv_iload_n hx hb dX11_write_0 rfl (lv_at hl 1 rfl) ?_
  refine lv_iconst (v := 1) hx hb dX11_write_1 (by decide) ?_
  refine lv_bipush (v := 8) hx hb dX11_write_2 (by decide) ?_
  obtain ⟨r_1, hz, hf⟩ := mb_bd1_s hf
  refine gc_i (r0 := r_1) (ws' := (wC_One k a0 P0 ++ (wC_Script k (a0 6) P1))) (wr := (wC_One k a0 P0 ++ (wC_Script k (a0 6) P1))) (va_runS (As := [.int x1, .int (1 : Int32), .int (8 : Int32)]) (rest := []) ⟨hx, hb, hml, hown, hts⟩ (c_One_within l D k H.size x1 (1 : Int32) (8 : Int32) r_1 hz) (cwS 3 hts gX11_write_X11_within rfl rfl rfl (by decide +kernel) ⟨Nat.le_of_ble_eq_true rfl, Nat.le_of_ble_eq_true rfl⟩) (gp_S hP hD hK hN [] (by decide +kernel) rfl) rfl rfl hl.1 rfl (lv_room (Nat.le_of_ble_eq_true rfl)) dX11_write_4 ⟨Nat.zero_le _, Nat.zero_le _⟩) hP hD hS hA [] [0, 1, 2, 3, 4, 5, 6] rfl rfl (by decide +kernel) (by decide +kernel) [0, 1, 2, 3, 4, 5, 6] (by decide +kernel) rfl (fun H locs hP hD hS => ?_)
  clear hz
  refine lv_if_ne (tgt := 12) hx hb dX11_write_7 (by decide) (fun c_5 => ?_) (fun c_5 => ?_)
  · have hf := mb_if_f c_5 hf
    refine lv_aload_n hx hb dX11_write_12 rfl (lv_at hl 0 rfl) ?_
    refine va_get (D := D) (ci := 11) (v := .ref (a0 6 0)) (C := RX11) (T := TX11) (N := 16) hx hb hts iw_One hown hK hP 0 rfl rfl 5 (by decide) fl_47 (fun _ h9 => h9) rfl dX11_write_13 ?_
    refine va_get (D := D) (ci := 5) (v := .int (P1 0 3)) (C := RX5) (T := TX5) (N := 4) hx hb hts iw_Script hown hK hP 4 rfl rfl 3 (by decide) fl_199 (fun _ h9 => h9) rfl dX11_write_16 ?_
    refine lv_iload_n hx hb dX11_write_19 rfl (lv_at hl 1 rfl) ?_
    refine lv_iadd hx hb dX11_write_20 ?_
    refine lv_sipush (v := 300) hx hb dX11_write_21 (by decide) ?_
    refine lv_icmp_le (tgt := 30) hx hb dX11_write_24 (by decide) (fun c_4 => ?_) (fun c_4 => ?_)
    · have hf := mb_if_t c_4 hf
      refine lv_aload_n hx hb dX11_write_30 rfl (lv_at hl 0 rfl) ?_
      refine va_get (D := D) (ci := 11) (v := .ref (a0 6 0)) (C := RX11) (T := TX11) (N := 16) hx hb hts iw_One hown hK hP 0 rfl rfl 5 (by decide) fl_47 (fun _ h9 => h9) rfl dX11_write_31 ?_
      refine lv_iload_n hx hb dX11_write_34 rfl (lv_at hl 1 rfl) ?_
      refine lv_lload_n hx hb dX11_write_35 rfl (lv_at hl 2 rfl) ?_
      obtain ⟨r_2, P1_3, hz, hf⟩ := mb_bd2_s hf
      refine gc_i (r0 := r_2) (ws' := (wC_One k a0 P0 ++ (wC_Script k (a0 6) P1_3))) (wr := (wC_One k a0 P0)) (va_runV (As := [.int x1, .long x2]) (rest := []) ⟨hx, hb, hml, hown, hts⟩ (c_Script_add l D k H.size (a0 6) P1 x1 x2 (r_2, P1_3) hz) (cwV 2 hts gX11_write_X5_add rfl rfl rfl (by decide +kernel) ⟨Nat.le_of_ble_eq_true rfl, Nat.le_of_ble_eq_true rfl⟩) (gp_V (ci := 5) (q0 := 0) (q := (RX5, TX5, 4)) hP hD hK hN [4, 5, 6] (by decide +kernel) rfl rfl rfl) rfl rfl hl.1 rfl (lv_room (Nat.le_of_ble_eq_true rfl)) dX11_write_36 ⟨Nat.zero_le _, Nat.zero_le _⟩) hP hD hS hA [4, 5, 6] [0, 1, 2, 3] rfl rfl (by decide +kernel) (by decide +kernel) [0, 1, 2, 3, 4, 5, 6] (by decide +kernel) rfl (fun H locs hP hD hS => ?_)
      clear hz
      have hz := Option.some.inj hf
      subst hz
      exact hret _ _ _ _ dX11_write_39 hP hD hS
    · have hf := mb_if_f c_4 hf
      refine lv_bipush (v := (-3)) hx hb dX11_write_27 (by decide) ?_
      have hz := Option.some.inj hf
      subst hz
      exact hret _ _ _ _ dX11_write_29 hP hD hS
  · have hf := mb_if_t c_5 hf
    refine lv_iconst (v := (-1)) hx hb dX11_write_10 (by decide) ?_
    have hz := Option.some.inj hf
    subst hz
    exact hret _ _ _ _ dX11_write_11 hP hD hS
def f_One_clear (P1 : PI) : Option (Int32 × PI) := mb_let (P1 0 3) (fun (x1_1 : Int32) => mb_let (mb_uo P1 3 (0 : Int32)) (fun (P1_2 : PI) => some (x1_1, P1_2)))
def rm_One_clear : Room := { frames := 0, cells := 0, slots := 0, locals := 0 }
set_option maxHeartbeats 4000000 in
set_option maxRecDepth 100000 in
theorem c_One_clear (l : Launch) (D : va_G) (k : Nat → ClassId) (sz : Nat) (a0 : Nat → Nat → Nat) (P0 : PI) (P1 : PI) (z : Int32 × PI) (hf : f_One_clear P1 = some z) : Met l yX11_clear wsX11_clear rm_One_clear (va_Pc [.ref (a0 0 0)] (gw_pre D vwCl (tyL k) (wC_One k a0 P0 ++ (wC_Script k (a0 6) P1)) sz)) (va_Qi (fun (r : Int32) (_ : Unit) => r = z.1) (gw_b D vwCl (tyL k) (va_A (wC_One k a0 P0 ++ (wC_Script k (a0 6) P1)) sz) (wC_One k a0 P0 ++ (wC_Script k (a0 6) z.2))) (va_A (wC_One k a0 P0 ++ (wC_Script k (a0 6) P1)) sz)) 0 0 (va_A (wC_One k a0 P0 ++ (wC_Script k (a0 6) P1)) sz) := by
  refine gm_i (cc := cX11_clear) (maxL := 2) (by decide) rfl (Nat.le_of_ble_eq_true rfl) ?_
  intro p e s m args below meth c A Q ls H locs hx hb hml hown hts hK hN hA hP hD hS hl hret
  have hown : s.vm.findClass RX11 = some m.cls := hown
  have hl : lv_has ls 2 [(0, .ref (a0 0 0))] := hl
  have iw_One : ∀ w ∈ u_ws RX11 TX11 16, w ∈ wsX11_clear := by decide +kernel
  have iw_Script : ∀ w ∈ u_ws RX5 TX5 4, w ∈ wsX11_clear := by decide +kernel
  have fl_47 := hts (.fieldLink RX11 47 "OneMeasure" "script" "LOneMeasure$Script;") (by decide +kernel)
  have fl_199 := hts (.fieldLink RX11 199 "OneMeasure$Script" "length" "I") (by decide +kernel)
  unfold f_One_clear at hf
  refine lv_aload_n hx hb dX11_clear_0 rfl (lv_at hl 0 rfl) ?_
  refine va_get (D := D) (ci := 11) (v := .ref (a0 6 0)) (C := RX11) (T := TX11) (N := 16) hx hb hts iw_One hown hK hP 0 rfl rfl 5 (by decide) fl_47 (fun _ h9 => h9) rfl dX11_clear_1 ?_
  refine va_get (D := D) (ci := 5) (v := .int (P1 0 3)) (C := RX5) (T := TX5) (N := 4) hx hb hts iw_Script hown hK hP 4 rfl rfl 3 (by decide) fl_199 (fun _ h9 => h9) rfl dX11_clear_4 ?_
  obtain ⟨x1_1, e_, hf⟩ := mb_let_s hf
  refine mb_topi e_ ?_
  clear e_
  refine lv_istore_n (lv' := [(1, .int x1_1), (0, .ref (a0 0 0))]) hx hb dX11_clear_7 rfl hl (by decide) rfl (fun ls hl => ?_)
  refine lv_aload_n hx hb dX11_clear_8 rfl (lv_at hl 1 rfl) ?_
  refine va_get (D := D) (ci := 11) (v := .ref (a0 6 0)) (C := RX11) (T := TX11) (N := 16) hx hb hts iw_One hown hK hP 0 rfl rfl 5 (by decide) fl_47 (fun _ h9 => h9) rfl dX11_clear_9 ?_
  refine lv_iconst (v := 0) hx hb dX11_clear_12 (by decide) ?_
  obtain ⟨P1_2, e_, hf⟩ := mb_let_s hf
  refine va_put (D := D) (ci := 5) (v := .int (0 : Int32)) (ty := .int) (C := RX5) (T := TX5) (N := 4) hx hb hts iw_Script tyX5 tyX5_ok nmX5 hown hK hP hD hS 4 rfl rfl 3 (by decide) fl_199 (fun _ h9 => h9) rfl (by decide +kernel) rfl rfl (Nat.le_of_ble_eq_true rfl) dX11_clear_13 (fun H locs hP hD hS => ?_)
  have hP : va_P D vwCl (wC_One k a0 P0 ++ (wC_Script k (a0 6) P1_2)) H := by rw [e_]; exact hP
  have hD : va_D A (wC_One k a0 P0 ++ (wC_Script k (a0 6) P1_2)) := by rw [e_]; exact hD
  clear e_
  refine lv_iload_n hx hb dX11_clear_16 rfl (lv_at hl 0 rfl) ?_
  have hz := Option.some.inj hf
  subst hz
  exact hret _ _ _ _ dX11_clear_17 hP hD hS
def f_Script_byteAt (P0 : PI) (x1 : Int32) : Option (Int32) := (if x1 < 0 then some (-1 : Int32) else (if (P0 0 3) ≤ x1 then some (-1 : Int32) else mb_chk x1 300 (some (P0 1 x1.toNatClampNeg))))
def rm_Script_byteAt : Room := { frames := 0, cells := 0, slots := 0, locals := 0 }
set_option maxHeartbeats 4000000 in
set_option maxRecDepth 100000 in
theorem c_Script_byteAt (l : Launch) (D : va_G) (k : Nat → ClassId) (sz : Nat) (b0 : Nat → Nat) (P0 : PI) (x1 : Int32) (z : Int32) (hf : f_Script_byteAt P0 x1 = some z) : Met l yX5_byteAt wsX5_byteAt rm_Script_byteAt (va_Pc [.ref (b0 0), .int x1] (gw_pre D vwCl (tyL k) (wC_Script k b0 P0) sz)) (va_Qi (fun (r : Int32) (_ : Unit) => r = z) (gw_b D vwCl (tyL k) (va_A (wC_Script k b0 P0) sz) (wC_Script k b0 P0)) (va_A (wC_Script k b0 P0) sz)) 0 0 (va_A (wC_Script k b0 P0) sz) := by
  refine gm_i (cc := cX5_byteAt) (maxL := 2) (by decide) rfl (Nat.le_of_ble_eq_true rfl) ?_
  intro p e s m args below meth c A Q ls H locs hx hb hml hown hts hK hN hA hP hD hS hl hret
  have hown : s.vm.findClass RX5 = some m.cls := hown
  have hl : lv_has ls 2 [(0, .ref (b0 0)), (1, .int x1)] := hl
  have iw_Script : ∀ w ∈ u_ws RX5 TX5 4, w ∈ wsX5_byteAt := by decide +kernel
  have fl_11 := hts (.fieldLink RX5 11 "OneMeasure$Script" "bytes" "[I") (by decide +kernel)
  have fl_22 := hts (.fieldLink RX5 22 "OneMeasure$Script" "length" "I") (by decide +kernel)
  unfold f_Script_byteAt at hf
  refine lv_iload_n hx hb dX5_byteAt_0 rfl (lv_at hl 1 rfl) ?_
  refine lv_if_lt (tgt := 21) hx hb dX5_byteAt_1 (by decide) (fun c_3 => ?_) (fun c_3 => ?_)
  · have hf := mb_if_t c_3 hf
    refine lv_iconst (v := (-1)) hx hb dX5_byteAt_21 (by decide) ?_
    have hz := Option.some.inj hf
    subst hz
    exact hret _ _ _ _ dX5_byteAt_22 hP hD hS
  · have hf := mb_if_f c_3 hf
    refine lv_iload_n hx hb dX5_byteAt_4 rfl (lv_at hl 1 rfl) ?_
    refine lv_aload_n hx hb dX5_byteAt_5 rfl (lv_at hl 0 rfl) ?_
    refine va_get (D := D) (ci := 5) (v := .int (P0 0 3)) (C := RX5) (T := TX5) (N := 4) hx hb hts iw_Script hown hK hP 0 rfl rfl 3 (by decide) fl_22 (fun _ h9 => h9) rfl dX5_byteAt_6 ?_
    refine lv_icmp_ge (tgt := 21) hx hb dX5_byteAt_9 (by decide) (fun c_2 => ?_) (fun c_2 => ?_)
    · have hf := mb_if_t c_2 hf
      refine lv_iconst (v := (-1)) hx hb dX5_byteAt_21 (by decide) ?_
      have hz := Option.some.inj hf
      subst hz
      exact hret _ _ _ _ dX5_byteAt_22 hP hD hS
    · have hf := mb_if_f c_2 hf
      refine lv_aload_n hx hb dX5_byteAt_12 rfl (lv_at hl 0 rfl) ?_
      refine va_get (D := D) (ci := 5) (v := .ref (b0 1)) (C := RX5) (T := TX5) (N := 4) hx hb hts iw_Script hown hK hP 0 rfl rfl 0 (by decide) fl_11 (fun _ h9 => h9) rfl dX5_byteAt_13 ?_
      refine lv_iload_n hx hb dX5_byteAt_16 rfl (lv_at hl 1 rfl) ?_
      obtain ⟨h_1, hf⟩ := mb_chk_s hf
      refine va_iald hx hb hK hP 1 0 rfl rfl h_1 dX5_byteAt_17 ?_
      refine lv_goto (tgt := 22) hx hb dX5_byteAt_18 (by decide) ?_
      have hz := Option.some.inj hf
      subst hz
      exact hret _ _ _ _ dX5_byteAt_22 hP hD hS
def f_Script_readNumber_8_b (P0 : PI) (x1 : Int32) (K61_6 : Int32 → Int32 → Option (Int32 × PI)) (K38_13 : Int32 → Int32 → Option (Int32 × PI)) (self_20 : Int32 → Int32 → Int32 → Option (Int32 × PI)) (x3_17 : Int32) (x4_18 : Int32) (x5_19 : Int32) : Option (Int32 × PI) := (if (4 : Int32) ≤ x5_19 then K61_6 x3_17 x4_18 else mb_bd1 (f_Script_byteAt P0 (x1 + x5_19)) (fun (r_21 : Int32) => mb_let r_21 (fun (x6_22 : Int32) => (if x6_22 < (48 : Int32) then K61_6 x3_17 x4_18 else (if x6_22 ≤ (57 : Int32) then mb_let (((x3_17 * (10 : Int32)) + x6_22) - (48 : Int32)) (fun (x3_23 : Int32) => mb_let (x4_18 + (1 : Int32)) (fun (x4_24 : Int32) => mb_let (x5_19 + (1 : Int32)) (fun (x5_25 : Int32) => self_20 x3_23 x4_24 x5_25))) else K38_13 x3_17 x4_18)))))
def f_Script_readNumber_8 (P0 : PI) (x1 : Int32) (K61_6 : Int32 → Int32 → Option (Int32 × PI)) (K38_13 : Int32 → Int32 → Option (Int32 × PI)) : Nat → Int32 → Int32 → Int32 → Option (Int32 × PI)
  | 0, _, _, _ => none
  | n + 1, x3_17, x4_18, x5_19 => f_Script_readNumber_8_b P0 x1 K61_6 K38_13 (f_Script_readNumber_8 P0 x1 K61_6 K38_13 n) x3_17 x4_18 x5_19
def f_Script_readNumber (P0 : PI) (x1 : Int32) (x2 : Int32) : Option (Int32 × PI) := mb_let (0 : Int32) (fun (x3_1 : Int32) => mb_let (0 : Int32) (fun (x4_2 : Int32) => mb_let (0 : Int32) (fun (x5_3 : Int32) => mb_jn (fun (x3_4 : Int32) (x4_5 : Int32) => mb_chk x2 4 (mb_let (mb_u2 P0 2 x2.toNatClampNeg x3_4) (fun (P0_8 : PI) => (if x4_5 = 0 then some ((-1 : Int32), P0_8) else some ((x1 + x4_5), P0_8))))) (fun K61_6 => mb_jn (fun (x3_11 : Int32) (x4_12 : Int32) => K61_6 x3_11 x4_12) (fun K38_13 => f_Script_readNumber_8 P0 x1 K61_6 K38_13 mb_fu x3_1 x4_2 x5_3)))))
def rm_Script_readNumber : Room := { frames := 1, cells := 0, slots := 0, locals := 21 }
set_option maxHeartbeats 4000000 in
set_option maxRecDepth 100000 in
theorem c_Script_readNumber (l : Launch) (D : va_G) (k : Nat → ClassId) (sz : Nat) (b0 : Nat → Nat) (P0 : PI) (x1 : Int32) (x2 : Int32) (z : Int32 × PI) (hf : f_Script_readNumber P0 x1 x2 = some z) : Met l yX5_readNumber wsX5_readNumber rm_Script_readNumber (va_Pc [.ref (b0 0), .int x1, .int x2] (gw_pre D vwCl (tyL k) (wC_Script k b0 P0) sz)) (va_Qi (fun (r : Int32) (_ : Unit) => r = z.1) (gw_b D vwCl (tyL k) (va_A (wC_Script k b0 P0) sz) (wC_Script k b0 z.2)) (va_A (wC_Script k b0 P0) sz)) 0 0 (va_A (wC_Script k b0 P0) sz) := by
  refine gm_i (cc := cX5_readNumber) (maxL := 7) (by decide) rfl (Nat.le_of_ble_eq_true rfl) ?_
  intro p e s m args below meth c A Q ls H locs hx hb hml hown hts hK hN hA hP hD hS hl hret
  have hown : s.vm.findClass RX5 = some m.cls := hown
  have hl : lv_has ls 7 [(0, .ref (b0 0)), (1, .int x1), (2, .int x2)] := hl
  have iw_Script : ∀ w ∈ u_ws RX5 TX5 4, w ∈ wsX5_readNumber := by decide +kernel
  have fl_15 := hts (.fieldLink RX5 15 "OneMeasure$Script" "numbers" "[I") (by decide +kernel)
  unfold f_Script_readNumber at hf
  refine lv_iconst (v := 0) hx hb dX5_readNumber_0 (by decide) ?_
  obtain ⟨x3_1, e_, hf⟩ := mb_let_s hf
  refine mb_topi e_ ?_
  clear e_
  refine lv_istore_n (lv' := [(3, .int x3_1), (0, .ref (b0 0)), (1, .int x1), (2, .int x2)]) hx hb dX5_readNumber_1 rfl hl (by decide) rfl (fun ls hl => ?_)
  refine lv_iconst (v := 0) hx hb dX5_readNumber_2 (by decide) ?_
  obtain ⟨x4_2, e_, hf⟩ := mb_let_s hf
  refine mb_topi e_ ?_
  clear e_
  refine lv_istore (lv' := [(4, .int x4_2), (3, .int x3_1), (0, .ref (b0 0)), (1, .int x1), (2, .int x2)]) hx hb dX5_readNumber_3 hl (by decide) rfl (fun ls hl => ?_)
  refine lv_iconst (v := 0) hx hb dX5_readNumber_5 (by decide) ?_
  obtain ⟨x5_3, e_, hf⟩ := mb_let_s hf
  refine mb_topi e_ ?_
  clear e_
  refine lv_istore (lv' := [(5, .int x5_3), (4, .int x4_2), (3, .int x3_1), (0, .ref (b0 0)), (1, .int x1), (2, .int x2)]) hx hb dX5_readNumber_6 hl (by decide) rfl (fun ls hl => ?_)
  obtain ⟨K61_6, eK61_6, hf⟩ := mb_jn_s hf
  have k61_7 : ∀ (x3_4 : Int32) (x4_5 : Int32) (H : Heap) (locs : List Loc) (ls : Array Slot), K61_6 x3_4 x4_5 = some z → va_P D vwCl (wC_Script k b0 P0) H → va_D A (wC_Script k b0 P0) → va_S A s.heap H locs → lv_has ls 7 [(0, .ref (b0 0)), (1, .int x1), (2, .int x2), (3, .int x3_4), (4, .int x4_5)] → W p l e rm_Script_readNumber s m args below meth c H locs 0 0 Q (F0 m 61 ls []) := by
    intro x3_4 x4_5 H locs ls hf hP hD hS hl
    have hf := mb_j2 eK61_6 hf
    refine lv_aload_n hx hb dX5_readNumber_61 rfl (lv_at hl 0 rfl) ?_
    refine va_get (D := D) (ci := 5) (v := .ref (b0 2)) (C := RX5) (T := TX5) (N := 4) hx hb hts iw_Script hown hK hP 0 rfl rfl 1 (by decide) fl_15 (fun _ h9 => h9) rfl dX5_readNumber_62 ?_
    refine lv_iload_n hx hb dX5_readNumber_65 rfl (lv_at hl 2 rfl) ?_
    refine lv_iload_n hx hb dX5_readNumber_66 rfl (lv_at hl 3 rfl) ?_
    obtain ⟨h_9, hf⟩ := mb_chk_s hf
    obtain ⟨P0_8, e_, hf⟩ := mb_let_s hf
    refine va_iast hx hb hK hP hD hS 2 0 rfl rfl h_9 dX5_readNumber_67 (fun H locs hP hD hS => ?_)
    have hP : va_P D vwCl (wC_Script k b0 P0_8) H := by rw [e_]; exact hP
    have hD : va_D A (wC_Script k b0 P0_8) := by rw [e_]; exact hD
    clear e_
    refine lv_iload hx hb dX5_readNumber_68 (lv_at hl 4 rfl) ?_
    refine lv_if_ne (tgt := 77) hx hb dX5_readNumber_70 (by decide) (fun c_10 => ?_) (fun c_10 => ?_)
    · have hf := mb_if_f c_10 hf
      refine lv_iload_n hx hb dX5_readNumber_77 rfl (lv_at hl 1 rfl) ?_
      refine lv_iload hx hb dX5_readNumber_78 (lv_at hl 4 rfl) ?_
      refine lv_iadd hx hb dX5_readNumber_80 ?_
      have hz := Option.some.inj hf
      subst hz
      exact hret _ _ _ _ dX5_readNumber_81 hP hD hS
    · have hf := mb_if_t c_10 hf
      refine lv_iconst (v := (-1)) hx hb dX5_readNumber_73 (by decide) ?_
      refine lv_goto (tgt := 81) hx hb dX5_readNumber_74 (by decide) ?_
      have hz := Option.some.inj hf
      subst hz
      exact hret _ _ _ _ dX5_readNumber_81 hP hD hS
  obtain ⟨K38_13, eK38_13, hf⟩ := mb_jn_s hf
  have k38_14 : ∀ (x3_11 : Int32) (x4_12 : Int32) (H : Heap) (locs : List Loc) (ls : Array Slot), K38_13 x3_11 x4_12 = some z → va_P D vwCl (wC_Script k b0 P0) H → va_D A (wC_Script k b0 P0) → va_S A s.heap H locs → lv_has ls 7 [(0, .ref (b0 0)), (1, .int x1), (2, .int x2), (3, .int x3_11), (4, .int x4_12)] → W p l e rm_Script_readNumber s m args below meth c H locs 0 0 Q (F0 m 38 ls []) := by
    intro x3_11 x4_12 H locs ls hf hP hD hS hl
    have hf := mb_j2 eK38_13 hf
    refine lv_goto (tgt := 61) hx hb dX5_readNumber_38 (by decide) ?_
    exact k61_7 x3_11 x4_12 _ _ _ hf hP hD hS (lv_sub hl [0, 1, 2, 3, 4] rfl)
  have lp8_15 : ∀ (n : Nat) (x3_17 : Int32) (x4_18 : Int32) (x5_19 : Int32) (H : Heap) (locs : List Loc) (ls : Array Slot), f_Script_readNumber_8 P0 x1 K61_6 K38_13 n x3_17 x4_18 x5_19 = some z → va_P D vwCl (wC_Script k b0 P0) H → va_D A (wC_Script k b0 P0) → va_S A s.heap H locs → lv_has ls 7 [(0, .ref (b0 0)), (1, .int x1), (2, .int x2), (3, .int x3_17), (4, .int x4_18), (5, .int x5_19)] → W p l e rm_Script_readNumber s m args below meth c H locs 0 0 Q (F0 m 8 ls []) := by
    intro n
    induction n with
    | zero =>
      intro x3_17 x4_18 x5_19 H locs ls hf
      exact nomatch (show (none : Option (Int32 × PI)) = some z from hf)
    | succ n ih_16 =>
      intro x3_17 x4_18 x5_19 H locs ls hf hP hD hS hl
      have hf : f_Script_readNumber_8_b P0 x1 K61_6 K38_13 (f_Script_readNumber_8 P0 x1 K61_6 K38_13 n) x3_17 x4_18 x5_19 = some z := hf
      unfold f_Script_readNumber_8_b at hf
      refine lv_iload hx hb dX5_readNumber_8 (lv_at hl 5 rfl) ?_
      refine lv_iconst (v := 4) hx hb dX5_readNumber_10 (by decide) ?_
      refine lv_icmp_ge (tgt := 61) hx hb dX5_readNumber_11 (by decide) (fun c_28 => ?_) (fun c_28 => ?_)
      · have hf := mb_if_t c_28 hf
        exact k61_7 x3_17 x4_18 _ _ _ hf hP hD hS (lv_sub hl [0, 1, 2, 3, 4] rfl)
      · have hf := mb_if_f c_28 hf
        refine lv_aload_n hx hb dX5_readNumber_14 rfl (lv_at hl 0 rfl) ?_
        refine lv_iload_n hx hb dX5_readNumber_15 rfl (lv_at hl 1 rfl) ?_
        refine lv_iload hx hb dX5_readNumber_16 (lv_at hl 5 rfl) ?_
        refine lv_iadd hx hb dX5_readNumber_18 ?_
        obtain ⟨r_21, hz, hf⟩ := mb_bd1_s hf
        refine gc_i (r0 := r_21) (ws' := (wC_Script k b0 P0)) (wr := ([] : va_W)) (va_runV (As := [.int (x1 + x5_19)]) (rest := []) ⟨hx, hb, hml, hown, hts⟩ (c_Script_byteAt l D k H.size b0 P0 (x1 + x5_19) r_21 hz) (cwV 1 hts gX5_readNumber_X5_byteAt rfl rfl rfl (by decide +kernel) ⟨Nat.le_of_ble_eq_true rfl, Nat.le_of_ble_eq_true rfl⟩) (gp_V (ci := 5) (q0 := 0) (q := (RX5, TX5, 4)) hP hD hK hN [0, 1, 2] (by decide +kernel) rfl rfl rfl) rfl rfl hl.1 rfl (lv_room (Nat.le_of_ble_eq_true rfl)) dX5_readNumber_19 ⟨Nat.zero_le _, Nat.zero_le _⟩) hP hD hS hA [0, 1, 2] [] rfl rfl (by decide +kernel) (by decide +kernel) [0, 1, 2] (by decide +kernel) rfl (fun H locs hP hD hS => ?_)
        clear hz
        obtain ⟨x6_22, e_, hf⟩ := mb_let_s hf
        refine mb_topi e_ ?_
        clear e_
        refine lv_istore (lv' := [(6, .int x6_22), (0, .ref (b0 0)), (1, .int x1), (2, .int x2), (3, .int x3_17), (4, .int x4_18), (5, .int x5_19)]) hx hb dX5_readNumber_22 hl (by decide) rfl (fun ls hl => ?_)
        refine lv_iload hx hb dX5_readNumber_24 (lv_at hl 0 rfl) ?_
        refine lv_bipush (v := 48) hx hb dX5_readNumber_26 (by decide) ?_
        refine lv_icmp_lt (tgt := 61) hx hb dX5_readNumber_28 (by decide) (fun c_27 => ?_) (fun c_27 => ?_)
        · have hf := mb_if_t c_27 hf
          exact k61_7 x3_17 x4_18 _ _ _ hf hP hD hS (lv_sub hl [1, 2, 3, 4, 5] rfl)
        · have hf := mb_if_f c_27 hf
          refine lv_iload hx hb dX5_readNumber_31 (lv_at hl 0 rfl) ?_
          refine lv_bipush (v := 57) hx hb dX5_readNumber_33 (by decide) ?_
          refine lv_icmp_le (tgt := 41) hx hb dX5_readNumber_35 (by decide) (fun c_26 => ?_) (fun c_26 => ?_)
          · have hf := mb_if_t c_26 hf
            refine lv_iload_n hx hb dX5_readNumber_41 rfl (lv_at hl 4 rfl) ?_
            refine lv_bipush (v := 10) hx hb dX5_readNumber_42 (by decide) ?_
            refine lv_imul hx hb dX5_readNumber_44 ?_
            refine lv_iload hx hb dX5_readNumber_45 (lv_at hl 0 rfl) ?_
            refine lv_iadd hx hb dX5_readNumber_47 ?_
            refine lv_bipush (v := 48) hx hb dX5_readNumber_48 (by decide) ?_
            refine lv_isub hx hb dX5_readNumber_50 ?_
            obtain ⟨x3_23, e_, hf⟩ := mb_let_s hf
            refine mb_topi e_ ?_
            clear e_
            refine lv_istore_n (lv' := [(3, .int x3_23), (6, .int x6_22), (0, .ref (b0 0)), (1, .int x1), (2, .int x2), (4, .int x4_18), (5, .int x5_19)]) hx hb dX5_readNumber_51 rfl hl (by decide) rfl (fun ls hl => ?_)
            obtain ⟨x4_24, e_, hf⟩ := mb_let_s hf
            refine lv_iinc (v := x4_24) (lv' := [(4, .int x4_24), (3, .int x3_23), (6, .int x6_22), (0, .ref (b0 0)), (1, .int x1), (2, .int x2), (5, .int x5_19)]) hx hb dX5_readNumber_52 hl (k := 5) rfl (by rw [e_]; rfl) (by decide) rfl (fun ls hl => ?_)
            clear e_
            obtain ⟨x5_25, e_, hf⟩ := mb_let_s hf
            refine lv_iinc (v := x5_25) (lv' := [(5, .int x5_25), (4, .int x4_24), (3, .int x3_23), (6, .int x6_22), (0, .ref (b0 0)), (1, .int x1), (2, .int x2)]) hx hb dX5_readNumber_55 hl (k := 6) rfl (by rw [e_]; rfl) (by decide) rfl (fun ls hl => ?_)
            clear e_
            refine lv_goto (tgt := 8) hx hb dX5_readNumber_58 (by decide) ?_
            exact ih_16 x3_23 x4_24 x5_25 _ _ _ hf hP hD hS (lv_sub hl [4, 5, 6, 2, 1, 0] rfl)
          · have hf := mb_if_f c_26 hf
            exact k38_14 x3_17 x4_18 _ _ _ hf hP hD hS (lv_sub hl [1, 2, 3, 4, 5] rfl)
  exact lp8_15 mb_fu x3_1 x4_2 x5_3 _ _ _ hf hP hD hS (lv_sub hl [3, 4, 5, 2, 1, 0] rfl)
