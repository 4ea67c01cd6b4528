def f_Ref_plan (P0 : PI) (x1 : Int32) (x2 : Int32) : Option (Int32 × PI) := mb_bd1 (f_Ref_in ((x1).toInt64) (0 : Int64) (9 : Int64)) (fun (r_1 : Int32) => (if r_1 = 0 then some ((-1 : Int32), P0) else mb_bd1 (f_Ref_in ((x2).toInt64) (0 : Int64) (63 : Int64)) (fun (r_2 : Int32) => (if r_2 = 0 then some ((-1 : Int32), P0) else mb_chk x1 10 (mb_let (P0 26 x1.toNatClampNeg) (fun (x3_4 : Int32) => mb_chk x1 10 (mb_let (mb_u2 P0 26 x1.toNatClampNeg x2) (fun (P0_5 : PI) => some (x3_4, P0_5)))))))))
def rm_Ref_plan : Room := { frames := 1, cells := 0, slots := 0, locals := 25 }
set_option maxHeartbeats 4000000 in
set_option maxRecDepth 100000 in
theorem c_Ref_plan (l : Launch) (D : va_G) (k : Nat → ClassId) (sz : Nat) (b0 : Nat → Nat) (P0 : PI) (L0 : PL) (x1 : Int32) (x2 : Int32) (z : Int32 × PI) (hf : f_Ref_plan P0 x1 x2 = some z) : Met l yX12_plan wsX12_plan rm_Ref_plan (va_Pc [.ref (b0 0), .int x1, .int x2] (gw_pre D vwCl (tyL k) (wC_Ref k b0 P0 L0) sz)) (va_Qi (fun (r : Int32) (_ : Unit) => r = z.1) (gw_b D vwCl (tyL k) (va_A (wC_Ref k b0 P0 L0) sz) (wC_Ref k b0 z.2 L0)) (va_A (wC_Ref k b0 P0 L0) sz)) 0 0 (va_A (wC_Ref k b0 P0 L0) sz) := by
  refine gm_i (cc := cX12_plan) (maxL := 4) (by decide) rfl (Nat.le_of_ble_eq_true rfl) ?_
  intro p e s m args below meth c A Q ls H locs hx hb hml hown hts hK hN hA hP hD hS hl hret
  have hown : s.vm.findClass RX12 = some m.cls := hown
  have hl : lv_has ls 4 [(0, .ref (b0 0)), (1, .int x1), (2, .int x2)] := hl
  have iw_Ref : ∀ w ∈ u_ws RX12 TX12 42, w ∈ wsX12_plan := by decide +kernel
  have fl_69 := hts (.fieldLink RX12 69 "OneMeasureModel" "plans" "[I") (by decide +kernel)
  have lc_202 := hts (.constantLong RX12 202 (9)) (by decide +kernel)
  have lc_258 := hts (.constantLong RX12 258 (63)) (by decide +kernel)
  unfold f_Ref_plan at hf
  refine lv_iload_n hx hb dX12_plan_0 rfl (lv_at hl 1 rfl) ?_
  refine lv_i2l hx hb dX12_plan_1 rfl ?_
  refine lv_lconst (v := 0) hx hb dX12_plan_2 (by decide) ?_
  refine lv_ldc2 (v := (9)) hx hb hown lc_202 dX12_plan_3 ?_
  obtain ⟨r_1, hz, hf⟩ := mb_bd1_s hf
  refine gc_i (r0 := r_1) (ws' := (wC_Ref k b0 P0 L0)) (wr := (wC_Ref k b0 P0 L0)) (va_runS (As := [.long (x1).toInt64, .long (0 : Int64), .long (9 : Int64)]) (rest := []) ⟨hx, hb, hml, hown, hts⟩ (c_Ref_in l D k H.size ((x1).toInt64) (0 : Int64) (9 : Int64) r_1 hz) (cwS 3 hts gX12_plan_X12_in rfl rfl rfl (by decide +kernel) ⟨Nat.le_of_ble_eq_true rfl, Nat.le_of_ble_eq_true rfl⟩) (gp_S hP hD hK hN [] (by decide +kernel) rfl) rfl rfl hl.1 rfl (lv_room (Nat.le_of_ble_eq_true rfl)) dX12_plan_6 ⟨Nat.zero_le _, Nat.zero_le _⟩) hP hD hS hA [] [0, 1, 2, 3, 4, 5, 6, 7, 8, 9, 10, 11, 12, 13, 14, 15, 16, 17, 18, 19, 20, 21, 22, 23, 24, 25] rfl rfl (by decide +kernel) (by decide +kernel) [0, 1, 2, 3, 4, 5, 6, 7, 8, 9, 10, 11, 12, 13, 14, 15, 16, 17, 18, 19, 20, 21, 22, 23, 24, 25] (by decide +kernel) rfl (fun H locs hP hD hS => ?_)
  clear hz
  refine lv_if_eq (tgt := 24) hx hb dX12_plan_9 (by decide) (fun c_8 => ?_) (fun c_8 => ?_)
  · have hf := mb_if_t c_8 hf
    refine lv_iconst (v := (-1)) hx hb dX12_plan_24 (by decide) ?_
    have hz := Option.some.inj hf
    subst hz
    exact hret _ _ _ _ dX12_plan_25 hP hD hS
  · have hf := mb_if_f c_8 hf
    refine lv_iload_n hx hb dX12_plan_12 rfl (lv_at hl 2 rfl) ?_
    refine lv_i2l hx hb dX12_plan_13 rfl ?_
    refine lv_lconst (v := 0) hx hb dX12_plan_14 (by decide) ?_
    refine lv_ldc2 (v := (63)) hx hb hown lc_258 dX12_plan_15 ?_
    obtain ⟨r_2, hz, hf⟩ := mb_bd1_s hf
    refine gc_i (r0 := r_2) (ws' := (wC_Ref k b0 P0 L0)) (wr := (wC_Ref k b0 P0 L0)) (va_runS (As := [.long (x2).toInt64, .long (0 : Int64), .long (63 : Int64)]) (rest := []) ⟨hx, hb, hml, hown, hts⟩ (c_Ref_in l D k H.size ((x2).toInt64) (0 : Int64) (63 : Int64) r_2 hz) (cwS 3 hts gX12_plan_X12_in rfl rfl rfl (by decide +kernel) ⟨Nat.le_of_ble_eq_true rfl, Nat.le_of_ble_eq_true rfl⟩) (gp_S hP hD hK hN [] (by decide +kernel) rfl) rfl rfl hl.1 rfl (lv_room (Nat.le_of_ble_eq_true rfl)) dX12_plan_18 ⟨Nat.zero_le _, Nat.zero_le _⟩) hP hD hS hA [] [0, 1, 2, 3, 4, 5, 6, 7, 8, 9, 10, 11, 12, 13, 14, 15, 16, 17, 18, 19, 20, 21, 22, 23, 24, 25] rfl rfl (by decide +kernel) (by decide +kernel) [0, 1, 2, 3, 4, 5, 6, 7, 8, 9, 10, 11, 12, 13, 14, 15, 16, 17, 18, 19, 20, 21, 22, 23, 24, 25] (by decide +kernel) rfl (fun H locs hP hD hS => ?_)
    clear hz
    refine lv_if_ne (tgt := 26) hx hb dX12_plan_21 (by decide) (fun c_7 => ?_) (fun c_7 => ?_)
    · have hf := mb_if_f c_7 hf
      refine lv_aload_n hx hb dX12_plan_26 rfl (lv_at hl 0 rfl) ?_
      refine va_get (D := D) (ci := 12) (v := .ref (b0 26)) (C := RX12) (T := TX12) (N := 42) hx hb hts iw_Ref hown hK hP 0 rfl rfl 25 (by decide) fl_69 (fun _ h9 => h9) rfl dX12_plan_27 ?_
      refine lv_iload_n hx hb dX12_plan_30 rfl (lv_at hl 1 rfl) ?_
      obtain ⟨h_3, hf⟩ := mb_chk_s hf
      refine va_iald hx hb hK hP 19 0 rfl rfl h_3 dX12_plan_31 ?_
      obtain ⟨x3_4, e_, hf⟩ := mb_let_s hf
      refine mb_topi e_ ?_
      clear e_
      refine lv_istore_n (lv' := [(3, .int x3_4), (0, .ref (b0 0)), (1, .int x1), (2, .int x2)]) hx hb dX12_plan_32 rfl hl (by decide) rfl (fun ls hl => ?_)
      refine lv_aload_n hx hb dX12_plan_33 rfl (lv_at hl 1 rfl) ?_
      refine va_get (D := D) (ci := 12) (v := .ref (b0 26)) (C := RX12) (T := TX12) (N := 42) hx hb hts iw_Ref hown hK hP 0 rfl rfl 25 (by decide) fl_69 (fun _ h9 => h9) rfl dX12_plan_34 ?_
      refine lv_iload_n hx hb dX12_plan_37 rfl (lv_at hl 2 rfl) ?_
      refine lv_iload_n hx hb dX12_plan_38 rfl (lv_at hl 3 rfl) ?_
      obtain ⟨h_6, hf⟩ := mb_chk_s hf
      obtain ⟨P0_5, e_, hf⟩ := mb_let_s hf
      refine va_iast hx hb hK hP hD hS 19 0 rfl rfl h_6 dX12_plan_39 (fun H locs hP hD hS => ?_)
      have hP : va_P D vwCl (wC_Ref k b0 P0_5 L0) H := by rw [e_]; exact hP
      have hD : va_D A (wC_Ref k b0 P0_5 L0) := by rw [e_]; exact hD
      clear e_
      refine lv_iload_n hx hb dX12_plan_40 rfl (lv_at hl 0 rfl) ?_
      have hz := Option.some.inj hf
      subst hz
      exact hret _ _ _ _ dX12_plan_41 hP hD hS
    · have hf := mb_if_t c_7 hf
      refine lv_iconst (v := (-1)) hx hb dX12_plan_24 (by decide) ?_
      have hz := Option.some.inj hf
      subst hz
      exact hret _ _ _ _ dX12_plan_25 hP hD hS
def f_Ref_offAt (P0 : PI) (x1 : Int32) (x2 : Int32) : Option (Int32) := mb_chk (x1 + (2 : Int32)) 288 (mb_chk (x1 + (3 : Int32)) 288 (mb_let ((P0 19 (x1 + (2 : Int32)).toNatClampNeg) - ((P0 19 (x1 + (3 : Int32)).toNatClampNeg) * x2)) (fun (x3_3 : Int32) => (if (-500 : Int32) ≤ x3_3 then some x3_3 else some (-500 : Int32)))))
def rm_Ref_offAt : Room := { frames := 0, cells := 0, slots := 0, locals := 0 }
set_option maxHeartbeats 4000000 in
set_option maxRecDepth 100000 in
theorem c_Ref_offAt (l : Launch) (D : va_G) (k : Nat → ClassId) (sz : Nat) (b0 : Nat → Nat) (P0 : PI) (L0 : PL) (x1 : Int32) (x2 : Int32) (z : Int32) (hf : f_Ref_offAt P0 x1 x2 = some z) : Met l yX12_offAt wsX12_offAt rm_Ref_offAt (va_Pc [.ref (b0 0), .int x1, .int x2] (gw_pre D vwCl (tyL k) (wC_Ref k b0 P0 L0) sz)) (va_Qi (fun (r : Int32) (_ : Unit) => r = z) (gw_b D vwCl (tyL k) (va_A (wC_Ref k b0 P0 L0) sz) (wC_Ref k b0 P0 L0)) (va_A (wC_Ref k b0 P0 L0) sz)) 0 0 (va_A (wC_Ref k b0 P0 L0) sz) := by
  refine gm_i (cc := cX12_offAt) (maxL := 4) (by decide) rfl (Nat.le_of_ble_eq_true rfl) ?_
  intro p e s m args below meth c A Q ls H locs hx hb hml hown hts hK hN hA hP hD hS hl hret
  have hown : s.vm.findClass RX12 = some m.cls := hown
  have hl : lv_has ls 4 [(0, .ref (b0 0)), (1, .int x1), (2, .int x2)] := hl
  have iw_Ref : ∀ w ∈ u_ws RX12 TX12 42, w ∈ wsX12_offAt := by decide +kernel
  have fl_50 := hts (.fieldLink RX12 50 "OneMeasureModel" "rods" "[I") (by decide +kernel)
  unfold f_Ref_offAt at hf
  refine lv_aload_n hx hb dX12_offAt_0 rfl (lv_at hl 0 rfl) ?_
  refine va_get (D := D) (ci := 12) (v := .ref (b0 19)) (C := RX12) (T := TX12) (N := 42) hx hb hts iw_Ref hown hK hP 0 rfl rfl 18 (by decide) fl_50 (fun _ h9 => h9) rfl dX12_offAt_1 ?_
  refine lv_iload_n hx hb dX12_offAt_4 rfl (lv_at hl 1 rfl) ?_
  refine lv_iconst (v := 2) hx hb dX12_offAt_5 (by decide) ?_
  refine lv_iadd hx hb dX12_offAt_6 ?_
  obtain ⟨h_1, hf⟩ := mb_chk_s hf
  refine va_iald hx hb hK hP 14 0 rfl rfl h_1 dX12_offAt_7 ?_
  refine lv_aload_n hx hb dX12_offAt_8 rfl (lv_at hl 0 rfl) ?_
  refine va_get (D := D) (ci := 12) (v := .ref (b0 19)) (C := RX12) (T := TX12) (N := 42) hx hb hts iw_Ref hown hK hP 0 rfl rfl 18 (by decide) fl_50 (fun _ h9 => h9) rfl dX12_offAt_9 ?_
  refine lv_iload_n hx hb dX12_offAt_12 rfl (lv_at hl 1 rfl) ?_
  refine lv_iconst (v := 3) hx hb dX12_offAt_13 (by decide) ?_
  refine lv_iadd hx hb dX12_offAt_14 ?_
  obtain ⟨h_2, hf⟩ := mb_chk_s hf
  refine va_iald hx hb hK hP 14 0 rfl rfl h_2 dX12_offAt_15 ?_
  refine lv_iload_n hx hb dX12_offAt_16 rfl (lv_at hl 2 rfl) ?_
  refine lv_imul hx hb dX12_offAt_17 ?_
  refine lv_isub hx hb dX12_offAt_18 ?_
  obtain ⟨x3_3, e_, hf⟩ := mb_let_s hf
  refine mb_topi e_ ?_
  clear e_
  refine lv_istore_n (lv' := [(3, .int x3_3), (0, .ref (b0 0)), (1, .int x1), (2, .int x2)]) hx hb dX12_offAt_19 rfl hl (by decide) rfl (fun ls hl => ?_)
  refine lv_iload_n hx hb dX12_offAt_20 rfl (lv_at hl 0 rfl) ?_
  refine lv_sipush (v := (-500)) hx hb dX12_offAt_21 (by decide) ?_
  refine lv_icmp_ge (tgt := 33) hx hb dX12_offAt_24 (by decide) (fun c_4 => ?_) (fun c_4 => ?_)
  · have hf := mb_if_t c_4 hf
    refine lv_iload_n hx hb dX12_offAt_33 rfl (lv_at hl 0 rfl) ?_
    have hz := Option.some.inj hf
    subst hz
    exact hret _ _ _ _ dX12_offAt_34 hP hD hS
  · have hf := mb_if_f c_4 hf
    refine lv_sipush (v := (-500)) hx hb dX12_offAt_27 (by decide) ?_
    refine lv_goto (tgt := 34) hx hb dX12_offAt_30 (by decide) ?_
    have hz := Option.some.inj hf
    subst hz
    exact hret _ _ _ _ dX12_offAt_34 hP hD hS
def f_Ref_abs (x0 : Int32) : Option (Int32) := (if 0 ≤ x0 then some x0 else some (-x0))
def rm_Ref_abs : Room := { frames := 0, cells := 0, slots := 0, locals := 0 }
set_option maxHeartbeats 4000000 in
set_option maxRecDepth 100000 in
theorem c_Ref_abs (l : Launch) (D : va_G) (k : Nat → ClassId) (sz : Nat) (x0 : Int32) (z : Int32) (hf : f_Ref_abs x0 = some z) : Met l yX12_abs wsX12_abs rm_Ref_abs (va_Pc [.int x0] (gw_pre D vwCl (tyL k) ([] : va_W) sz)) (va_Qi (fun (r : Int32) (_ : Unit) => r = z) (gw_b D vwCl (tyL k) (va_A ([] : va_W) sz) ([] : va_W)) (va_A ([] : va_W) sz)) 0 0 (va_A ([] : va_W) sz) := by
  refine gm_i (cc := cX12_abs) (maxL := 1) (by decide) rfl (Nat.le_of_ble_eq_true rfl) ?_
  intro p e s m args below meth c A Q ls H locs hx hb hml hown hts hK hN hA hP hD hS hl hret
  have hown : s.vm.findClass RX12 = some m.cls := hown
  have hl : lv_has ls 1 [(0, .int x0)] := hl
  unfold f_Ref_abs at hf
  refine lv_iload_n hx hb dX12_abs_0 rfl (lv_at hl 0 rfl) ?_
  refine lv_if_ge (tgt := 9) hx hb dX12_abs_1 (by decide) (fun c_1 => ?_) (fun c_1 => ?_)
  · have hf := mb_if_t c_1 hf
    refine lv_iload_n hx hb dX12_abs_9 rfl (lv_at hl 0 rfl) ?_
    have hz := Option.some.inj hf
    subst hz
    exact hret _ _ _ _ dX12_abs_10 hP hD hS
  · have hf := mb_if_f c_1 hf
    refine lv_iload_n hx hb dX12_abs_4 rfl (lv_at hl 0 rfl) ?_
    refine lv_ineg hx hb dX12_abs_5 ?_
    refine lv_goto (tgt := 10) hx hb dX12_abs_6 (by decide) ?_
    have hz := Option.some.inj hf
    subst hz
    exact hret _ _ _ _ dX12_abs_10 hP hD hS
def f_Ref_isFalse (P0 : PI) (x1 : Int32) (x2 : Int32) (x3 : Int32) : Option (Int32) := mb_bd1 (f_Ref_offAt P0 x1 x2) (fun (r_1 : Int32) => mb_bd1 (f_Ref_abs r_1) (fun (r_2 : Int32) => (if (P0 0 24) < r_2 then some (1 : Int32) else mb_chk x1 288 (mb_chk (x1 + (1 : Int32)) 288 (mb_bd1 (f_Ref_isLet P0 (P0 19 x1.toNatClampNeg) (P0 19 (x1 + (1 : Int32)).toNatClampNeg) ((7 : Int32) * x3)) (fun (r_5 : Int32) => (if r_5 = 0 then some (1 : Int32) else some (0 : Int32))))))))
def rm_Ref_isFalse : Room := { frames := 3, cells := 0, slots := 0, locals := 76 }
set_option maxHeartbeats 4000000 in
set_option maxRecDepth 100000 in
theorem c_Ref_isFalse (l : Launch) (D : va_G) (k : Nat → ClassId) (sz : Nat) (b0 : Nat → Nat) (P0 : PI) (L0 : PL) (x1 : Int32) (x2 : Int32) (x3 : Int32) (z : Int32) (hf : f_Ref_isFalse P0 x1 x2 x3 = some z) : Met l yX12_isFalse wsX12_isFalse rm_Ref_isFalse (va_Pc [.ref (b0 0), .int x1, .int x2, .int x3] (gw_pre D vwCl (tyL k) (wC_Ref k b0 P0 L0) sz)) (va_Qi (fun (r : Int32) (_ : Unit) => r = z) (gw_b D vwCl (tyL k) (va_A (wC_Ref k b0 P0 L0) sz) (wC_Ref k b0 P0 L0)) (va_A (wC_Ref k b0 P0 L0) sz)) 0 0 (va_A (wC_Ref k b0 P0 L0) sz) := by
  refine gm_z (cc := cX12_isFalse) (maxL := 4) (by decide) rfl (Nat.le_of_ble_eq_true rfl) ?_
  intro p e s m args below meth c A Q ls H locs hx hb hml hown hts hK hN hA hP hD hS hl hret
  have hown : s.vm.findClass RX12 = some m.cls := hown
  have hl : lv_has ls 4 [(0, .ref (b0 0)), (1, .int x1), (2, .int x2), (3, .int x3)] := hl
  have iw_Ref : ∀ w ∈ u_ws RX12 TX12 42, w ∈ wsX12_isFalse := by decide +kernel
  have fl_50 := hts (.fieldLink RX12 50 "OneMeasureModel" "rods" "[I") (by decide +kernel)
  have fl_65 := hts (.fieldLink RX12 65 "OneMeasureModel" "allow" "I") (by decide +kernel)
  unfold f_Ref_isFalse at hf
  refine lv_aload_n hx hb dX12_isFalse_0 rfl (lv_at hl 0 rfl) ?_
  refine lv_iload_n hx hb dX12_isFalse_1 rfl (lv_at hl 1 rfl) ?_
  refine lv_iload_n hx hb dX12_isFalse_2 rfl (lv_at hl 2 rfl) ?_
  obtain ⟨r_1, hz, hf⟩ := mb_bd1_s hf
  refine gc_i (r0 := r_1) (ws' := (wC_Ref k b0 P0 L0)) (wr := ([] : va_W)) (va_runV (As := [.int x1, .int x2]) (rest := []) ⟨hx, hb, hml, hown, hts⟩ (c_Ref_offAt l D k H.size b0 P0 L0 x1 x2 r_1 hz) (cwV 2 hts gX12_isFalse_X12_offAt rfl rfl rfl (by decide +kernel) ⟨Nat.le_of_ble_eq_true rfl, Nat.le_of_ble_eq_true rfl⟩) (gp_V (ci := 12) (q0 := 0) (q := (RX12, TX12, 42)) hP hD hK hN [0, 1, 2, 3, 4, 5, 6, 7, 8, 9, 10, 11, 12, 13, 14, 15, 16, 17, 18, 19, 20, 21, 22, 23, 24, 25] (by decide +kernel) rfl rfl rfl) rfl rfl hl.1 rfl (lv_room (Nat.le_of_ble_eq_true rfl)) dX12_isFalse_3 ⟨Nat.zero_le _, Nat.zero_le _⟩) hP hD hS hA [0, 1, 2, 3, 4, 5, 6, 7, 8, 9, 10, 11, 12, 13, 14, 15, 16, 17, 18, 19, 20, 21, 22, 23, 24, 25] [] rfl rfl (by decide +kernel) (by decide +kernel) [0, 1, 2, 3, 4, 5, 6, 7, 8, 9, 10, 11, 12, 13, 14, 15, 16, 17, 18, 19, 20, 21, 22, 23, 24, 25] (by decide +kernel) rfl (fun H locs hP hD hS => ?_)
  clear hz
  obtain ⟨r_2, hz, hf⟩ := mb_bd1_s hf
  refine gc_i (r0 := r_2) (ws' := (wC_Ref k b0 P0 L0)) (wr := (wC_Ref k b0 P0 L0)) (va_runS (As := [.int r_1]) (rest := []) ⟨hx, hb, hml, hown, hts⟩ (c_Ref_abs l D k H.size r_1 r_2 hz) (cwS 1 hts gX12_isFalse_X12_abs rfl rfl rfl (by decide +kernel) ⟨Nat.le_of_ble_eq_true rfl, Nat.le_of_ble_eq_true rfl⟩) (gp_S hP hD hK hN [] (by decide +kernel) rfl) rfl rfl hl.1 rfl (lv_room (Nat.le_of_ble_eq_true rfl)) dX12_isFalse_6 ⟨Nat.zero_le _, Nat.zero_le _⟩) hP hD hS hA [] [0, 1, 2, 3, 4, 5, 6, 7, 8, 9, 10, 11, 12, 13, 14, 15, 16, 17, 18, 19, 20, 21, 22, 23, 24, 25] rfl rfl (by decide +kernel) (by decide +kernel) [0, 1, 2, 3, 4, 5, 6, 7, 8, 9, 10, 11, 12, 13, 14, 15, 16, 17, 18, 19, 20, 21, 22, 23, 24, 25] (by decide +kernel) rfl (fun H locs hP hD hS => ?_)
  clear hz
  refine lv_aload_n hx hb dX12_isFalse_9 rfl (lv_at hl 0 rfl) ?_
  refine va_get (D := D) (ci := 12) (v := .int (P0 0 24)) (C := RX12) (T := TX12) (N := 42) hx hb hts iw_Ref hown hK hP 0 rfl rfl 24 (by decide) fl_65 (fun _ h9 => h9) rfl dX12_isFalse_10 ?_
  refine lv_icmp_gt (tgt := 41) hx hb dX12_isFalse_13 (by decide) (fun c_7 => ?_) (fun c_7 => ?_)
  · have hf := mb_if_t c_7 hf
    refine lv_iconst (v := 1) hx hb dX12_isFalse_41 (by decide) ?_
    refine lv_goto (tgt := 46) hx hb dX12_isFalse_42 (by decide) ?_
    have hz := Option.some.inj hf
    subst hz
    exact hret _ _ _ _ mb_n1 dX12_isFalse_46 hP hD hS
  · have hf := mb_if_f c_7 hf
    refine lv_aload_n hx hb dX12_isFalse_16 rfl (lv_at hl 0 rfl) ?_
    refine lv_aload_n hx hb dX12_isFalse_17 rfl (lv_at hl 0 rfl) ?_
    refine va_get (D := D) (ci := 12) (v := .ref (b0 19)) (C := RX12) (T := TX12) (N := 42) hx hb hts iw_Ref hown hK hP 0 rfl rfl 18 (by decide) fl_50 (fun _ h9 => h9) rfl dX12_isFalse_18 ?_
    refine lv_iload_n hx hb dX12_isFalse_21 rfl (lv_at hl 1 rfl) ?_
    obtain ⟨h_3, hf⟩ := mb_chk_s hf
    refine va_iald hx hb hK hP 14 0 rfl rfl h_3 dX12_isFalse_22 ?_
    refine lv_aload_n hx hb dX12_isFalse_23 rfl (lv_at hl 0 rfl) ?_
    refine va_get (D := D) (ci := 12) (v := .ref (b0 19)) (C := RX12) (T := TX12) (N := 42) hx hb hts iw_Ref hown hK hP 0 rfl rfl 18 (by decide) fl_50 (fun _ h9 => h9) rfl dX12_isFalse_24 ?_
    refine lv_iload_n hx hb dX12_isFalse_27 rfl (lv_at hl 1 rfl) ?_
    refine lv_iconst (v := 1) hx hb dX12_isFalse_28 (by decide) ?_
    refine lv_iadd hx hb dX12_isFalse_29 ?_
    obtain ⟨h_4, hf⟩ := mb_chk_s hf
    refine va_iald hx hb hK hP 14 0 rfl rfl h_4 dX12_isFalse_30 ?_
    refine lv_bipush (v := 7) hx hb dX12_isFalse_31 (by decide) ?_
    refine lv_iload_n hx hb dX12_isFalse_33 rfl (lv_at hl 3 rfl) ?_
    refine lv_imul hx hb dX12_isFalse_34 ?_
    obtain ⟨r_5, hz, hf⟩ := mb_bd1_s hf
    refine gc_i (r0 := r_5) (ws' := (wC_Ref k b0 P0 L0)) (wr := ([] : va_W)) (va_runV (As := [.int (P0 19 x1.toNatClampNeg), .int (P0 19 (x1 + (1 : Int32)).toNatClampNeg), .int ((7 : Int32) * x3)]) (rest := []) ⟨hx, hb, hml, hown, hts⟩ (c_Ref_isLet l D k H.size b0 P0 L0 (P0 19 x1.toNatClampNeg) (P0 19 (x1 + (1 : Int32)).toNatClampNeg) ((7 : Int32) * x3) r_5 hz) (cwV 3 hts gX12_isFalse_X12_isLet rfl rfl rfl (by decide +kernel) ⟨Nat.le_of_ble_eq_true rfl, Nat.le_of_ble_eq_true rfl⟩) (gp_V (ci := 12) (q0 := 0) (q := (RX12, TX12, 42)) hP hD hK hN [0, 1, 2, 3, 4, 5, 6, 7, 8, 9, 10, 11, 12, 13, 14, 15, 16, 17, 18, 19, 20, 21, 22, 23, 24, 25] (by decide +kernel) rfl rfl rfl) rfl rfl hl.1 rfl (lv_room (Nat.le_of_ble_eq_true rfl)) dX12_isFalse_35 ⟨Nat.zero_le _, Nat.zero_le _⟩) hP hD hS hA [0, 1, 2, 3, 4, 5, 6, 7, 8, 9, 10, 11, 12, 13, 14, 15, 16, 17, 18, 19, 20, 21, 22, 23, 24, 25] [] rfl rfl (by decide +kernel) (by decide +kernel) [0, 1, 2, 3, 4, 5, 6, 7, 8, 9, 10, 11, 12, 13, 14, 15, 16, 17, 18, 19, 20, 21, 22, 23, 24, 25] (by decide +kernel) rfl (fun H locs hP hD hS => ?_)
    clear hz
    refine lv_if_ne (tgt := 45) hx hb dX12_isFalse_38 (by decide) (fun c_6 => ?_) (fun c_6 => ?_)
    · have hf := mb_if_f c_6 hf
      refine lv_iconst (v := 0) hx hb dX12_isFalse_45 (by decide) ?_
      have hz := Option.some.inj hf
      subst hz
      exact hret _ _ _ _ mb_n0 dX12_isFalse_46 hP hD hS
    · have hf := mb_if_t c_6 hf
      refine lv_iconst (v := 1) hx hb dX12_isFalse_41 (by decide) ?_
      refine lv_goto (tgt := 46) hx hb dX12_isFalse_42 (by decide) ?_
      have hz := Option.some.inj hf
      subst hz
      exact hret _ _ _ _ mb_n1 dX12_isFalse_46 hP hD hS
def f_Ref_goWeek_2_b (x1 : Int32) (K207_4 : PI → PL → Option (PI × PL)) (self_14 : Int32 → PI → PL → Option (PI × PL)) (x2_11 : Int32) (P0_12 : PI) (L0_13 : PL) : Option (PI × PL) := mb_chk (0 : Int32) 3 ((if ((8 : Int32) * (P0_12 18 (0 : Int32).toNatClampNeg)) ≤ x2_11 then K207_4 P0_12 L0_13 else mb_chk (x2_11 + (7 : Int32)) 288 ((if 0 ≤ (P0_12 19 (x2_11 + (7 : Int32)).toNatClampNeg) then mb_let (x2_11 + (8 : Int32)) (fun (x2_17 : Int32) => self_14 x2_17 P0_12 L0_13) else mb_chk (0 : Int32) 3 (mb_chk (x2_11 + (5 : Int32)) 288 (mb_let ((P0_12 20 (0 : Int32).toNatClampNeg) - (P0_12 19 (x2_11 + (5 : Int32)).toNatClampNeg)) (fun (x3_20 : Int32) => mb_bd1 (f_Ref_offAt P0_12 x2_11 x3_20) (fun (r_21 : Int32) => mb_let r_21 (fun (x4_22 : Int32) => mb_chk (x2_11 + (4 : Int32)) 288 (mb_chk x2_11 288 (mb_chk (P0_12 19 x2_11.toNatClampNeg) 16 (mb_bd1 (f_Ref_abs x4_22) (fun (r_26 : Int32) => mb_dvl (1000 : Int64) (mb_let (((((P0_12 19 (x2_11 + (4 : Int32)).toNatClampNeg)).toInt64 * ((P0_12 3 (P0_12 19 x2_11.toNatClampNeg).toNatClampNeg)).toInt64) * (r_26).toInt64) / (1000 : Int64)) (fun (x5_28 : Int64) => mb_chk (x2_11 + (1 : Int32)) 288 (mb_chk (P0_12 19 (x2_11 + (1 : Int32)).toNatClampNeg) 18 (mb_jn (fun (y_31 : Int64) (y_32 : Int64) (y_33 : Int32) => mb_chk y_33 18 (mb_let (mb_u2L L0_13 21 y_33.toNatClampNeg (y_32 + y_31)) (fun (L0_36 : PL) => mb_chk (x2_11 + (1 : Int32)) 288 (mb_chk (P0_12 19 (x2_11 + (1 : Int32)).toNatClampNeg) 18 (mb_jn (fun (y_40 : Int64) (y_41 : Int64) (y_42 : Int32) => mb_chk y_42 18 (mb_let (mb_u2L L0_36 22 y_42.toNatClampNeg (y_41 + y_40)) (fun (L0_45 : PL) => mb_chk (x2_11 + (1 : Int32)) 288 ((if ((x1 >>> ((P0_12 19 (x2_11 + (1 : Int32)).toNatClampNeg) &&& 31)) &&& (1 : Int32)) = (1 : Int32) then mb_chk (0 : Int32) 3 (mb_bd1 (f_Ref_isFalse P0_12 x2_11 (x3_20 + (1 : Int32)) (P0_12 20 (0 : Int32).toNatClampNeg)) (fun (r_50 : Int32) => (if r_50 = 0 then mb_chk (x2_11 + (6 : Int32)) 288 (mb_let (mb_u2 P0_12 19 (x2_11 + (6 : Int32)).toNatClampNeg (1 : Int32)) (fun (P0_51 : PI) => mb_let (x2_11 + (8 : Int32)) (fun (x2_53 : Int32) => self_14 x2_53 P0_51 L0_45))) else mb_chk (0 : Int32) 3 (mb_chk (x2_11 + (7 : Int32)) 288 (mb_let (mb_u2 P0_12 19 (x2_11 + (7 : Int32)).toNatClampNeg (P0_12 20 (0 : Int32).toNatClampNeg)) (fun (P0_55 : PI) => mb_let (x2_11 + (8 : Int32)) (fun (x2_57 : Int32) => self_14 x2_57 P0_55 L0_45))))))) else mb_let (x2_11 + (8 : Int32)) (fun (x2_48 : Int32) => self_14 x2_48 P0_12 L0_45)))))) (fun J138_43 => (if x4_22 ≤ 0 then J138_43 (0 : Int64) (L0_36 22 (P0_12 19 (x2_11 + (1 : Int32)).toNatClampNeg).toNatClampNeg) (P0_12 19 (x2_11 + (1 : Int32)).toNatClampNeg) else J138_43 x5_28 (L0_36 22 (P0_12 19 (x2_11 + (1 : Int32)).toNatClampNeg).toNatClampNeg) (P0_12 19 (x2_11 + (1 : Int32)).toNatClampNeg)))))))) (fun J111_34 => (if 0 ≤ x4_22 then J111_34 (0 : Int64) (L0_13 21 (P0_12 19 (x2_11 + (1 : Int32)).toNatClampNeg).toNatClampNeg) (P0_12 19 (x2_11 + (1 : Int32)).toNatClampNeg) else J111_34 x5_28 (L0_13 21 (P0_12 19 (x2_11 + (1 : Int32)).toNatClampNeg).toNatClampNeg) (P0_12 19 (x2_11 + (1 : Int32)).toNatClampNeg))))))))))))))))))))
def f_Ref_goWeek_2 (x1 : Int32) (K207_4 : PI → PL → Option (PI × PL)) : Nat → Int32 → PI → PL → Option (PI × PL)
  | 0, _, _, _ => none
  | n + 1, x2_11, P0_12, L0_13 => f_Ref_goWeek_2_b x1 K207_4 (f_Ref_goWeek_2 x1 K207_4 n) x2_11 P0_12 L0_13
def f_Ref_goWeek (P0 : PI) (L0 : PL) (x1 : Int32) : Option (PI × PL) := mb_let (0 : Int32) (fun (x2_1 : Int32) => mb_jn (fun (P0_2 : PI) (L0_3 : PL) => mb_chk (0 : Int32) 3 (mb_chk (0 : Int32) 3 (mb_let (mb_u2 P0_2 20 (0 : Int32).toNatClampNeg ((P0_2 20 (0 : Int32).toNatClampNeg) + (1 : Int32))) (fun (P0_7 : PI) => some (P0_7, L0_3))))) (fun K207_4 => f_Ref_goWeek_2 x1 K207_4 mb_fu x2_1 P0 L0))
def rm_Ref_goWeek : Room := { frames := 4, cells := 0, slots := 0, locals := 99 }
set_option maxHeartbeats 4000000 in
set_option maxRecDepth 100000 in
theorem c_Ref_goWeek (l : Launch) (D : va_G) (k : Nat → ClassId) (sz : Nat) (b0 : Nat → Nat) (P0 : PI) (L0 : PL) (x1 : Int32) (z : PI × PL) (hf : f_Ref_goWeek P0 L0 x1 = some z) : Met l yX12_goWeek wsX12_goWeek rm_Ref_goWeek (va_Pc [.ref (b0 0), .int x1] (gw_pre D vwCl (tyL k) (wC_Ref k b0 P0 L0) sz)) (va_Qv (fun (_ : Unit) => True) (gw_b D vwCl (tyL k) (va_A (wC_Ref k b0 P0 L0) sz) (wC_Ref k b0 z.1 z.2)) (va_A (wC_Ref k b0 P0 L0) sz)) 0 0 (va_A (wC_Ref k b0 P0 L0) sz) := by
  refine gm_v (cc := cX12_goWeek) (maxL := 7) (by decide) rfl (Nat.le_of_ble_eq_true rfl) ?_
  intro p e s m args below meth c A Q ls H locs hx hb hml hown hts hK hN hA hP hD hS hl hret
  have hown : s.vm.findClass RX12 = some m.cls := hown
  have hl : lv_has ls 7 [(0, .ref (b0 0)), (1, .int x1)] := hl
  have iw_Ref : ∀ w ∈ u_ws RX12 TX12 42, w ∈ wsX12_goWeek := by decide +kernel
  have fl_13 := hts (.fieldLink RX12 13 "OneMeasureModel" "size" "[I") (by decide +kernel)
  have fl_47 := hts (.fieldLink RX12 47 "OneMeasureModel" "rodMany" "[I") (by decide +kernel)
  have fl_50 := hts (.fieldLink RX12 50 "OneMeasureModel" "rods" "[I") (by decide +kernel)
  have fl_53 := hts (.fieldLink RX12 53 "OneMeasureModel" "week" "[I") (by decide +kernel)
  have fl_56 := hts (.fieldLink RX12 56 "OneMeasureModel" "cheats" "[J") (by decide +kernel)
  have fl_59 := hts (.fieldLink RX12 59 "OneMeasureModel" "wins" "[J") (by decide +kernel)
  have lc_109 := hts (.constantLong RX12 109 (1000)) (by decide +kernel)
  unfold f_Ref_goWeek at hf
  refine lv_iconst (v := 0) hx hb dX12_goWeek_0 (by decide) ?_
  obtain ⟨x2_1, e_, hf⟩ := mb_let_s hf
  refine mb_topi e_ ?_
  clear e_
  refine lv_istore_n (lv' := [(2, .int x2_1), (0, .ref (b0 0)), (1, .int x1)]) hx hb dX12_goWeek_1 rfl hl (by decide) rfl (fun ls hl => ?_)
  obtain ⟨K207_4, eK207_4, hf⟩ := mb_jn_s hf
  have k207_5 : ∀ (P0_2 : PI) (L0_3 : PL) (H : Heap) (locs : List Loc) (ls : Array Slot), K207_4 P0_2 L0_3 = some z → va_P D vwCl (wC_Ref k b0 P0_2 L0_3) H → va_D A (wC_Ref k b0 P0_2 L0_3) → va_S A s.heap H locs → lv_has ls 7 [(0, .ref (b0 0))] → W p l e rm_Ref_goWeek s m args below meth c H locs 0 0 Q (F0 m 207 ls []) := by
    intro P0_2 L0_3 H locs ls hf hP hD hS hl
    have hf := mb_j2 eK207_4 hf
    refine lv_aload_n hx hb dX12_goWeek_207 rfl (lv_at hl 0 rfl) ?_
    refine va_get (D := D) (ci := 12) (v := .ref (b0 20)) (C := RX12) (T := TX12) (N := 42) hx hb hts iw_Ref hown hK hP 0 rfl rfl 19 (by decide) fl_53 (fun _ h9 => h9) rfl dX12_goWeek_208 ?_
    refine lv_iconst (v := 0) hx hb dX12_goWeek_211 (by decide) ?_
    refine lv_dup2_11 hx hb dX12_goWeek_212 rfl rfl ?_
    obtain ⟨h_6, hf⟩ := mb_chk_s hf
    refine va_iald hx hb hK hP 15 0 rfl rfl h_6 dX12_goWeek_213 ?_
    refine lv_iconst (v := 1) hx hb dX12_goWeek_214 (by decide) ?_
    refine lv_iadd hx hb dX12_goWeek_215 ?_
    obtain ⟨h_8, hf⟩ := mb_chk_s hf
    obtain ⟨P0_7, e_, hf⟩ := mb_let_s hf
    refine va_iast hx hb hK hP hD hS 15 0 rfl rfl h_8 dX12_goWeek_216 (fun H locs hP hD hS => ?_)
    have hP : va_P D vwCl (wC_Ref k b0 P0_7 L0_3) H := by rw [e_]; exact hP
    have hD : va_D A (wC_Ref k b0 P0_7 L0_3) := by rw [e_]; exact hD
    clear e_
    have hz := Option.some.inj hf
    subst hz
    exact hret _ _ _ _ dX12_goWeek_217 hP hD hS
  have lp2_9 : ∀ (n : Nat) (x2_11 : Int32) (P0_12 : PI) (L0_13 : PL) (H : Heap) (locs : List Loc) (ls : Array Slot), f_Ref_goWeek_2 x1 K207_4 n x2_11 P0_12 L0_13 = some z → va_P D vwCl (wC_Ref k b0 P0_12 L0_13) H → va_D A (wC_Ref k b0 P0_12 L0_13) → va_S A s.heap H locs → lv_has ls 7 [(0, .ref (b0 0)), (1, .int x1), (2, .int x2_11)] → W p l e rm_Ref_goWeek s m args below meth c H locs 0 0 Q (F0 m 2 ls []) := by
    intro n
    induction n with
    | zero =>
      intro x2_11 P0_12 L0_13 H locs ls hf
      exact nomatch (show (none : Option (PI × PL)) = some z from hf)
    | succ n ih_10 =>
      intro x2_11 P0_12 L0_13 H locs ls hf hP hD hS hl
      have hf : f_Ref_goWeek_2_b x1 K207_4 (f_Ref_goWeek_2 x1 K207_4 n) x2_11 P0_12 L0_13 = some z := hf
      unfold f_Ref_goWeek_2_b at hf
      refine lv_iload_n hx hb dX12_goWeek_2 rfl (lv_at hl 2 rfl) ?_
      refine lv_bipush (v := 8) hx hb dX12_goWeek_3 (by decide) ?_
      refine lv_aload_n hx hb dX12_goWeek_5 rfl (lv_at hl 0 rfl) ?_
      refine va_get (D := D) (ci := 12) (v := .ref (b0 18)) (C := RX12) (T := TX12) (N := 42) hx hb hts iw_Ref hown hK hP 0 rfl rfl 17 (by decide) fl_47 (fun _ h9 => h9) rfl dX12_goWeek_6 ?_
      refine lv_iconst (v := 0) hx hb dX12_goWeek_9 (by decide) ?_
      obtain ⟨h_15, hf⟩ := mb_chk_s hf
      refine va_iald hx hb hK hP 13 0 rfl rfl h_15 dX12_goWeek_10 ?_
      refine lv_imul hx hb dX12_goWeek_11 ?_
      refine lv_icmp_ge (tgt := 207) hx hb dX12_goWeek_12 (by decide) (fun c_63 => ?_) (fun c_63 => ?_)
      · have hf := mb_if_t c_63 hf
        exact k207_5 P0_12 L0_13 _ _ _ hf hP hD hS (lv_sub hl [0] rfl)
      · have hf := mb_if_f c_63 hf
        refine lv_aload_n hx hb dX12_goWeek_15 rfl (lv_at hl 0 rfl) ?_
        refine va_get (D := D) (ci := 12) (v := .ref (b0 19)) (C := RX12) (T := TX12) (N := 42) hx hb hts iw_Ref hown hK hP 0 rfl rfl 18 (by decide) fl_50 (fun _ h9 => h9) rfl dX12_goWeek_16 ?_
        refine lv_iload_n hx hb dX12_goWeek_19 rfl (lv_at hl 2 rfl) ?_
        refine lv_bipush (v := 7) hx hb dX12_goWeek_20 (by decide) ?_
        refine lv_iadd hx hb dX12_goWeek_22 ?_
        obtain ⟨h_16, hf⟩ := mb_chk_s hf
        refine va_iald hx hb hK hP 14 0 rfl rfl h_16 dX12_goWeek_23 ?_
        refine lv_if_ge (tgt := 201) hx hb dX12_goWeek_24 (by decide) (fun c_62 => ?_) (fun c_62 => ?_)
        · have hf := mb_if_t c_62 hf
          obtain ⟨x2_17, e_, hf⟩ := mb_let_s hf
          refine lv_iinc (v := x2_17) (lv' := [(2, .int x2_17), (0, .ref (b0 0)), (1, .int x1)]) hx hb dX12_goWeek_201 hl (k := 2) rfl (by rw [e_]; rfl) (by decide) rfl (fun ls hl => ?_)
          clear e_
          refine lv_goto (tgt := 2) hx hb dX12_goWeek_204 (by decide) ?_
          exact ih_10 x2_17 P0_12 L0_13 _ _ _ hf hP hD hS (lv_sub hl [1, 2, 0] rfl)
        · have hf := mb_if_f c_62 hf
          refine lv_aload_n hx hb dX12_goWeek_27 rfl (lv_at hl 0 rfl) ?_
          refine va_get (D := D) (ci := 12) (v := .ref (b0 20)) (C := RX12) (T := TX12) (N := 42) hx hb hts iw_Ref hown hK hP 0 rfl rfl 19 (by decide) fl_53 (fun _ h9 => h9) rfl dX12_goWeek_28 ?_
          refine lv_iconst (v := 0) hx hb dX12_goWeek_31 (by decide) ?_
          obtain ⟨h_18, hf⟩ := mb_chk_s hf
          refine va_iald hx hb hK hP 15 0 rfl rfl h_18 dX12_goWeek_32 ?_
          refine lv_aload_n hx hb dX12_goWeek_33 rfl (lv_at hl 0 rfl) ?_
          refine va_get (D := D) (ci := 12) (v := .ref (b0 19)) (C := RX12) (T := TX12) (N := 42) hx hb hts iw_Ref hown hK hP 0 rfl rfl 18 (by decide) fl_50 (fun _ h9 => h9) rfl dX12_goWeek_34 ?_
          refine lv_iload_n hx hb dX12_goWeek_37 rfl (lv_at hl 2 rfl) ?_
          refine lv_iconst (v := 5) hx hb dX12_goWeek_38 (by decide) ?_
          refine lv_iadd hx hb dX12_goWeek_39 ?_
          obtain ⟨h_19, hf⟩ := mb_chk_s hf
          refine va_iald hx hb hK hP 14 0 rfl rfl h_19 dX12_goWeek_40 ?_
          refine lv_isub hx hb dX12_goWeek_41 ?_
          obtain ⟨x3_20, e_, hf⟩ := mb_let_s hf
          refine mb_topi e_ ?_
          clear e_
          refine lv_istore_n (lv' := [(3, .int x3_20), (0, .ref (b0 0)), (1, .int x1), (2, .int x2_11)]) hx hb dX12_goWeek_42 rfl hl (by decide) rfl (fun ls hl => ?_)
          refine lv_aload_n hx hb dX12_goWeek_43 rfl (lv_at hl 1 rfl) ?_
          refine lv_iload_n hx hb dX12_goWeek_44 rfl (lv_at hl 3 rfl) ?_
          refine lv_iload_n hx hb dX12_goWeek_45 rfl (lv_at hl 0 rfl) ?_
          obtain ⟨r_21, hz, hf⟩ := mb_bd1_s hf
          refine gc_i (r0 := r_21) (ws' := (wC_Ref k b0 P0_12 L0_13)) (wr := ([] : va_W)) (va_runV (As := [.int x2_11, .int x3_20]) (rest := []) ⟨hx, hb, hml, hown, hts⟩ (c_Ref_offAt l D k H.size b0 P0_12 L0_13 x2_11 x3_20 r_21 hz) (cwV 2 hts gX12_goWeek_X12_offAt rfl rfl rfl (by decide +kernel) ⟨Nat.le_of_ble_eq_true rfl, Nat.le_of_ble_eq_true rfl⟩) (gp_V (ci := 12) (q0 := 0) (q := (RX12, TX12, 42)) hP hD hK hN [0, 1, 2, 3, 4, 5, 6, 7, 8, 9, 10, 11, 12, 13, 14, 15, 16, 17, 18, 19, 20, 21, 22, 23, 24, 25] (by decide +kernel) rfl rfl rfl) rfl rfl hl.1 rfl (lv_room (Nat.le_of_ble_eq_true rfl)) dX12_goWeek_46 ⟨Nat.zero_le _, Nat.zero_le _⟩) hP hD hS hA [0, 1, 2, 3, 4, 5, 6, 7, 8, 9, 10, 11, 12, 13, 14, 15, 16, 17, 18, 19, 20, 21, 22, 23, 24, 25] [] rfl rfl (by decide +kernel) (by decide +kernel) [0, 1, 2, 3, 4, 5, 6, 7, 8, 9, 10, 11, 12, 13, 14, 15, 16, 17, 18, 19, 20, 21, 22, 23, 24, 25] (by decide +kernel) rfl (fun H locs hP hD hS => ?_)
          clear hz
          obtain ⟨x4_22, e_, hf⟩ := mb_let_s hf
          refine mb_topi e_ ?_
          clear e_
          refine lv_istore (lv' := [(4, .int x4_22), (3, .int x3_20), (0, .ref (b0 0)), (1, .int x1), (2, .int x2_11)]) hx hb dX12_goWeek_49 hl (by decide) rfl (fun ls hl => ?_)
          refine lv_aload_n hx hb dX12_goWeek_51 rfl (lv_at hl 2 rfl) ?_
          refine va_get (D := D) (ci := 12) (v := .ref (b0 19)) (C := RX12) (T := TX12) (N := 42) hx hb hts iw_Ref hown hK hP 0 rfl rfl 18 (by decide) fl_50 (fun _ h9 => h9) rfl dX12_goWeek_52 ?_
          refine lv_iload_n hx hb dX12_goWeek_55 rfl (lv_at hl 4 rfl) ?_
          refine lv_iconst (v := 4) hx hb dX12_goWeek_56 (by decide) ?_
          refine lv_iadd hx hb dX12_goWeek_57 ?_
          obtain ⟨h_23, hf⟩ := mb_chk_s hf
          refine va_iald hx hb hK hP 14 0 rfl rfl h_23 dX12_goWeek_58 ?_
          refine lv_i2l hx hb dX12_goWeek_59 rfl ?_
          refine lv_aload_n hx hb dX12_goWeek_60 rfl (lv_at hl 2 rfl) ?_
          refine va_get (D := D) (ci := 12) (v := .ref (b0 3)) (C := RX12) (T := TX12) (N := 42) hx hb hts iw_Ref hown hK hP 0 rfl rfl 2 (by decide) fl_13 (fun _ h9 => h9) rfl dX12_goWeek_61 ?_
          refine lv_aload_n hx hb dX12_goWeek_64 rfl (lv_at hl 2 rfl) ?_
          refine va_get (D := D) (ci := 12) (v := .ref (b0 19)) (C := RX12) (T := TX12) (N := 42) hx hb hts iw_Ref hown hK hP 0 rfl rfl 18 (by decide) fl_50 (fun _ h9 => h9) rfl dX12_goWeek_65 ?_
          refine lv_iload_n hx hb dX12_goWeek_68 rfl (lv_at hl 4 rfl) ?_
          obtain ⟨h_24, hf⟩ := mb_chk_s hf
          refine va_iald hx hb hK hP 14 0 rfl rfl h_24 dX12_goWeek_69 ?_
          obtain ⟨h_25, hf⟩ := mb_chk_s hf
          refine va_iald hx hb hK hP 2 0 rfl rfl h_25 dX12_goWeek_70 ?_
          refine lv_i2l hx hb dX12_goWeek_71 rfl ?_
          refine lv_lmul hx hb dX12_goWeek_72 ?_
          refine lv_iload hx hb dX12_goWeek_73 (lv_at hl 0 rfl) ?_
          obtain ⟨r_26, hz, hf⟩ := mb_bd1_s hf
          refine gc_i (r0 := r_26) (ws' := (wC_Ref k b0 P0_12 L0_13)) (wr := (wC_Ref k b0 P0_12 L0_13)) (va_runS (As := [.int x4_22]) (rest := [.long (((P0_12 19 (x2_11 + (4 : Int32)).toNatClampNeg)).toInt64 * ((P0_12 3 (P0_12 19 x2_11.toNatClampNeg).toNatClampNeg)).toInt64)]) ⟨hx, hb, hml, hown, hts⟩ (c_Ref_abs l D k H.size x4_22 r_26 hz) (cwS 1 hts gX12_goWeek_X12_abs rfl rfl rfl (by decide +kernel) ⟨Nat.le_of_ble_eq_true rfl, Nat.le_of_ble_eq_true rfl⟩) (gp_S hP hD hK hN [] (by decide +kernel) rfl) rfl rfl hl.1 rfl (lv_room (Nat.le_of_ble_eq_true rfl)) dX12_goWeek_75 ⟨Nat.zero_le _, Nat.zero_le _⟩) hP hD hS hA [] [0, 1, 2, 3, 4, 5, 6, 7, 8, 9, 10, 11, 12, 13, 14, 15, 16, 17, 18, 19, 20, 21, 22, 23, 24, 25] rfl rfl (by decide +kernel) (by decide +kernel) [0, 1, 2, 3, 4, 5, 6, 7, 8, 9, 10, 11, 12, 13, 14, 15, 16, 17, 18, 19, 20, 21, 22, 23, 24, 25] (by decide +kernel) rfl (fun H locs hP hD hS => ?_)
          clear hz
          refine lv_i2l hx hb dX12_goWeek_78 rfl ?_
          refine lv_lmul hx hb dX12_goWeek_79 ?_
          refine lv_ldc2 (v := (1000)) hx hb hown lc_109 dX12_goWeek_80 ?_
          obtain ⟨h_27, hf⟩ := mb_dvl_s hf
          refine lv_ldiv hx hb dX12_goWeek_83 h_27 ?_
          obtain ⟨x5_28, e_, hf⟩ := mb_let_s hf
          refine mb_topl e_ ?_
          clear e_
          refine lv_lstore (lv' := [(5, .long x5_28), (4, .int x4_22), (3, .int x3_20), (0, .ref (b0 0)), (1, .int x1), (2, .int x2_11)]) hx hb dX12_goWeek_84 hl (by decide) rfl (fun ls hl => ?_)
          refine lv_aload_n hx hb dX12_goWeek_86 rfl (lv_at hl 3 rfl) ?_
          refine va_get (D := D) (ci := 12) (v := .ref (b0 21)) (C := RX12) (T := TX12) (N := 42) hx hb hts iw_Ref hown hK hP 0 rfl rfl 20 (by decide) fl_56 (fun _ h9 => h9) rfl dX12_goWeek_87 ?_
          refine lv_aload_n hx hb dX12_goWeek_90 rfl (lv_at hl 3 rfl) ?_
          refine va_get (D := D) (ci := 12) (v := .ref (b0 19)) (C := RX12) (T := TX12) (N := 42) hx hb hts iw_Ref hown hK hP 0 rfl rfl 18 (by decide) fl_50 (fun _ h9 => h9) rfl dX12_goWeek_91 ?_
          refine lv_iload_n hx hb dX12_goWeek_94 rfl (lv_at hl 5 rfl) ?_
          refine lv_iconst (v := 1) hx hb dX12_goWeek_95 (by decide) ?_
          refine lv_iadd hx hb dX12_goWeek_96 ?_
          obtain ⟨h_29, hf⟩ := mb_chk_s hf
          refine va_iald hx hb hK hP 14 0 rfl rfl h_29 dX12_goWeek_97 ?_
          refine lv_dup2_11 hx hb dX12_goWeek_98 rfl rfl ?_
          obtain ⟨h_30, hf⟩ := mb_chk_s hf
          refine va_lald hx hb hK hP 16 1 rfl rfl h_30 dX12_goWeek_99 ?_
          refine lv_iload hx hb dX12_goWeek_100 (lv_at hl 1 rfl) ?_
          obtain ⟨J111_34, eJ111_34, hf⟩ := mb_jn_s hf
          have j111_35 : ∀ (y_31 : Int64) (y_32 : Int64) (y_33 : Int32) (H : Heap) (locs : List Loc) (ls : Array Slot), J111_34 y_31 y_32 y_33 = some z → va_P D vwCl (wC_Ref k b0 P0_12 L0_13) H → va_D A (wC_Ref k b0 P0_12 L0_13) → va_S A s.heap H locs → lv_has ls 7 [(0, .ref (b0 0)), (1, .int x1), (2, .int x2_11), (3, .int x3_20), (4, .int x4_22), (5, .long x5_28)] → W p l e rm_Ref_goWeek s m args below meth c H locs 0 0 Q (F0 m 111 ls [.long y_31, .long y_32, .int y_33, .ref (b0 21)]) := by
            intro y_31 y_32 y_33 H locs ls hf hP hD hS hl
            have hf := mb_j3 eJ111_34 hf
            refine lv_ladd hx hb dX12_goWeek_111 ?_
            obtain ⟨h_37, hf⟩ := mb_chk_s hf
            obtain ⟨L0_36, e_, hf⟩ := mb_let_s hf
            refine va_last hx hb hK hP hD hS 16 1 rfl rfl h_37 dX12_goWeek_112 (fun H locs hP hD hS => ?_)
            have hP : va_P D vwCl (wC_Ref k b0 P0_12 L0_36) H := by rw [e_]; exact hP
            have hD : va_D A (wC_Ref k b0 P0_12 L0_36) := by rw [e_]; exact hD
            clear e_
            refine lv_aload_n hx hb dX12_goWeek_113 rfl (lv_at hl 0 rfl) ?_
            refine va_get (D := D) (ci := 12) (v := .ref (b0 22)) (C := RX12) (T := TX12) (N := 42) hx hb hts iw_Ref hown hK hP 0 rfl rfl 21 (by decide) fl_59 (fun _ h9 => h9) rfl dX12_goWeek_114 ?_
            refine lv_aload_n hx hb dX12_goWeek_117 rfl (lv_at hl 0 rfl) ?_
            refine va_get (D := D) (ci := 12) (v := .ref (b0 19)) (C := RX12) (T := TX12) (N := 42) hx hb hts iw_Ref hown hK hP 0 rfl rfl 18 (by decide) fl_50 (fun _ h9 => h9) rfl dX12_goWeek_118 ?_
            refine lv_iload_n hx hb dX12_goWeek_121 rfl (lv_at hl 2 rfl) ?_
            refine lv_iconst (v := 1) hx hb dX12_goWeek_122 (by decide) ?_
            refine lv_iadd hx hb dX12_goWeek_123 ?_
            obtain ⟨h_38, hf⟩ := mb_chk_s hf
            refine va_iald hx hb hK hP 14 0 rfl rfl h_38 dX12_goWeek_124 ?_
            refine lv_dup2_11 hx hb dX12_goWeek_125 rfl rfl ?_
            obtain ⟨h_39, hf⟩ := mb_chk_s hf
            refine va_lald hx hb hK hP 17 1 rfl rfl h_39 dX12_goWeek_126 ?_
            refine lv_iload hx hb dX12_goWeek_127 (lv_at hl 4 rfl) ?_
            obtain ⟨J138_43, eJ138_43, hf⟩ := mb_jn_s hf
            have j138_44 : ∀ (y_40 : Int64) (y_41 : Int64) (y_42 : Int32) (H : Heap) (locs : List Loc) (ls : Array Slot), J138_43 y_40 y_41 y_42 = some z → va_P D vwCl (wC_Ref k b0 P0_12 L0_36) H → va_D A (wC_Ref k b0 P0_12 L0_36) → va_S A s.heap H locs → lv_has ls 7 [(0, .ref (b0 0)), (1, .int x1), (2, .int x2_11), (3, .int x3_20)] → W p l e rm_Ref_goWeek s m args below meth c H locs 0 0 Q (F0 m 138 ls [.long y_40, .long y_41, .int y_42, .ref (b0 22)]) := by
              intro y_40 y_41 y_42 H locs ls hf hP hD hS hl
              have hf := mb_j3 eJ138_43 hf
              refine lv_ladd hx hb dX12_goWeek_138 ?_
              obtain ⟨h_46, hf⟩ := mb_chk_s hf
              obtain ⟨L0_45, e_, hf⟩ := mb_let_s hf
              refine va_last hx hb hK hP hD hS 17 1 rfl rfl h_46 dX12_goWeek_139 (fun H locs hP hD hS => ?_)
              have hP : va_P D vwCl (wC_Ref k b0 P0_12 L0_45) H := by rw [e_]; exact hP
              have hD : va_D A (wC_Ref k b0 P0_12 L0_45) := by rw [e_]; exact hD
              clear e_
              refine lv_iload_n hx hb dX12_goWeek_140 rfl (lv_at hl 1 rfl) ?_
              refine lv_aload_n hx hb dX12_goWeek_141 rfl (lv_at hl 0 rfl) ?_
              refine va_get (D := D) (ci := 12) (v := .ref (b0 19)) (C := RX12) (T := TX12) (N := 42) hx hb hts iw_Ref hown hK hP 0 rfl rfl 18 (by decide) fl_50 (fun _ h9 => h9) rfl dX12_goWeek_142 ?_
              refine lv_iload_n hx hb dX12_goWeek_145 rfl (lv_at hl 2 rfl) ?_
              refine lv_iconst (v := 1) hx hb dX12_goWeek_146 (by decide) ?_
              refine lv_iadd hx hb dX12_goWeek_147 ?_
              obtain ⟨h_47, hf⟩ := mb_chk_s hf
              refine va_iald hx hb hK hP 14 0 rfl rfl h_47 dX12_goWeek_148 ?_
              refine lv_ishr hx hb dX12_goWeek_149 ?_
              refine lv_iconst (v := 1) hx hb dX12_goWeek_150 (by decide) ?_
              refine lv_iand hx hb dX12_goWeek_151 ?_
              refine lv_iconst (v := 1) hx hb dX12_goWeek_152 (by decide) ?_
              refine lv_icmp_ne (tgt := 201) hx hb dX12_goWeek_153 (by decide) (fun c_59 => ?_) (fun c_59 => ?_)
              · have hf := mb_if_f c_59 hf
                obtain ⟨x2_48, e_, hf⟩ := mb_let_s hf
                refine lv_iinc (v := x2_48) (lv' := [(2, .int x2_48), (0, .ref (b0 0)), (1, .int x1), (3, .int x3_20)]) hx hb dX12_goWeek_201 hl (k := 2) rfl (by rw [e_]; rfl) (by decide) rfl (fun ls hl => ?_)
                clear e_
                refine lv_goto (tgt := 2) hx hb dX12_goWeek_204 (by decide) ?_
                exact ih_10 x2_48 P0_12 L0_45 _ _ _ hf hP hD hS (lv_sub hl [1, 2, 0] rfl)
              · have hf := mb_if_t c_59 hf
                refine lv_aload_n hx hb dX12_goWeek_156 rfl (lv_at hl 0 rfl) ?_
                refine lv_iload_n hx hb dX12_goWeek_157 rfl (lv_at hl 2 rfl) ?_
                refine lv_iload_n hx hb dX12_goWeek_158 rfl (lv_at hl 3 rfl) ?_
                refine lv_iconst (v := 1) hx hb dX12_goWeek_159 (by decide) ?_
                refine lv_iadd hx hb dX12_goWeek_160 ?_
                refine lv_aload_n hx hb dX12_goWeek_161 rfl (lv_at hl 0 rfl) ?_
                refine va_get (D := D) (ci := 12) (v := .ref (b0 20)) (C := RX12) (T := TX12) (N := 42) hx hb hts iw_Ref hown hK hP 0 rfl rfl 19 (by decide) fl_53 (fun _ h9 => h9) rfl dX12_goWeek_162 ?_
                refine lv_iconst (v := 0) hx hb dX12_goWeek_165 (by decide) ?_
                obtain ⟨h_49, hf⟩ := mb_chk_s hf
                refine va_iald hx hb hK hP 15 0 rfl rfl h_49 dX12_goWeek_166 ?_
                obtain ⟨r_50, hz, hf⟩ := mb_bd1_s hf
                refine gc_i (r0 := r_50) (ws' := (wC_Ref k b0 P0_12 L0_45)) (wr := ([] : va_W)) (va_runV (As := [.int x2_11, .int (x3_20 + (1 : Int32)), .int (P0_12 20 (0 : Int32).toNatClampNeg)]) (rest := []) ⟨hx, hb, hml, hown, hts⟩ (c_Ref_isFalse l D k H.size b0 P0_12 L0_45 x2_11 (x3_20 + (1 : Int32)) (P0_12 20 (0 : Int32).toNatClampNeg) r_50 hz) (cwV 3 hts gX12_goWeek_X12_isFalse rfl rfl rfl (by decide +kernel) ⟨Nat.le_of_ble_eq_true rfl, Nat.le_of_ble_eq_true rfl⟩) (gp_V (ci := 12) (q0 := 0) (q := (RX12, TX12, 42)) hP hD hK hN [0, 1, 2, 3, 4, 5, 6, 7, 8, 9, 10, 11, 12, 13, 14, 15, 16, 17, 18, 19, 20, 21, 22, 23, 24, 25] (by decide +kernel) rfl rfl rfl) rfl rfl hl.1 rfl (lv_room (Nat.le_of_ble_eq_true rfl)) dX12_goWeek_167 ⟨Nat.zero_le _, Nat.zero_le _⟩) hP hD hS hA [0, 1, 2, 3, 4, 5, 6, 7, 8, 9, 10, 11, 12, 13, 14, 15, 16, 17, 18, 19, 20, 21, 22, 23, 24, 25] [] rfl rfl (by decide +kernel) (by decide +kernel) [0, 1, 2, 3, 4, 5, 6, 7, 8, 9, 10, 11, 12, 13, 14, 15, 16, 17, 18, 19, 20, 21, 22, 23, 24, 25] (by decide +kernel) rfl (fun H locs hP hD hS => ?_)
                clear hz
                refine lv_if_eq (tgt := 191) hx hb dX12_goWeek_170 (by decide) (fun c_58 => ?_) (fun c_58 => ?_)
                · have hf := mb_if_t c_58 hf
                  refine lv_aload_n hx hb dX12_goWeek_191 rfl (lv_at hl 0 rfl) ?_
                  refine va_get (D := D) (ci := 12) (v := .ref (b0 19)) (C := RX12) (T := TX12) (N := 42) hx hb hts iw_Ref hown hK hP 0 rfl rfl 18 (by decide) fl_50 (fun _ h9 => h9) rfl dX12_goWeek_192 ?_
                  refine lv_iload_n hx hb dX12_goWeek_195 rfl (lv_at hl 2 rfl) ?_
                  refine lv_bipush (v := 6) hx hb dX12_goWeek_196 (by decide) ?_
                  refine lv_iadd hx hb dX12_goWeek_198 ?_
                  refine lv_iconst (v := 1) hx hb dX12_goWeek_199 (by decide) ?_
                  obtain ⟨h_52, hf⟩ := mb_chk_s hf
                  obtain ⟨P0_51, e_, hf⟩ := mb_let_s hf
                  refine va_iast hx hb hK hP hD hS 14 0 rfl rfl h_52 dX12_goWeek_200 (fun H locs hP hD hS => ?_)
                  have hP : va_P D vwCl (wC_Ref k b0 P0_51 L0_45) H := by rw [e_]; exact hP
                  have hD : va_D A (wC_Ref k b0 P0_51 L0_45) := by rw [e_]; exact hD
                  clear e_
                  obtain ⟨x2_53, e_, hf⟩ := mb_let_s hf
                  refine lv_iinc (v := x2_53) (lv' := [(2, .int x2_53), (0, .ref (b0 0)), (1, .int x1), (3, .int x3_20)]) hx hb dX12_goWeek_201 hl (k := 2) rfl (by rw [e_]; rfl) (by decide) rfl (fun ls hl => ?_)
                  clear e_
                  refine lv_goto (tgt := 2) hx hb dX12_goWeek_204 (by decide) ?_
                  exact ih_10 x2_53 P0_51 L0_45 _ _ _ hf hP hD hS (lv_sub hl [1, 2, 0] rfl)
                · have hf := mb_if_f c_58 hf
                  refine lv_aload_n hx hb dX12_goWeek_173 rfl (lv_at hl 0 rfl) ?_
                  refine va_get (D := D) (ci := 12) (v := .ref (b0 19)) (C := RX12) (T := TX12) (N := 42) hx hb hts iw_Ref hown hK hP 0 rfl rfl 18 (by decide) fl_50 (fun _ h9 => h9) rfl dX12_goWeek_174 ?_
                  refine lv_iload_n hx hb dX12_goWeek_177 rfl (lv_at hl 2 rfl) ?_
                  refine lv_bipush (v := 7) hx hb dX12_goWeek_178 (by decide) ?_
                  refine lv_iadd hx hb dX12_goWeek_180 ?_
                  refine lv_aload_n hx hb dX12_goWeek_181 rfl (lv_at hl 0 rfl) ?_
                  refine va_get (D := D) (ci := 12) (v := .ref (b0 20)) (C := RX12) (T := TX12) (N := 42) hx hb hts iw_Ref hown hK hP 0 rfl rfl 19 (by decide) fl_53 (fun _ h9 => h9) rfl dX12_goWeek_182 ?_
                  refine lv_iconst (v := 0) hx hb dX12_goWeek_185 (by decide) ?_
                  obtain ⟨h_54, hf⟩ := mb_chk_s hf
                  refine va_iald hx hb hK hP 15 0 rfl rfl h_54 dX12_goWeek_186 ?_
                  obtain ⟨h_56, hf⟩ := mb_chk_s hf
                  obtain ⟨P0_55, e_, hf⟩ := mb_let_s hf
                  refine va_iast hx hb hK hP hD hS 14 0 rfl rfl h_56 dX12_goWeek_187 (fun H locs hP hD hS => ?_)
                  have hP : va_P D vwCl (wC_Ref k b0 P0_55 L0_45) H := by rw [e_]; exact hP
                  have hD : va_D A (wC_Ref k b0 P0_55 L0_45) := by rw [e_]; exact hD
                  clear e_
                  refine lv_goto (tgt := 201) hx hb dX12_goWeek_188 (by decide) ?_
                  obtain ⟨x2_57, e_, hf⟩ := mb_let_s hf
                  refine lv_iinc (v := x2_57) (lv' := [(2, .int x2_57), (0, .ref (b0 0)), (1, .int x1), (3, .int x3_20)]) hx hb dX12_goWeek_201 hl (k := 2) rfl (by rw [e_]; rfl) (by decide) rfl (fun ls hl => ?_)
                  clear e_
                  refine lv_goto (tgt := 2) hx hb dX12_goWeek_204 (by decide) ?_
                  exact ih_10 x2_57 P0_55 L0_45 _ _ _ hf hP hD hS (lv_sub hl [1, 2, 0] rfl)
            refine lv_if_le (tgt := 137) hx hb dX12_goWeek_129 (by decide) (fun c_60 => ?_) (fun c_60 => ?_)
            · have hf := mb_if_t c_60 hf
              refine lv_lconst (v := 0) hx hb dX12_goWeek_137 (by decide) ?_
              exact j138_44 (0 : Int64) (L0_36 22 (P0_12 19 (x2_11 + (1 : Int32)).toNatClampNeg).toNatClampNeg) (P0_12 19 (x2_11 + (1 : Int32)).toNatClampNeg) _ _ _ hf hP hD hS (lv_sub hl [0, 1, 2, 3] rfl)
            · have hf := mb_if_f c_60 hf
              refine lv_lload hx hb dX12_goWeek_132 (lv_at hl 5 rfl) ?_
              refine lv_goto (tgt := 138) hx hb dX12_goWeek_134 (by decide) ?_
              exact j138_44 x5_28 (L0_36 22 (P0_12 19 (x2_11 + (1 : Int32)).toNatClampNeg).toNatClampNeg) (P0_12 19 (x2_11 + (1 : Int32)).toNatClampNeg) _ _ _ hf hP hD hS (lv_sub hl [0, 1, 2, 3] rfl)
          refine lv_if_ge (tgt := 110) hx hb dX12_goWeek_102 (by decide) (fun c_61 => ?_) (fun c_61 => ?_)
          · have hf := mb_if_t c_61 hf
            refine lv_lconst (v := 0) hx hb dX12_goWeek_110 (by decide) ?_
            exact j111_35 (0 : Int64) (L0_13 21 (P0_12 19 (x2_11 + (1 : Int32)).toNatClampNeg).toNatClampNeg) (P0_12 19 (x2_11 + (1 : Int32)).toNatClampNeg) _ _ _ hf hP hD hS (lv_sub hl [3, 4, 5, 2, 1, 0] rfl)
          · have hf := mb_if_f c_61 hf
            refine lv_lload hx hb dX12_goWeek_105 (lv_at hl 0 rfl) ?_
            refine lv_goto (tgt := 111) hx hb dX12_goWeek_107 (by decide) ?_
            exact j111_35 x5_28 (L0_13 21 (P0_12 19 (x2_11 + (1 : Int32)).toNatClampNeg).toNatClampNeg) (P0_12 19 (x2_11 + (1 : Int32)).toNatClampNeg) _ _ _ hf hP hD hS (lv_sub hl [3, 4, 5, 2, 1, 0] rfl)
  exact lp2_9 mb_fu x2_1 P0 L0 _ _ _ hf hP hD hS (lv_sub hl [1, 2, 0] rfl)
def f_Ref_weeks_49_b (K75_20 : PI → Option (Int32 × PI × PL)) (self_29 : Int32 → PI → Option (Int32 × PI × PL)) (x3_27 : Int32) (P0_28 : PI) : Option (Int32 × PI × PL) := (if (10 : Int32) ≤ x3_27 then K75_20 P0_28 else mb_chk x3_27 10 (mb_chk (x3_27 - (1 : Int32)) 10 (mb_let (mb_u2 P0_28 26 (x3_27 - (1 : Int32)).toNatClampNeg (P0_28 26 x3_27.toNatClampNeg)) (fun (P0_31 : PI) => mb_let (x3_27 + (1 : Int32)) (fun (x3_33 : Int32) => self_29 x3_33 P0_31)))))
def f_Ref_weeks_49 (K75_20 : PI → Option (Int32 × PI × PL)) : Nat → Int32 → PI → Option (Int32 × PI × PL)
  | 0, _, _ => none
  | n + 1, x3_27, P0_28 => f_Ref_weeks_49_b K75_20 (f_Ref_weeks_49 K75_20 n) x3_27 P0_28
def f_Ref_weeks_32_b (x1 : Int32) (K89_6 : PI → PL → Option (Int32 × PI × PL)) (self_14 : Int32 → PI → PL → Option (Int32 × PI × PL)) (x2_11 : Int32) (P0_12 : PI) (L0_13 : PL) : Option (Int32 × PI × PL) := (if x1 ≤ x2_11 then K89_6 P0_12 L0_13 else mb_chk (0 : Int32) 10 (mb_bd2 (f_Ref_goWeek P0_12 L0_13 (P0_12 26 (0 : Int32).toNatClampNeg)) (fun (P0_16 : PI) (L0_17 : PL) => mb_let (1 : Int32) (fun (x3_18 : Int32) => mb_jn (fun (P0_19 : PI) => mb_chk (9 : Int32) 10 (mb_let (mb_u2 P0_19 26 (9 : Int32).toNatClampNeg (0 : Int32)) (fun (P0_22 : PI) => mb_let (x2_11 + (1 : Int32)) (fun (x2_24 : Int32) => self_14 x2_24 P0_22 L0_17)))) (fun K75_20 => f_Ref_weeks_49 K75_20 mb_fu x3_18 P0_16)))))
def f_Ref_weeks_32 (x1 : Int32) (K89_6 : PI → PL → Option (Int32 × PI × PL)) : Nat → Int32 → PI → PL → Option (Int32 × PI × PL)
  | 0, _, _, _ => none
  | n + 1, x2_11, P0_12, L0_13 => f_Ref_weeks_32_b x1 K89_6 (f_Ref_weeks_32 x1 K89_6 n) x2_11 P0_12 L0_13
def f_Ref_weeks (P0 : PI) (L0 : PL) (x1 : Int32) : Option (Int32 × PI × PL) := mb_bd1 (f_Ref_in ((x1).toInt64) (1 : Int64) (20 : Int64)) (fun (r_1 : Int32) => (if r_1 = 0 then some ((-1 : Int32), P0, L0) else mb_chk (0 : Int32) 3 ((if ((P0 20 (0 : Int32).toNatClampNeg) + x1) ≤ (100 : Int32) then mb_let (0 : Int32) (fun (x2_3 : Int32) => mb_jn (fun (P0_4 : PI) (L0_5 : PL) => mb_chk (0 : Int32) 3 (some ((P0_4 20 (0 : Int32).toNatClampNeg), P0_4, L0_5))) (fun K89_6 => f_Ref_weeks_32 x1 K89_6 mb_fu x2_3 P0 L0)) else some ((-3 : Int32), P0, L0)))))
def rm_Ref_weeks : Room := { frames := 5, cells := 0, slots := 0, locals := 125 }
set_option maxHeartbeats 4000000 in
set_option maxRecDepth 100000 in
theorem c_Ref_weeks (l : Launch) (D : va_G) (k : Nat → ClassId) (sz : Nat) (b0 : Nat → Nat) (P0 : PI) (L0 : PL) (x1 : Int32) (z : Int32 × PI × PL) (hf : f_Ref_weeks P0 L0 x1 = some z) : Met l yX12_weeks wsX12_weeks rm_Ref_weeks (va_Pc [.ref (b0 0), .int x1] (gw_pre D vwCl (tyL k) (wC_Ref k b0 P0 L0) sz)) (va_Qi (fun (r : Int32) (_ : Unit) => r = z.1) (gw_b D vwCl (tyL k) (va_A (wC_Ref k b0 P0 L0) sz) (wC_Ref k b0 z.2.1 z.2.2)) (va_A (wC_Ref k b0 P0 L0) sz)) 0 0 (va_A (wC_Ref k b0 P0 L0) sz) := by
  refine gm_i (cc := cX12_weeks) (maxL := 4) (by decide) rfl (Nat.le_of_ble_eq_true rfl) ?_
  intro p e s m args below meth c A Q ls H locs hx hb hml hown hts hK hN hA hP hD hS hl hret
  have hown : s.vm.findClass RX12 = some m.cls := hown
  have hl : lv_has ls 4 [(0, .ref (b0 0)), (1, .int x1)] := hl
  have iw_Ref : ∀ w ∈ u_ws RX12 TX12 42, w ∈ wsX12_weeks := by decide +kernel
  have fl_53 := hts (.fieldLink RX12 53 "OneMeasureModel" "week" "[I") (by decide +kernel)
  have fl_69 := hts (.fieldLink RX12 69 "OneMeasureModel" "plans" "[I") (by decide +kernel)
  have lc_256 := hts (.constantLong RX12 256 (20)) (by decide +kernel)
  unfold f_Ref_weeks at hf
  refine lv_iload_n hx hb dX12_weeks_0 rfl (lv_at hl 1 rfl) ?_
  refine lv_i2l hx hb dX12_weeks_1 rfl ?_
  refine lv_lconst (v := 1) hx hb dX12_weeks_2 (by decide) ?_
  refine lv_ldc2 (v := (20)) hx hb hown lc_256 dX12_weeks_3 ?_
  obtain ⟨r_1, hz, hf⟩ := mb_bd1_s hf
  refine gc_i (r0 := r_1) (ws' := (wC_Ref k b0 P0 L0)) (wr := (wC_Ref k b0 P0 L0)) (va_runS (As := [.long (x1).toInt64, .long (1 : Int64), .long (20 : Int64)]) (rest := []) ⟨hx, hb, hml, hown, hts⟩ (c_Ref_in l D k H.size ((x1).toInt64) (1 : Int64) (20 : Int64) r_1 hz) (cwS 3 hts gX12_weeks_X12_in rfl rfl rfl (by decide +kernel) ⟨Nat.le_of_ble_eq_true rfl, Nat.le_of_ble_eq_true rfl⟩) (gp_S hP hD hK hN [] (by decide +kernel) rfl) rfl rfl hl.1 rfl (lv_room (Nat.le_of_ble_eq_true rfl)) dX12_weeks_6 ⟨Nat.zero_le _, Nat.zero_le _⟩) hP hD hS hA [] [0, 1, 2, 3, 4, 5, 6, 7, 8, 9, 10, 11, 12, 13, 14, 15, 16, 17, 18, 19, 20, 21, 22, 23, 24, 25] rfl rfl (by decide +kernel) (by decide +kernel) [0, 1, 2, 3, 4, 5, 6, 7, 8, 9, 10, 11, 12, 13, 14, 15, 16, 17, 18, 19, 20, 21, 22, 23, 24, 25] (by decide +kernel) rfl (fun H locs hP hD hS => ?_)
  clear hz
  refine lv_if_ne (tgt := 14) hx hb dX12_weeks_9 (by decide) (fun c_37 => ?_) (fun c_37 => ?_)
  · have hf := mb_if_f c_37 hf
    refine lv_aload_n hx hb dX12_weeks_14 rfl (lv_at hl 0 rfl) ?_
    refine va_get (D := D) (ci := 12) (v := .ref (b0 20)) (C := RX12) (T := TX12) (N := 42) hx hb hts iw_Ref hown hK hP 0 rfl rfl 19 (by decide) fl_53 (fun _ h9 => h9) rfl dX12_weeks_15 ?_
    refine lv_iconst (v := 0) hx hb dX12_weeks_18 (by decide) ?_
    obtain ⟨h_2, hf⟩ := mb_chk_s hf
    refine va_iald hx hb hK hP 15 0 rfl rfl h_2 dX12_weeks_19 ?_
    refine lv_iload_n hx hb dX12_weeks_20 rfl (lv_at hl 1 rfl) ?_
    refine lv_iadd hx hb dX12_weeks_21 ?_
    refine lv_bipush (v := 100) hx hb dX12_weeks_22 (by decide) ?_
    refine lv_icmp_le (tgt := 30) hx hb dX12_weeks_24 (by decide) (fun c_36 => ?_) (fun c_36 => ?_)
    · have hf := mb_if_t c_36 hf
      refine lv_iconst (v := 0) hx hb dX12_weeks_30 (by decide) ?_
      obtain ⟨x2_3, e_, hf⟩ := mb_let_s hf
      refine mb_topi e_ ?_
      clear e_
      refine lv_istore_n (lv' := [(2, .int x2_3), (0, .ref (b0 0)), (1, .int x1)]) hx hb dX12_weeks_31 rfl hl (by decide) rfl (fun ls hl => ?_)
      obtain ⟨K89_6, eK89_6, hf⟩ := mb_jn_s hf
      have k89_7 : ∀ (P0_4 : PI) (L0_5 : PL) (H : Heap) (locs : List Loc) (ls : Array Slot), K89_6 P0_4 L0_5 = some z → va_P D vwCl (wC_Ref k b0 P0_4 L0_5) H → va_D A (wC_Ref k b0 P0_4 L0_5) → va_S A s.heap H locs → lv_has ls 4 [(0, .ref (b0 0))] → W p l e rm_Ref_weeks s m args below meth c H locs 0 0 Q (F0 m 89 ls []) := by
        intro P0_4 L0_5 H locs ls hf hP hD hS hl
        have hf := mb_j2 eK89_6 hf
        refine lv_aload_n hx hb dX12_weeks_89 rfl (lv_at hl 0 rfl) ?_
        refine va_get (D := D) (ci := 12) (v := .ref (b0 20)) (C := RX12) (T := TX12) (N := 42) hx hb hts iw_Ref hown hK hP 0 rfl rfl 19 (by decide) fl_53 (fun _ h9 => h9) rfl dX12_weeks_90 ?_
        refine lv_iconst (v := 0) hx hb dX12_weeks_93 (by decide) ?_
        obtain ⟨h_8, hf⟩ := mb_chk_s hf
        refine va_iald hx hb hK hP 15 0 rfl rfl h_8 dX12_weeks_94 ?_
        have hz := Option.some.inj hf
        subst hz
        exact hret _ _ _ _ dX12_weeks_95 hP hD hS
      have lp32_9 : ∀ (n : Nat) (x2_11 : Int32) (P0_12 : PI) (L0_13 : PL) (H : Heap) (locs : List Loc) (ls : Array Slot), f_Ref_weeks_32 x1 K89_6 n x2_11 P0_12 L0_13 = some z → va_P D vwCl (wC_Ref k b0 P0_12 L0_13) H → va_D A (wC_Ref k b0 P0_12 L0_13) → va_S A s.heap H locs → lv_has ls 4 [(0, .ref (b0 0)), (1, .int x1), (2, .int x2_11)] → W p l e rm_Ref_weeks s m args below meth c H locs 0 0 Q (F0 m 32 ls []) := by
        intro n
        induction n with
        | zero =>
          intro x2_11 P0_12 L0_13 H locs ls hf
          exact nomatch (show (none : Option (Int32 × PI × PL)) = some z from hf)
        | succ n ih_10 =>
          intro x2_11 P0_12 L0_13 H locs ls hf hP hD hS hl
          have hf : f_Ref_weeks_32_b x1 K89_6 (f_Ref_weeks_32 x1 K89_6 n) x2_11 P0_12 L0_13 = some z := hf
          unfold f_Ref_weeks_32_b at hf
          refine lv_iload_n hx hb dX12_weeks_32 rfl (lv_at hl 2 rfl) ?_
          refine lv_iload_n hx hb dX12_weeks_33 rfl (lv_at hl 1 rfl) ?_
          refine lv_icmp_ge (tgt := 89) hx hb dX12_weeks_34 (by decide) (fun c_35 => ?_) (fun c_35 => ?_)
          · have hf := mb_if_t c_35 hf
            exact k89_7 P0_12 L0_13 _ _ _ hf hP hD hS (lv_sub hl [0] rfl)
          · have hf := mb_if_f c_35 hf
            refine lv_aload_n hx hb dX12_weeks_37 rfl (lv_at hl 0 rfl) ?_
            refine lv_aload_n hx hb dX12_weeks_38 rfl (lv_at hl 0 rfl) ?_
            refine va_get (D := D) (ci := 12) (v := .ref (b0 26)) (C := RX12) (T := TX12) (N := 42) hx hb hts iw_Ref hown hK hP 0 rfl rfl 25 (by decide) fl_69 (fun _ h9 => h9) rfl dX12_weeks_39 ?_
            refine lv_iconst (v := 0) hx hb dX12_weeks_42 (by decide) ?_
            obtain ⟨h_15, hf⟩ := mb_chk_s hf
            refine va_iald hx hb hK hP 19 0 rfl rfl h_15 dX12_weeks_43 ?_
            obtain ⟨P0_16, L0_17, hz, hf⟩ := mb_bd2_s hf
            refine gc_v (ws' := (wC_Ref k b0 P0_16 L0_17)) (wr := ([] : va_W)) (va_runV (As := [.int (P0_12 26 (0 : Int32).toNatClampNeg)]) (rest := []) ⟨hx, hb, hml, hown, hts⟩ (c_Ref_goWeek l D k H.size b0 P0_12 L0_13 (P0_12 26 (0 : Int32).toNatClampNeg) (P0_16, L0_17) hz) (cwV 1 hts gX12_weeks_X12_goWeek rfl rfl rfl (by decide +kernel) ⟨Nat.le_of_ble_eq_true rfl, Nat.le_of_ble_eq_true rfl⟩) (gp_V (ci := 12) (q0 := 0) (q := (RX12, TX12, 42)) hP hD hK hN [0, 1, 2, 3, 4, 5, 6, 7, 8, 9, 10, 11, 12, 13, 14, 15, 16, 17, 18, 19, 20, 21, 22, 23, 24, 25] (by decide +kernel) rfl rfl rfl) rfl rfl hl.1 rfl (lv_room (Nat.le_of_ble_eq_true rfl)) dX12_weeks_44 ⟨Nat.zero_le _, Nat.zero_le _⟩) hP hD hS hA [0, 1, 2, 3, 4, 5, 6, 7, 8, 9, 10, 11, 12, 13, 14, 15, 16, 17, 18, 19, 20, 21, 22, 23, 24, 25] [] rfl rfl (by decide +kernel) (by decide +kernel) [0, 1, 2, 3, 4, 5, 6, 7, 8, 9, 10, 11, 12, 13, 14, 15, 16, 17, 18, 19, 20, 21, 22, 23, 24, 25] (by decide +kernel) rfl (fun H locs hP hD hS => ?_)
            clear hz
            refine lv_iconst (v := 1) hx hb dX12_weeks_47 (by decide) ?_
            obtain ⟨x3_18, e_, hf⟩ := mb_let_s hf
            refine mb_topi e_ ?_
            clear e_
            refine lv_istore_n (lv' := [(3, .int x3_18), (0, .ref (b0 0)), (1, .int x1), (2, .int x2_11)]) hx hb dX12_weeks_48 rfl hl (by decide) rfl (fun ls hl => ?_)
            obtain ⟨K75_20, eK75_20, hf⟩ := mb_jn_s hf
            have k75_21 : ∀ (P0_19 : PI) (H : Heap) (locs : List Loc) (ls : Array Slot), K75_20 P0_19 = some z → va_P D vwCl (wC_Ref k b0 P0_19 L0_17) H → va_D A (wC_Ref k b0 P0_19 L0_17) → va_S A s.heap H locs → lv_has ls 4 [(0, .ref (b0 0)), (1, .int x1), (2, .int x2_11)] → W p l e rm_Ref_weeks s m args below meth c H locs 0 0 Q (F0 m 75 ls []) := by
              intro P0_19 H locs ls hf hP hD hS hl
              have hf := mb_j1 eK75_20 hf
              refine lv_aload_n hx hb dX12_weeks_75 rfl (lv_at hl 0 rfl) ?_
              refine va_get (D := D) (ci := 12) (v := .ref (b0 26)) (C := RX12) (T := TX12) (N := 42) hx hb hts iw_Ref hown hK hP 0 rfl rfl 25 (by decide) fl_69 (fun _ h9 => h9) rfl dX12_weeks_76 ?_
              refine lv_bipush (v := 9) hx hb dX12_weeks_79 (by decide) ?_
              refine lv_iconst (v := 0) hx hb dX12_weeks_81 (by decide) ?_
              obtain ⟨h_23, hf⟩ := mb_chk_s hf
              obtain ⟨P0_22, e_, hf⟩ := mb_let_s hf
              refine va_iast hx hb hK hP hD hS 19 0 rfl rfl h_23 dX12_weeks_82 (fun H locs hP hD hS => ?_)
              have hP : va_P D vwCl (wC_Ref k b0 P0_22 L0_17) H := by rw [e_]; exact hP
              have hD : va_D A (wC_Ref k b0 P0_22 L0_17) := by rw [e_]; exact hD
              clear e_
              obtain ⟨x2_24, e_, hf⟩ := mb_let_s hf
              refine lv_iinc (v := x2_24) (lv' := [(2, .int x2_24), (0, .ref (b0 0)), (1, .int x1)]) hx hb dX12_weeks_83 hl (k := 2) rfl (by rw [e_]; rfl) (by decide) rfl (fun ls hl => ?_)
              clear e_
              refine lv_goto (tgt := 32) hx hb dX12_weeks_86 (by decide) ?_
              exact ih_10 x2_24 P0_22 L0_17 _ _ _ hf hP hD hS (lv_sub hl [1, 2, 0] rfl)
            have lp49_25 : ∀ (n : Nat) (x3_27 : Int32) (P0_28 : PI) (H : Heap) (locs : List Loc) (ls : Array Slot), f_Ref_weeks_49 K75_20 n x3_27 P0_28 = some z → va_P D vwCl (wC_Ref k b0 P0_28 L0_17) H → va_D A (wC_Ref k b0 P0_28 L0_17) → va_S A s.heap H locs → lv_has ls 4 [(0, .ref (b0 0)), (1, .int x1), (2, .int x2_11), (3, .int x3_27)] → W p l e rm_Ref_weeks s m args below meth c H locs 0 0 Q (F0 m 49 ls []) := by
              intro n
              induction n with
              | zero =>
                intro x3_27 P0_28 H locs ls hf
                exact nomatch (show (none : Option (Int32 × PI × PL)) = some z from hf)
              | succ n ih_26 =>
                intro x3_27 P0_28 H locs ls hf hP hD hS hl
                have hf : f_Ref_weeks_49_b K75_20 (f_Ref_weeks_49 K75_20 n) x3_27 P0_28 = some z := hf
                unfold f_Ref_weeks_49_b at hf
                refine lv_iload_n hx hb dX12_weeks_49 rfl (lv_at hl 3 rfl) ?_
                refine lv_bipush (v := 10) hx hb dX12_weeks_50 (by decide) ?_
                refine lv_icmp_ge (tgt := 75) hx hb dX12_weeks_52 (by decide) (fun c_34 => ?_) (fun c_34 => ?_)
                · have hf := mb_if_t c_34 hf
                  exact k75_21 P0_28 _ _ _ hf hP hD hS (lv_sub hl [0, 1, 2] rfl)
                · have hf := mb_if_f c_34 hf
                  refine lv_aload_n hx hb dX12_weeks_55 rfl (lv_at hl 0 rfl) ?_
                  refine va_get (D := D) (ci := 12) (v := .ref (b0 26)) (C := RX12) (T := TX12) (N := 42) hx hb hts iw_Ref hown hK hP 0 rfl rfl 25 (by decide) fl_69 (fun _ h9 => h9) rfl dX12_weeks_56 ?_
                  refine lv_iload_n hx hb dX12_weeks_59 rfl (lv_at hl 3 rfl) ?_
                  refine lv_iconst (v := 1) hx hb dX12_weeks_60 (by decide) ?_
                  refine lv_isub hx hb dX12_weeks_61 ?_
                  refine lv_aload_n hx hb dX12_weeks_62 rfl (lv_at hl 0 rfl) ?_
                  refine va_get (D := D) (ci := 12) (v := .ref (b0 26)) (C := RX12) (T := TX12) (N := 42) hx hb hts iw_Ref hown hK hP 0 rfl rfl 25 (by decide) fl_69 (fun _ h9 => h9) rfl dX12_weeks_63 ?_
                  refine lv_iload_n hx hb dX12_weeks_66 rfl (lv_at hl 3 rfl) ?_
                  obtain ⟨h_30, hf⟩ := mb_chk_s hf
                  refine va_iald hx hb hK hP 19 0 rfl rfl h_30 dX12_weeks_67 ?_
                  obtain ⟨h_32, hf⟩ := mb_chk_s hf
                  obtain ⟨P0_31, e_, hf⟩ := mb_let_s hf
                  refine va_iast hx hb hK hP hD hS 19 0 rfl rfl h_32 dX12_weeks_68 (fun H locs hP hD hS => ?_)
                  have hP : va_P D vwCl (wC_Ref k b0 P0_31 L0_17) H := by rw [e_]; exact hP
                  have hD : va_D A (wC_Ref k b0 P0_31 L0_17) := by rw [e_]; exact hD
                  clear e_
                  obtain ⟨x3_33, e_, hf⟩ := mb_let_s hf
                  refine lv_iinc (v := x3_33) (lv' := [(3, .int x3_33), (0, .ref (b0 0)), (1, .int x1), (2, .int x2_11)]) hx hb dX12_weeks_69 hl (k := 3) rfl (by rw [e_]; rfl) (by decide) rfl (fun ls hl => ?_)
                  clear e_
                  refine lv_goto (tgt := 49) hx hb dX12_weeks_72 (by decide) ?_
                  exact ih_26 x3_33 P0_31 _ _ _ hf hP hD hS (lv_sub hl [1, 2, 3, 0] rfl)
            exact lp49_25 mb_fu x3_18 P0_16 _ _ _ hf hP hD hS (lv_sub hl [1, 2, 3, 0] rfl)
      exact lp32_9 mb_fu x2_3 P0 L0 _ _ _ hf hP hD hS (lv_sub hl [1, 2, 0] rfl)
    · have hf := mb_if_f c_36 hf
      refine lv_bipush (v := (-3)) hx hb dX12_weeks_27 (by decide) ?_
      have hz := Option.some.inj hf
      subst hz
      exact hret _ _ _ _ dX12_weeks_29 hP hD hS
  · have hf := mb_if_t c_37 hf
    refine lv_iconst (v := (-1)) hx hb dX12_weeks_12 (by decide) ?_
    have hz := Option.some.inj hf
    subst hz
    exact hret _ _ _ _ dX12_weeks_13 hP hD hS
def f_Ref_worn (P0 : PI) (x1 : Int32) : Option (Int32) := mb_chk (x1 + (7 : Int32)) 288 (mb_jn (fun (y_2 : Int32) => mb_chk (x1 + (5 : Int32)) 288 (some (y_2 - (P0 19 (x1 + (5 : Int32)).toNatClampNeg)))) (fun J32_3 => (if 0 ≤ (P0 19 (x1 + (7 : Int32)).toNatClampNeg) then mb_chk (x1 + (7 : Int32)) 288 (J32_3 ((P0 19 (x1 + (7 : Int32)).toNatClampNeg) + (1 : Int32))) else mb_chk (0 : Int32) 3 (J32_3 (P0 20 (0 : Int32).toNatClampNeg)))))
def rm_Ref_worn : Room := { frames := 0, cells := 0, slots := 0, locals := 0 }
set_option maxHeartbeats 4000000 in
set_option maxRecDepth 100000 in
theorem c_Ref_worn (l : Launch) (D : va_G) (k : Nat → ClassId) (sz : Nat) (b0 : Nat → Nat) (P0 : PI) (L0 : PL) (x1 : Int32) (z : Int32) (hf : f_Ref_worn P0 x1 = some z) : Met l yX12_worn wsX12_worn rm_Ref_worn (va_Pc [.ref (b0 0), .int x1] (gw_pre D vwCl (tyL k) (wC_Ref k b0 P0 L0) sz)) (va_Qi (fun (r : Int32) (_ : Unit) => r = z) (gw_b D vwCl (tyL k) (va_A (wC_Ref k b0 P0 L0) sz) (wC_Ref k b0 P0 L0)) (va_A (wC_Ref k b0 P0 L0) sz)) 0 0 (va_A (wC_Ref k b0 P0 L0) sz) := by
  refine gm_i (cc := cX12_worn) (maxL := 2) (by decide) rfl (Nat.le_of_ble_eq_true rfl) ?_
  intro p e s m args below meth c A Q ls H locs hx hb hml hown hts hK hN hA hP hD hS hl hret
  have hown : s.vm.findClass RX12 = some m.cls := hown
  have hl : lv_has ls 2 [(0, .ref (b0 0)), (1, .int x1)] := hl
  have iw_Ref : ∀ w ∈ u_ws RX12 TX12 42, w ∈ wsX12_worn := by decide +kernel
  have fl_50 := hts (.fieldLink RX12 50 "OneMeasureModel" "rods" "[I") (by decide +kernel)
  have fl_53 := hts (.fieldLink RX12 53 "OneMeasureModel" "week" "[I") (by decide +kernel)
  unfold f_Ref_worn at hf
  refine lv_aload_n hx hb dX12_worn_0 rfl (lv_at hl 0 rfl) ?_
  refine va_get (D := D) (ci := 12) (v := .ref (b0 19)) (C := RX12) (T := TX12) (N := 42) hx hb hts iw_Ref hown hK hP 0 rfl rfl 18 (by decide) fl_50 (fun _ h9 => h9) rfl dX12_worn_1 ?_
  refine lv_iload_n hx hb dX12_worn_4 rfl (lv_at hl 1 rfl) ?_
  refine lv_bipush (v := 7) hx hb dX12_worn_5 (by decide) ?_
  refine lv_iadd hx hb dX12_worn_7 ?_
  obtain ⟨h_1, hf⟩ := mb_chk_s hf
  refine va_iald hx hb hK hP 14 0 rfl rfl h_1 dX12_worn_8 ?_
  obtain ⟨J32_3, eJ32_3, hf⟩ := mb_jn_s hf
  have j32_4 : ∀ (y_2 : Int32) (H : Heap) (locs : List Loc) (ls : Array Slot), J32_3 y_2 = some z → va_P D vwCl (wC_Ref k b0 P0 L0) H → va_D A (wC_Ref k b0 P0 L0) → va_S A s.heap H locs → lv_has ls 2 [(0, .ref (b0 0)), (1, .int x1)] → W p l e rm_Ref_worn s m args below meth c H locs 0 0 Q (F0 m 32 ls [.int y_2]) := by
    intro y_2 H locs ls hf hP hD hS hl
    have hf := mb_j1 eJ32_3 hf
    refine lv_aload_n hx hb dX12_worn_32 rfl (lv_at hl 0 rfl) ?_
    refine va_get (D := D) (ci := 12) (v := .ref (b0 19)) (C := RX12) (T := TX12) (N := 42) hx hb hts iw_Ref hown hK hP 0 rfl rfl 18 (by decide) fl_50 (fun _ h9 => h9) rfl dX12_worn_33 ?_
    refine lv_iload_n hx hb dX12_worn_36 rfl (lv_at hl 1 rfl) ?_
    refine lv_iconst (v := 5) hx hb dX12_worn_37 (by decide) ?_
    refine lv_iadd hx hb dX12_worn_38 ?_
    obtain ⟨h_5, hf⟩ := mb_chk_s hf
    refine va_iald hx hb hK hP 14 0 rfl rfl h_5 dX12_worn_39 ?_
    refine lv_isub hx hb dX12_worn_40 ?_
    have hz := Option.some.inj hf
    subst hz
    exact hret _ _ _ _ dX12_worn_41 hP hD hS
  refine lv_if_ge (tgt := 21) hx hb dX12_worn_9 (by decide) (fun c_8 => ?_) (fun c_8 => ?_)
  · have hf := mb_if_t c_8 hf
    refine lv_aload_n hx hb dX12_worn_21 rfl (lv_at hl 0 rfl) ?_
    refine va_get (D := D) (ci := 12) (v := .ref (b0 19)) (C := RX12) (T := TX12) (N := 42) hx hb hts iw_Ref hown hK hP 0 rfl rfl 18 (by decide) fl_50 (fun _ h9 => h9) rfl dX12_worn_22 ?_
    refine lv_iload_n hx hb dX12_worn_25 rfl (lv_at hl 1 rfl) ?_
    refine lv_bipush (v := 7) hx hb dX12_worn_26 (by decide) ?_
    refine lv_iadd hx hb dX12_worn_28 ?_
    obtain ⟨h_6, hf⟩ := mb_chk_s hf
    refine va_iald hx hb hK hP 14 0 rfl rfl h_6 dX12_worn_29 ?_
    refine lv_iconst (v := 1) hx hb dX12_worn_30 (by decide) ?_
    refine lv_iadd hx hb dX12_worn_31 ?_
    exact j32_4 ((P0 19 (x1 + (7 : Int32)).toNatClampNeg) + (1 : Int32)) _ _ _ hf hP hD hS (lv_sub hl [0, 1] rfl)
  · have hf := mb_if_f c_8 hf
    refine lv_aload_n hx hb dX12_worn_12 rfl (lv_at hl 0 rfl) ?_
    refine va_get (D := D) (ci := 12) (v := .ref (b0 20)) (C := RX12) (T := TX12) (N := 42) hx hb hts iw_Ref hown hK hP 0 rfl rfl 19 (by decide) fl_53 (fun _ h9 => h9) rfl dX12_worn_13 ?_
    refine lv_iconst (v := 0) hx hb dX12_worn_16 (by decide) ?_
    obtain ⟨h_7, hf⟩ := mb_chk_s hf
    refine va_iald hx hb hK hP 15 0 rfl rfl h_7 dX12_worn_17 ?_
    refine lv_goto (tgt := 32) hx hb dX12_worn_18 (by decide) ?_
    exact j32_4 (P0 20 (0 : Int32).toNatClampNeg) _ _ _ hf hP hD hS (lv_sub hl [0, 1] rfl)
def f_Ref_rodTold_110_b (P0 : PI) (x3_4 : Int32) (K148_12 : Int32 → Option (Int32)) (self_18 : Int32 → Option (Int32)) (x4_17 : Int32) : Option (Int32) := mb_bd1 (f_Ref_worn P0 x3_4) (fun (r_19 : Int32) => (if r_19 ≤ x4_17 then some (-1000 : Int32) else mb_chk (x3_4 + (4 : Int32)) 288 ((if (P0 19 (x3_4 + (4 : Int32)).toNatClampNeg) ≤ 0 then some (-1000 : Int32) else mb_bd1 (f_Ref_offAt P0 x3_4 x4_17) (fun (r_21 : Int32) => mb_bd1 (f_Ref_abs r_21) (fun (r_22 : Int32) => (if r_22 ≤ (P0 0 24) then mb_let (x4_17 + (1 : Int32)) (fun (x4_23 : Int32) => self_18 x4_23) else K148_12 x4_17)))))))
def f_Ref_rodTold_110 (P0 : PI) (x3_4 : Int32) (K148_12 : Int32 → Option (Int32)) : Nat → Int32 → Option (Int32)
  | 0, _ => none
  | n + 1, x4_17 => f_Ref_rodTold_110_b P0 x3_4 K148_12 (f_Ref_rodTold_110 P0 x3_4 K148_12 n) x4_17
def f_Ref_rodTold (P0 : PI) (x1 : Int32) (x2 : Int32) : Option (Int32) := mb_chk (0 : Int32) 3 (mb_bd1 (f_Ref_in ((x1).toInt64) (0 : Int64) ((((P0 18 (0 : Int32).toNatClampNeg) - (1 : Int32))).toInt64)) (fun (r_2 : Int32) => (if r_2 = 0 then some (-10000 : Int32) else mb_bd1 (f_Ref_in ((x2).toInt64) (0 : Int64) (3 : Int64)) (fun (r_3 : Int32) => (if r_3 = 0 then some (-10000 : Int32) else mb_let ((8 : Int32) * x1) (fun (x3_4 : Int32) => (if x2 = (0 : Int32) then mb_bd1 (f_Ref_worn P0 x3_4) (fun (r_5 : Int32) => mb_bd1 (f_Ref_offAt P0 x3_4 r_5) (fun (r_6 : Int32) => some r_6)) else (if x2 = (1 : Int32) then mb_chk (x3_4 + (6 : Int32)) 288 (some (P0 19 (x3_4 + (6 : Int32)).toNatClampNeg)) else (if x2 = (2 : Int32) then mb_chk (x3_4 + (7 : Int32)) 288 ((if 0 ≤ (P0 19 (x3_4 + (7 : Int32)).toNatClampNeg) then some (1 : Int32) else some (0 : Int32))) else mb_let (0 : Int32) (fun (x4_10 : Int32) => mb_jn (fun (x4_11 : Int32) => mb_chk (x3_4 + (5 : Int32)) 288 (some ((P0 19 (x3_4 + (5 : Int32)).toNatClampNeg) + x4_11))) (fun K148_12 => f_Ref_rodTold_110 P0 x3_4 K148_12 mb_fu x4_10)))))))))))
def rm_Ref_rodTold : Room := { frames := 1, cells := 0, slots := 0, locals := 25 }
set_option maxHeartbeats 4000000 in
set_option maxRecDepth 100000 in
theorem c_Ref_rodTold (l : Launch) (D : va_G) (k : Nat → ClassId) (sz : Nat) (b0 : Nat → Nat) (P0 : PI) (L0 : PL) (x1 : Int32) (x2 : Int32) (z : Int32) (hf : f_Ref_rodTold P0 x1 x2 = some z) : Met l yX12_rodTold wsX12_rodTold rm_Ref_rodTold (va_Pc [.ref (b0 0), .int x1, .int x2] (gw_pre D vwCl (tyL k) (wC_Ref k b0 P0 L0) sz)) (va_Qi (fun (r : Int32) (_ : Unit) => r = z) (gw_b D vwCl (tyL k) (va_A (wC_Ref k b0 P0 L0) sz) (wC_Ref k b0 P0 L0)) (va_A (wC_Ref k b0 P0 L0) sz)) 0 0 (va_A (wC_Ref k b0 P0 L0) sz) := by
  refine gm_i (cc := cX12_rodTold) (maxL := 5) (by decide) rfl (Nat.le_of_ble_eq_true rfl) ?_
  intro p e s m args below meth c A Q ls H locs hx hb hml hown hts hK hN hA hP hD hS hl hret
  have hown : s.vm.findClass RX12 = some m.cls := hown
  have hl : lv_has ls 5 [(0, .ref (b0 0)), (1, .int x1), (2, .int x2)] := hl
  have iw_Ref : ∀ w ∈ u_ws RX12 TX12 42, w ∈ wsX12_rodTold := by decide +kernel
  have fl_47 := hts (.fieldLink RX12 47 "OneMeasureModel" "rodMany" "[I") (by decide +kernel)
  have fl_50 := hts (.fieldLink RX12 50 "OneMeasureModel" "rods" "[I") (by decide +kernel)
  have fl_65 := hts (.fieldLink RX12 65 "OneMeasureModel" "allow" "I") (by decide +kernel)
  have lc_107 := hts (.constantLong RX12 107 (3)) (by decide +kernel)
  unfold f_Ref_rodTold at hf
  refine lv_iload_n hx hb dX12_rodTold_0 rfl (lv_at hl 1 rfl) ?_
  refine lv_i2l hx hb dX12_rodTold_1 rfl ?_
  refine lv_lconst (v := 0) hx hb dX12_rodTold_2 (by decide) ?_
  refine lv_aload_n hx hb dX12_rodTold_3 rfl (lv_at hl 0 rfl) ?_
  refine va_get (D := D) (ci := 12) (v := .ref (b0 18)) (C := RX12) (T := TX12) (N := 42) hx hb hts iw_Ref hown hK hP 0 rfl rfl 17 (by decide) fl_47 (fun _ h9 => h9) rfl dX12_rodTold_4 ?_
  refine lv_iconst (v := 0) hx hb dX12_rodTold_7 (by decide) ?_
  obtain ⟨h_1, hf⟩ := mb_chk_s hf
  refine va_iald hx hb hK hP 13 0 rfl rfl h_1 dX12_rodTold_8 ?_
  refine lv_iconst (v := 1) hx hb dX12_rodTold_9 (by decide) ?_
  refine lv_isub hx hb dX12_rodTold_10 ?_
  refine lv_i2l hx hb dX12_rodTold_11 rfl ?_
  obtain ⟨r_2, hz, hf⟩ := mb_bd1_s hf
  refine gc_i (r0 := r_2) (ws' := (wC_Ref k b0 P0 L0)) (wr := (wC_Ref k b0 P0 L0)) (va_runS (As := [.long (x1).toInt64, .long (0 : Int64), .long (((P0 18 (0 : Int32).toNatClampNeg) - (1 : Int32))).toInt64]) (rest := []) ⟨hx, hb, hml, hown, hts⟩ (c_Ref_in l D k H.size ((x1).toInt64) (0 : Int64) ((((P0 18 (0 : Int32).toNatClampNeg) - (1 : Int32))).toInt64) r_2 hz) (cwS 3 hts gX12_rodTold_X12_in rfl rfl rfl (by decide +kernel) ⟨Nat.le_of_ble_eq_true rfl, Nat.le_of_ble_eq_true rfl⟩) (gp_S hP hD hK hN [] (by decide +kernel) rfl) rfl rfl hl.1 rfl (lv_room (Nat.le_of_ble_eq_true rfl)) dX12_rodTold_12 ⟨Nat.zero_le _, Nat.zero_le _⟩) hP hD hS hA [] [0, 1, 2, 3, 4, 5, 6, 7, 8, 9, 10, 11, 12, 13, 14, 15, 16, 17, 18, 19, 20, 21, 22, 23, 24, 25] rfl rfl (by decide +kernel) (by decide +kernel) [0, 1, 2, 3, 4, 5, 6, 7, 8, 9, 10, 11, 12, 13, 14, 15, 16, 17, 18, 19, 20, 21, 22, 23, 24, 25] (by decide +kernel) rfl (fun H locs hP hD hS => ?_)
  clear hz
  refine lv_if_eq (tgt := 30) hx hb dX12_rodTold_15 (by decide) (fun c_31 => ?_) (fun c_31 => ?_)
  · have hf := mb_if_t c_31 hf
    refine lv_sipush (v := (-10000)) hx hb dX12_rodTold_30 (by decide) ?_
    have hz := Option.some.inj hf
    subst hz
    exact hret _ _ _ _ dX12_rodTold_33 hP hD hS
  · have hf := mb_if_f c_31 hf
    refine lv_iload_n hx hb dX12_rodTold_18 rfl (lv_at hl 2 rfl) ?_
    refine lv_i2l hx hb dX12_rodTold_19 rfl ?_
    refine lv_lconst (v := 0) hx hb dX12_rodTold_20 (by decide) ?_
    refine lv_ldc2 (v := (3)) hx hb hown lc_107 dX12_rodTold_21 ?_
    obtain ⟨r_3, hz, hf⟩ := mb_bd1_s hf
    refine gc_i (r0 := r_3) (ws' := (wC_Ref k b0 P0 L0)) (wr := (wC_Ref k b0 P0 L0)) (va_runS (As := [.long (x2).toInt64, .long (0 : Int64), .long (3 : Int64)]) (rest := []) ⟨hx, hb, hml, hown, hts⟩ (c_Ref_in l D k H.size ((x2).toInt64) (0 : Int64) (3 : Int64) r_3 hz) (cwS 3 hts gX12_rodTold_X12_in rfl rfl rfl (by decide +kernel) ⟨Nat.le_of_ble_eq_true rfl, Nat.le_of_ble_eq_true rfl⟩) (gp_S hP hD hK hN [] (by decide +kernel) rfl) rfl rfl hl.1 rfl (lv_room (Nat.le_of_ble_eq_true rfl)) dX12_rodTold_24 ⟨Nat.zero_le _, Nat.zero_le _⟩) hP hD hS hA [] [0, 1, 2, 3, 4, 5, 6, 7, 8, 9, 10, 11, 12, 13, 14, 15, 16, 17, 18, 19, 20, 21, 22, 23, 24, 25] rfl rfl (by decide +kernel) (by decide +kernel) [0, 1, 2, 3, 4, 5, 6, 7, 8, 9, 10, 11, 12, 13, 14, 15, 16, 17, 18, 19, 20, 21, 22, 23, 24, 25] (by decide +kernel) rfl (fun H locs hP hD hS => ?_)
    clear hz
    refine lv_if_ne (tgt := 34) hx hb dX12_rodTold_27 (by decide) (fun c_30 => ?_) (fun c_30 => ?_)
    · have hf := mb_if_f c_30 hf
      refine lv_bipush (v := 8) hx hb dX12_rodTold_34 (by decide) ?_
      refine lv_iload_n hx hb dX12_rodTold_36 rfl (lv_at hl 1 rfl) ?_
      refine lv_imul hx hb dX12_rodTold_37 ?_
      obtain ⟨x3_4, e_, hf⟩ := mb_let_s hf
      refine mb_topi e_ ?_
      clear e_
      refine lv_istore_n (lv' := [(3, .int x3_4), (0, .ref (b0 0)), (1, .int x1), (2, .int x2)]) hx hb dX12_rodTold_38 rfl hl (by decide) rfl (fun ls hl => ?_)
      refine lv_iload_n hx hb dX12_rodTold_39 rfl (lv_at hl 3 rfl) ?_
      by_cases c_27 : x2 = (0 : Int32)
      · have hf := mb_if_t c_27 hf
        refine lv_tableIn (tgt := 68) hx hb dX12_rodTold_40 (by rw [c_27]; decide) (by rw [c_27]; decide) (by rw [c_27]; rfl) (by decide) ?_
        refine lv_aload_n hx hb dX12_rodTold_68 rfl (lv_at hl 1 rfl) ?_
        refine lv_iload_n hx hb dX12_rodTold_69 rfl (lv_at hl 0 rfl) ?_
        refine lv_aload_n hx hb dX12_rodTold_70 rfl (lv_at hl 1 rfl) ?_
        refine lv_iload_n hx hb dX12_rodTold_71 rfl (lv_at hl 0 rfl) ?_
        obtain ⟨r_5, hz, hf⟩ := mb_bd1_s hf
        refine gc_i (r0 := r_5) (ws' := (wC_Ref k b0 P0 L0)) (wr := ([] : va_W)) (va_runV (As := [.int x3_4]) (rest := [.int x3_4, .ref (b0 0)]) ⟨hx, hb, hml, hown, hts⟩ (c_Ref_worn l D k H.size b0 P0 L0 x3_4 r_5 hz) (cwV 1 hts gX12_rodTold_X12_worn rfl rfl rfl (by decide +kernel) ⟨Nat.le_of_ble_eq_true rfl, Nat.le_of_ble_eq_true rfl⟩) (gp_V (ci := 12) (q0 := 0) (q := (RX12, TX12, 42)) hP hD hK hN [0, 1, 2, 3, 4, 5, 6, 7, 8, 9, 10, 11, 12, 13, 14, 15, 16, 17, 18, 19, 20, 21, 22, 23, 24, 25] (by decide +kernel) rfl rfl rfl) rfl rfl hl.1 rfl (lv_room (Nat.le_of_ble_eq_true rfl)) dX12_rodTold_72 ⟨Nat.zero_le _, Nat.zero_le _⟩) hP hD hS hA [0, 1, 2, 3, 4, 5, 6, 7, 8, 9, 10, 11, 12, 13, 14, 15, 16, 17, 18, 19, 20, 21, 22, 23, 24, 25] [] rfl rfl (by decide +kernel) (by decide +kernel) [0, 1, 2, 3, 4, 5, 6, 7, 8, 9, 10, 11, 12, 13, 14, 15, 16, 17, 18, 19, 20, 21, 22, 23, 24, 25] (by decide +kernel) rfl (fun H locs hP hD hS => ?_)
        clear hz
        obtain ⟨r_6, hz, hf⟩ := mb_bd1_s hf
        refine gc_i (r0 := r_6) (ws' := (wC_Ref k b0 P0 L0)) (wr := ([] : va_W)) (va_runV (As := [.int x3_4, .int r_5]) (rest := []) ⟨hx, hb, hml, hown, hts⟩ (c_Ref_offAt l D k H.size b0 P0 L0 x3_4 r_5 r_6 hz) (cwV 2 hts gX12_rodTold_X12_offAt rfl rfl rfl (by decide +kernel) ⟨Nat.le_of_ble_eq_true rfl, Nat.le_of_ble_eq_true rfl⟩) (gp_V (ci := 12) (q0 := 0) (q := (RX12, TX12, 42)) hP hD hK hN [0, 1, 2, 3, 4, 5, 6, 7, 8, 9, 10, 11, 12, 13, 14, 15, 16, 17, 18, 19, 20, 21, 22, 23, 24, 25] (by decide +kernel) rfl rfl rfl) rfl rfl hl.1 rfl (lv_room (Nat.le_of_ble_eq_true rfl)) dX12_rodTold_75 ⟨Nat.zero_le _, Nat.zero_le _⟩) hP hD hS hA [0, 1, 2, 3, 4, 5, 6, 7, 8, 9, 10, 11, 12, 13, 14, 15, 16, 17, 18, 19, 20, 21, 22, 23, 24, 25] [] rfl rfl (by decide +kernel) (by decide +kernel) [0, 1, 2, 3, 4, 5, 6, 7, 8, 9, 10, 11, 12, 13, 14, 15, 16, 17, 18, 19, 20, 21, 22, 23, 24, 25] (by decide +kernel) rfl (fun H locs hP hD hS => ?_)
        clear hz
        have hz := Option.some.inj hf
        subst hz
        exact hret _ _ _ _ dX12_rodTold_78 hP hD hS
      · have hf := mb_if_f c_27 hf
        by_cases c_28 : x2 = (1 : Int32)
        · have hf := mb_if_t c_28 hf
          refine lv_tableIn (tgt := 79) hx hb dX12_rodTold_40 (by rw [c_28]; decide) (by rw [c_28]; decide) (by rw [c_28]; rfl) (by decide) ?_
          refine lv_aload_n hx hb dX12_rodTold_79 rfl (lv_at hl 1 rfl) ?_
          refine va_get (D := D) (ci := 12) (v := .ref (b0 19)) (C := RX12) (T := TX12) (N := 42) hx hb hts iw_Ref hown hK hP 0 rfl rfl 18 (by decide) fl_50 (fun _ h9 => h9) rfl dX12_rodTold_80 ?_
          refine lv_iload_n hx hb dX12_rodTold_83 rfl (lv_at hl 0 rfl) ?_
          refine lv_bipush (v := 6) hx hb dX12_rodTold_84 (by decide) ?_
          refine lv_iadd hx hb dX12_rodTold_86 ?_
          obtain ⟨h_7, hf⟩ := mb_chk_s hf
          refine va_iald hx hb hK hP 14 0 rfl rfl h_7 dX12_rodTold_87 ?_
          have hz := Option.some.inj hf
          subst hz
          exact hret _ _ _ _ dX12_rodTold_88 hP hD hS
        · have hf := mb_if_f c_28 hf
          by_cases c_29 : x2 = (2 : Int32)
          · have hf := mb_if_t c_29 hf
            refine lv_tableIn (tgt := 89) hx hb dX12_rodTold_40 (by rw [c_29]; decide) (by rw [c_29]; decide) (by rw [c_29]; rfl) (by decide) ?_
            refine lv_aload_n hx hb dX12_rodTold_89 rfl (lv_at hl 1 rfl) ?_
            refine va_get (D := D) (ci := 12) (v := .ref (b0 19)) (C := RX12) (T := TX12) (N := 42) hx hb hts iw_Ref hown hK hP 0 rfl rfl 18 (by decide) fl_50 (fun _ h9 => h9) rfl dX12_rodTold_90 ?_
            refine lv_iload_n hx hb dX12_rodTold_93 rfl (lv_at hl 0 rfl) ?_
            refine lv_bipush (v := 7) hx hb dX12_rodTold_94 (by decide) ?_
            refine lv_iadd hx hb dX12_rodTold_96 ?_
            obtain ⟨h_8, hf⟩ := mb_chk_s hf
            refine va_iald hx hb hK hP 14 0 rfl rfl h_8 dX12_rodTold_97 ?_
            refine lv_if_ge (tgt := 105) hx hb dX12_rodTold_98 (by decide) (fun c_9 => ?_) (fun c_9 => ?_)
            · have hf := mb_if_t c_9 hf
              refine lv_iconst (v := 1) hx hb dX12_rodTold_105 (by decide) ?_
              have hz := Option.some.inj hf
              subst hz
              exact hret _ _ _ _ dX12_rodTold_106 hP hD hS
            · have hf := mb_if_f c_9 hf
              refine lv_iconst (v := 0) hx hb dX12_rodTold_101 (by decide) ?_
              refine lv_goto (tgt := 106) hx hb dX12_rodTold_102 (by decide) ?_
              have hz := Option.some.inj hf
              subst hz
              exact hret _ _ _ _ dX12_rodTold_106 hP hD hS
          · have hf := mb_if_f c_29 hf
            refine lv_tableOut (tgt := 107) hx hb dX12_rodTold_40 (by have q0 : ¬ (x2 : Int32).toInt = 0 := mb_ni c_27 (by decide); have q1 : ¬ (x2 : Int32).toInt = 1 := mb_ni c_28 (by decide); have q2 : ¬ (x2 : Int32).toInt = 2 := mb_ni c_29 (by decide); omega) (by decide) ?_
            refine lv_iconst (v := 0) hx hb dX12_rodTold_107 (by decide) ?_
            obtain ⟨x4_10, e_, hf⟩ := mb_let_s hf
            refine mb_topi e_ ?_
            clear e_
            refine lv_istore (lv' := [(4, .int x4_10), (3, .int x3_4), (0, .ref (b0 0)), (1, .int x1), (2, .int x2)]) hx hb dX12_rodTold_108 hl (by decide) rfl (fun ls hl => ?_)
            obtain ⟨K148_12, eK148_12, hf⟩ := mb_jn_s hf
            have k148_13 : ∀ (x4_11 : Int32) (H : Heap) (locs : List Loc) (ls : Array Slot), K148_12 x4_11 = some z → va_P D vwCl (wC_Ref k b0 P0 L0) H → va_D A (wC_Ref k b0 P0 L0) → va_S A s.heap H locs → lv_has ls 5 [(0, .ref (b0 0)), (3, .int x3_4), (4, .int x4_11)] → W p l e rm_Ref_rodTold s m args below meth c H locs 0 0 Q (F0 m 148 ls []) := by
              intro x4_11 H locs ls hf hP hD hS hl
              have hf := mb_j1 eK148_12 hf
              refine lv_aload_n hx hb dX12_rodTold_148 rfl (lv_at hl 0 rfl) ?_
              refine va_get (D := D) (ci := 12) (v := .ref (b0 19)) (C := RX12) (T := TX12) (N := 42) hx hb hts iw_Ref hown hK hP 0 rfl rfl 18 (by decide) fl_50 (fun _ h9 => h9) rfl dX12_rodTold_149 ?_
              refine lv_iload_n hx hb dX12_rodTold_152 rfl (lv_at hl 1 rfl) ?_
              refine lv_iconst (v := 5) hx hb dX12_rodTold_153 (by decide) ?_
              refine lv_iadd hx hb dX12_rodTold_154 ?_
              obtain ⟨h_14, hf⟩ := mb_chk_s hf
              refine va_iald hx hb hK hP 14 0 rfl rfl h_14 dX12_rodTold_155 ?_
              refine lv_iload hx hb dX12_rodTold_156 (lv_at hl 2 rfl) ?_
              refine lv_iadd hx hb dX12_rodTold_158 ?_
              have hz := Option.some.inj hf
              subst hz
              exact hret _ _ _ _ dX12_rodTold_159 hP hD hS
            have lp110_15 : ∀ (n : Nat) (x4_17 : Int32) (H : Heap) (locs : List Loc) (ls : Array Slot), f_Ref_rodTold_110 P0 x3_4 K148_12 n x4_17 = some z → va_P D vwCl (wC_Ref k b0 P0 L0) H → va_D A (wC_Ref k b0 P0 L0) → va_S A s.heap H locs → lv_has ls 5 [(0, .ref (b0 0)), (3, .int x3_4), (4, .int x4_17)] → W p l e rm_Ref_rodTold s m args below meth c H locs 0 0 Q (F0 m 110 ls []) := by
              intro n
              induction n with
              | zero =>
                intro x4_17 H locs ls hf
                exact nomatch (show (none : Option (Int32)) = some z from hf)
              | succ n ih_16 =>
                intro x4_17 H locs ls hf hP hD hS hl
                have hf : f_Ref_rodTold_110_b P0 x3_4 K148_12 (f_Ref_rodTold_110 P0 x3_4 K148_12 n) x4_17 = some z := hf
                unfold f_Ref_rodTold_110_b at hf
                refine lv_iload hx hb dX12_rodTold_110 (lv_at hl 2 rfl) ?_
                refine lv_aload_n hx hb dX12_rodTold_112 rfl (lv_at hl 0 rfl) ?_
                refine lv_iload_n hx hb dX12_rodTold_113 rfl (lv_at hl 1 rfl) ?_
                obtain ⟨r_19, hz, hf⟩ := mb_bd1_s hf
                refine gc_i (r0 := r_19) (ws' := (wC_Ref k b0 P0 L0)) (wr := ([] : va_W)) (va_runV (As := [.int x3_4]) (rest := [.int x4_17]) ⟨hx, hb, hml, hown, hts⟩ (c_Ref_worn l D k H.size b0 P0 L0 x3_4 r_19 hz) (cwV 1 hts gX12_rodTold_X12_worn rfl rfl rfl (by decide +kernel) ⟨Nat.le_of_ble_eq_true rfl, Nat.le_of_ble_eq_true rfl⟩) (gp_V (ci := 12) (q0 := 0) (q := (RX12, TX12, 42)) hP hD hK hN [0, 1, 2, 3, 4, 5, 6, 7, 8, 9, 10, 11, 12, 13, 14, 15, 16, 17, 18, 19, 20, 21, 22, 23, 24, 25] (by decide +kernel) rfl rfl rfl) rfl rfl hl.1 rfl (lv_room (Nat.le_of_ble_eq_true rfl)) dX12_rodTold_114 ⟨Nat.zero_le _, Nat.zero_le _⟩) hP hD hS hA [0, 1, 2, 3, 4, 5, 6, 7, 8, 9, 10, 11, 12, 13, 14, 15, 16, 17, 18, 19, 20, 21, 22, 23, 24, 25] [] rfl rfl (by decide +kernel) (by decide +kernel) [0, 1, 2, 3, 4, 5, 6, 7, 8, 9, 10, 11, 12, 13, 14, 15, 16, 17, 18, 19, 20, 21, 22, 23, 24, 25] (by decide +kernel) rfl (fun H locs hP hD hS => ?_)
                clear hz
                refine lv_icmp_ge (tgt := 166) hx hb dX12_rodTold_117 (by decide) (fun c_26 => ?_) (fun c_26 => ?_)
                · have hf := mb_if_t c_26 hf
                  refine lv_sipush (v := (-1000)) hx hb dX12_rodTold_166 (by decide) ?_
                  have hz := Option.some.inj hf
                  subst hz
                  exact hret _ _ _ _ dX12_rodTold_169 hP hD hS
                · have hf := mb_if_f c_26 hf
                  refine lv_aload_n hx hb dX12_rodTold_120 rfl (lv_at hl 0 rfl) ?_
                  refine va_get (D := D) (ci := 12) (v := .ref (b0 19)) (C := RX12) (T := TX12) (N := 42) hx hb hts iw_Ref hown hK hP 0 rfl rfl 18 (by decide) fl_50 (fun _ h9 => h9) rfl dX12_rodTold_121 ?_
                  refine lv_iload_n hx hb dX12_rodTold_124 rfl (lv_at hl 1 rfl) ?_
                  refine lv_iconst (v := 4) hx hb dX12_rodTold_125 (by decide) ?_
                  refine lv_iadd hx hb dX12_rodTold_126 ?_
                  obtain ⟨h_20, hf⟩ := mb_chk_s hf
                  refine va_iald hx hb hK hP 14 0 rfl rfl h_20 dX12_rodTold_127 ?_
                  refine lv_if_le (tgt := 166) hx hb dX12_rodTold_128 (by decide) (fun c_25 => ?_) (fun c_25 => ?_)
                  · have hf := mb_if_t c_25 hf
                    refine lv_sipush (v := (-1000)) hx hb dX12_rodTold_166 (by decide) ?_
                    have hz := Option.some.inj hf
                    subst hz
                    exact hret _ _ _ _ dX12_rodTold_169 hP hD hS
                  · have hf := mb_if_f c_25 hf
                    refine lv_aload_n hx hb dX12_rodTold_131 rfl (lv_at hl 0 rfl) ?_
                    refine lv_iload_n hx hb dX12_rodTold_132 rfl (lv_at hl 1 rfl) ?_
                    refine lv_iload hx hb dX12_rodTold_133 (lv_at hl 2 rfl) ?_
                    obtain ⟨r_21, hz, hf⟩ := mb_bd1_s hf
                    refine gc_i (r0 := r_21) (ws' := (wC_Ref k b0 P0 L0)) (wr := ([] : va_W)) (va_runV (As := [.int x3_4, .int x4_17]) (rest := []) ⟨hx, hb, hml, hown, hts⟩ (c_Ref_offAt l D k H.size b0 P0 L0 x3_4 x4_17 r_21 hz) (cwV 2 hts gX12_rodTold_X12_offAt rfl rfl rfl (by decide +kernel) ⟨Nat.le_of_ble_eq_true rfl, Nat.le_of_ble_eq_true rfl⟩) (gp_V (ci := 12) (q0 := 0) (q := (RX12, TX12, 42)) hP hD hK hN [0, 1, 2, 3, 4, 5, 6, 7, 8, 9, 10, 11, 12, 13, 14, 15, 16, 17, 18, 19, 20, 21, 22, 23, 24, 25] (by decide +kernel) rfl rfl rfl) rfl rfl hl.1 rfl (lv_room (Nat.le_of_ble_eq_true rfl)) dX12_rodTold_135 ⟨Nat.zero_le _, Nat.zero_le _⟩) hP hD hS hA [0, 1, 2, 3, 4, 5, 6, 7, 8, 9, 10, 11, 12, 13, 14, 15, 16, 17, 18, 19, 20, 21, 22, 23, 24, 25] [] rfl rfl (by decide +kernel) (by decide +kernel) [0, 1, 2, 3, 4, 5, 6, 7, 8, 9, 10, 11, 12, 13, 14, 15, 16, 17, 18, 19, 20, 21, 22, 23, 24, 25] (by decide +kernel) rfl (fun H locs hP hD hS => ?_)
                    clear hz
                    obtain ⟨r_22, hz, hf⟩ := mb_bd1_s hf
                    refine gc_i (r0 := r_22) (ws' := (wC_Ref k b0 P0 L0)) (wr := (wC_Ref k b0 P0 L0)) (va_runS (As := [.int r_21]) (rest := []) ⟨hx, hb, hml, hown, hts⟩ (c_Ref_abs l D k H.size r_21 r_22 hz) (cwS 1 hts gX12_rodTold_X12_abs rfl rfl rfl (by decide +kernel) ⟨Nat.le_of_ble_eq_true rfl, Nat.le_of_ble_eq_true rfl⟩) (gp_S hP hD hK hN [] (by decide +kernel) rfl) rfl rfl hl.1 rfl (lv_room (Nat.le_of_ble_eq_true rfl)) dX12_rodTold_138 ⟨Nat.zero_le _, Nat.zero_le _⟩) hP hD hS hA [] [0, 1, 2, 3, 4, 5, 6, 7, 8, 9, 10, 11, 12, 13, 14, 15, 16, 17, 18, 19, 20, 21, 22, 23, 24, 25] rfl rfl (by decide +kernel) (by decide +kernel) [0, 1, 2, 3, 4, 5, 6, 7, 8, 9, 10, 11, 12, 13, 14, 15, 16, 17, 18, 19, 20, 21, 22, 23, 24, 25] (by decide +kernel) rfl (fun H locs hP hD hS => ?_)
                    clear hz
                    refine lv_aload_n hx hb dX12_rodTold_141 rfl (lv_at hl 0 rfl) ?_
                    refine va_get (D := D) (ci := 12) (v := .int (P0 0 24)) (C := RX12) (T := TX12) (N := 42) hx hb hts iw_Ref hown hK hP 0 rfl rfl 24 (by decide) fl_65 (fun _ h9 => h9) rfl dX12_rodTold_142 ?_
                    refine lv_icmp_le (tgt := 160) hx hb dX12_rodTold_145 (by decide) (fun c_24 => ?_) (fun c_24 => ?_)
                    · have hf := mb_if_t c_24 hf
                      obtain ⟨x4_23, e_, hf⟩ := mb_let_s hf
                      refine lv_iinc (v := x4_23) (lv' := [(4, .int x4_23), (0, .ref (b0 0)), (3, .int x3_4)]) hx hb dX12_rodTold_160 hl (k := 2) rfl (by rw [e_]; rfl) (by decide) rfl (fun ls hl => ?_)
                      clear e_
                      refine lv_goto (tgt := 110) hx hb dX12_rodTold_163 (by decide) ?_
                      exact ih_16 x4_23 _ _ _ hf hP hD hS (lv_sub hl [1, 2, 0] rfl)
                    · have hf := mb_if_f c_24 hf
                      exact k148_13 x4_17 _ _ _ hf hP hD hS (lv_sub hl [0, 1, 2] rfl)
            exact lp110_15 mb_fu x4_10 _ _ _ hf hP hD hS (lv_sub hl [2, 1, 0] rfl)
    · have hf := mb_if_t c_30 hf
      refine lv_sipush (v := (-10000)) hx hb dX12_rodTold_30 (by decide) ?_
      have hz := Option.some.inj hf
      subst hz
      exact hret _ _ _ _ dX12_rodTold_33 hP hD hS
