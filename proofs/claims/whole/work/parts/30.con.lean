def f_One_within (x0 : Int32) (x1 : Int32) (x2 : Int32) : Option (Int32) := (if x0 < x1 then some (0 : Int32) else (if x2 < x0 then some (0 : Int32) else some (1 : Int32)))
def rm_One_within : Room := { frames := 0, cells := 0, slots := 0, locals := 0 }
set_option maxHeartbeats 4000000 in
set_option maxRecDepth 100000 in
theorem c_One_within (l : Launch) (D : va_G) (k : Nat → ClassId) (sz : Nat) (x0 : Int32) (x1 : Int32) (x2 : Int32) (z : Int32) (hf : f_One_within x0 x1 x2 = some z) : Met l yX11_within wsX11_within rm_One_within (va_Pc [.int x0, .int x1, .int x2] (gw_pre D vwCl (tyL k) ([] : va_W) sz)) (va_Qi (fun (r : Int32) (_ : Unit) => r = z) (gw_b D vwCl (tyL k) (va_A ([] : va_W) sz) ([] : va_W)) (va_A ([] : va_W) sz)) 0 0 (va_A ([] : va_W) sz) := by
  refine gm_z (cc := cX11_within) (maxL := 3) (by decide) rfl (Nat.le_of_ble_eq_true rfl) ?_
  intro p e s m args below meth c A Q ls H locs hx hb hml hown hts hK hN hA hP hD hS hl hret
  have hown : s.vm.findClass RX11 = some m.cls := hown
  have hl : lv_has ls 3 [(0, .int x0), (1, .int x1), (2, .int x2)] := hl
  unfold f_One_within at hf
  refine lv_iload_n hx hb dX11_within_0 rfl (lv_at hl 0 rfl) ?_
  refine lv_iload_n hx hb dX11_within_1 rfl (lv_at hl 1 rfl) ?_
  refine lv_icmp_lt (tgt := 14) hx hb dX11_within_2 (by decide) (fun c_2 => ?_) (fun c_2 => ?_)
  · have hf := mb_if_t c_2 hf
    refine lv_iconst (v := 0) hx hb dX11_within_14 (by decide) ?_
    have hz := Option.some.inj hf
    subst hz
    exact hret _ _ _ _ mb_n0 dX11_within_15 hP hD hS
  · have hf := mb_if_f c_2 hf
    refine lv_iload_n hx hb dX11_within_5 rfl (lv_at hl 0 rfl) ?_
    refine lv_iload_n hx hb dX11_within_6 rfl (lv_at hl 2 rfl) ?_
    refine lv_icmp_gt (tgt := 14) hx hb dX11_within_7 (by decide) (fun c_1 => ?_) (fun c_1 => ?_)
    · have hf := mb_if_t c_1 hf
      refine lv_iconst (v := 0) hx hb dX11_within_14 (by decide) ?_
      have hz := Option.some.inj hf
      subst hz
      exact hret _ _ _ _ mb_n0 dX11_within_15 hP hD hS
    · have hf := mb_if_f c_1 hf
      refine lv_iconst (v := 1) hx hb dX11_within_10 (by decide) ?_
      refine lv_goto (tgt := 15) hx hb dX11_within_11 (by decide) ?_
      have hz := Option.some.inj hf
      subst hz
      exact hret _ _ _ _ mb_n1 dX11_within_15 hP hD hS
def f_One_isDistrict (x0 : Int32) : Option (Int32) := mb_bd1 (f_One_within x0 (0 : Int32) (5 : Int32)) (fun (r_1 : Int32) => mb_z r_1 (some r_1))
def rm_One_isDistrict : Room := { frames := 1, cells := 0, slots := 0, locals := 22 }
set_option maxHeartbeats 4000000 in
set_option maxRecDepth 100000 in
theorem c_One_isDistrict (l : Launch) (D : va_G) (k : Nat → ClassId) (sz : Nat) (x0 : Int32) (z : Int32) (hf : f_One_isDistrict x0 = some z) : Met l yX11_isDistrict wsX11_isDistrict rm_One_isDistrict (va_Pc [.int x0] (gw_pre D vwCl (tyL k) ([] : va_W) sz)) (va_Qi (fun (r : Int32) (_ : Unit) => r = z) (gw_b D vwCl (tyL k) (va_A ([] : va_W) sz) ([] : va_W)) (va_A ([] : va_W) sz)) 0 0 (va_A ([] : va_W) sz) := by
  refine gm_z (cc := cX11_isDistrict) (maxL := 1) (by decide) rfl (Nat.le_of_ble_eq_true rfl) ?_
  intro p e s m args below meth c A Q ls H locs hx hb hml hown hts hK hN hA hP hD hS hl hret
  have hown : s.vm.findClass RX11 = some m.cls := hown
  have hl : lv_has ls 1 [(0, .int x0)] := hl
  unfold f_One_isDistrict at hf
  refine lv_iload_n hx hb dX11_isDistrict_0 rfl (lv_at hl 0 rfl) ?_
  refine lv_iconst (v := 0) hx hb dX11_isDistrict_1 (by decide) ?_
  refine lv_iconst (v := 5) hx hb dX11_isDistrict_2 (by decide) ?_
  obtain ⟨r_1, hz, hf⟩ := mb_bd1_s hf
  refine gc_i (r0 := r_1) (ws' := ([] : va_W)) (wr := ([] : va_W)) (va_runS (As := [.int x0, .int (0 : Int32), .int (5 : Int32)]) (rest := []) ⟨hx, hb, hml, hown, hts⟩ (c_One_within l D k H.size x0 (0 : Int32) (5 : Int32) r_1 hz) (cwS 3 hts gX11_isDistrict_X11_within rfl rfl rfl (by decide +kernel) ⟨Nat.le_of_ble_eq_true rfl, Nat.le_of_ble_eq_true rfl⟩) (gp_S hP hD hK hN [] (by decide +kernel) rfl) rfl rfl hl.1 rfl (lv_room (Nat.le_of_ble_eq_true rfl)) dX11_isDistrict_3 ⟨Nat.zero_le _, Nat.zero_le _⟩) hP hD hS hA [] [] rfl rfl (by decide +kernel) (by decide +kernel) [] (by decide +kernel) rfl (fun H locs hP hD hS => ?_)
  clear hz
  obtain ⟨h_2, hf⟩ := mb_z_s hf
  have hz := Option.some.inj hf
  subst hz
  exact hret _ _ _ _ h_2 dX11_isDistrict_6 hP hD hS
def f_One_isDay (x0 : Int32) : Option (Int32) := mb_bd1 (f_One_within x0 (0 : Int32) (9999 : Int32)) (fun (r_1 : Int32) => mb_z r_1 (some r_1))
def rm_One_isDay : Room := { frames := 1, cells := 0, slots := 0, locals := 22 }
set_option maxHeartbeats 4000000 in
set_option maxRecDepth 100000 in
theorem c_One_isDay (l : Launch) (D : va_G) (k : Nat → ClassId) (sz : Nat) (x0 : Int32) (z : Int32) (hf : f_One_isDay x0 = some z) : Met l yX11_isDay wsX11_isDay rm_One_isDay (va_Pc [.int x0] (gw_pre D vwCl (tyL k) ([] : va_W) sz)) (va_Qi (fun (r : Int32) (_ : Unit) => r = z) (gw_b D vwCl (tyL k) (va_A ([] : va_W) sz) ([] : va_W)) (va_A ([] : va_W) sz)) 0 0 (va_A ([] : va_W) sz) := by
  refine gm_z (cc := cX11_isDay) (maxL := 1) (by decide) rfl (Nat.le_of_ble_eq_true rfl) ?_
  intro p e s m args below meth c A Q ls H locs hx hb hml hown hts hK hN hA hP hD hS hl hret
  have hown : s.vm.findClass RX11 = some m.cls := hown
  have hl : lv_has ls 1 [(0, .int x0)] := hl
  unfold f_One_isDay at hf
  refine lv_iload_n hx hb dX11_isDay_0 rfl (lv_at hl 0 rfl) ?_
  refine lv_iconst (v := 0) hx hb dX11_isDay_1 (by decide) ?_
  refine lv_sipush (v := 9999) hx hb dX11_isDay_2 (by decide) ?_
  obtain ⟨r_1, hz, hf⟩ := mb_bd1_s hf
  refine gc_i (r0 := r_1) (ws' := ([] : va_W)) (wr := ([] : va_W)) (va_runS (As := [.int x0, .int (0 : Int32), .int (9999 : Int32)]) (rest := []) ⟨hx, hb, hml, hown, hts⟩ (c_One_within l D k H.size x0 (0 : Int32) (9999 : Int32) r_1 hz) (cwS 3 hts gX11_isDay_X11_within rfl rfl rfl (by decide +kernel) ⟨Nat.le_of_ble_eq_true rfl, Nat.le_of_ble_eq_true rfl⟩) (gp_S hP hD hK hN [] (by decide +kernel) rfl) rfl rfl hl.1 rfl (lv_room (Nat.le_of_ble_eq_true rfl)) dX11_isDay_5 ⟨Nat.zero_le _, Nat.zero_le _⟩) hP hD hS hA [] [] rfl rfl (by decide +kernel) (by decide +kernel) [] (by decide +kernel) rfl (fun H locs hP hD hS => ?_)
  clear hz
  obtain ⟨h_2, hf⟩ := mb_z_s hf
  have hz := Option.some.inj hf
  subst hz
  exact hret _ _ _ _ h_2 dX11_isDay_8 hP hD hS
def f_One_isUnitNumber (x0 : Int32) : Option (Int32) := mb_bd1 (f_One_within x0 (0 : Int32) (15 : Int32)) (fun (r_1 : Int32) => mb_z r_1 (some r_1))
def rm_One_isUnitNumber : Room := { frames := 1, cells := 0, slots := 0, locals := 22 }
set_option maxHeartbeats 4000000 in
set_option maxRecDepth 100000 in
theorem c_One_isUnitNumber (l : Launch) (D : va_G) (k : Nat → ClassId) (sz : Nat) (x0 : Int32) (z : Int32) (hf : f_One_isUnitNumber x0 = some z) : Met l yX11_isUnitNumber wsX11_isUnitNumber rm_One_isUnitNumber (va_Pc [.int x0] (gw_pre D vwCl (tyL k) ([] : va_W) sz)) (va_Qi (fun (r : Int32) (_ : Unit) => r = z) (gw_b D vwCl (tyL k) (va_A ([] : va_W) sz) ([] : va_W)) (va_A ([] : va_W) sz)) 0 0 (va_A ([] : va_W) sz) := by
  refine gm_z (cc := cX11_isUnitNumber) (maxL := 1) (by decide) rfl (Nat.le_of_ble_eq_true rfl) ?_
  intro p e s m args below meth c A Q ls H locs hx hb hml hown hts hK hN hA hP hD hS hl hret
  have hown : s.vm.findClass RX11 = some m.cls := hown
  have hl : lv_has ls 1 [(0, .int x0)] := hl
  unfold f_One_isUnitNumber at hf
  refine lv_iload_n hx hb dX11_isUnitNumber_0 rfl (lv_at hl 0 rfl) ?_
  refine lv_iconst (v := 0) hx hb dX11_isUnitNumber_1 (by decide) ?_
  refine lv_bipush (v := 15) hx hb dX11_isUnitNumber_2 (by decide) ?_
  obtain ⟨r_1, hz, hf⟩ := mb_bd1_s hf
  refine gc_i (r0 := r_1) (ws' := ([] : va_W)) (wr := ([] : va_W)) (va_runS (As := [.int x0, .int (0 : Int32), .int (15 : Int32)]) (rest := []) ⟨hx, hb, hml, hown, hts⟩ (c_One_within l D k H.size x0 (0 : Int32) (15 : Int32) r_1 hz) (cwS 3 hts gX11_isUnitNumber_X11_within rfl rfl rfl (by decide +kernel) ⟨Nat.le_of_ble_eq_true rfl, Nat.le_of_ble_eq_true rfl⟩) (gp_S hP hD hK hN [] (by decide +kernel) rfl) rfl rfl hl.1 rfl (lv_room (Nat.le_of_ble_eq_true rfl)) dX11_isUnitNumber_4 ⟨Nat.zero_le _, Nat.zero_le _⟩) hP hD hS hA [] [] rfl rfl (by decide +kernel) (by decide +kernel) [] (by decide +kernel) rfl (fun H locs hP hD hS => ?_)
  clear hz
  obtain ⟨h_2, hf⟩ := mb_z_s hf
  have hz := Option.some.inj hf
  subst hz
  exact hret _ _ _ _ h_2 dX11_isUnitNumber_7 hP hD hS
def f_Units_add (P0 : PI) (x1 : Int32) (x2 : Int32) (x3 : Int32) : Option (Int32 × PI) := mb_chk (P0 0 3) 16 (mb_let (mb_u2 P0 1 (P0 0 3).toNatClampNeg x1) (fun (P0_1 : PI) => mb_chk (P0_1 0 3) 16 (mb_let (mb_u2 P0_1 2 (P0_1 0 3).toNatClampNeg x2) (fun (P0_3 : PI) => mb_chk (P0_3 0 3) 16 (mb_let (mb_u2 P0_3 3 (P0_3 0 3).toNatClampNeg x3) (fun (P0_5 : PI) => mb_let (mb_uo P0_5 3 ((P0_5 0 3) + (1 : Int32))) (fun (P0_7 : PI) => some ((P0_5 0 3), P0_7))))))))
def rm_Units_add : Room := { frames := 0, cells := 0, slots := 0, locals := 0 }
set_option maxHeartbeats 4000000 in
set_option maxRecDepth 100000 in
theorem c_Units_add (l : Launch) (D : va_G) (k : Nat → ClassId) (sz : Nat) (b0 : Nat → Nat) (P0 : PI) (x1 : Int32) (x2 : Int32) (x3 : Int32) (z : Int32 × PI) (hf : f_Units_add P0 x1 x2 x3 = some z) : Met l yX9_add wsX9_add rm_Units_add (va_Pc [.ref (b0 0), .int x1, .int x2, .int x3] (gw_pre D vwCl (tyL k) (wC_Units k b0 P0) sz)) (va_Qi (fun (r : Int32) (_ : Unit) => r = z.1) (gw_b D vwCl (tyL k) (va_A (wC_Units k b0 P0) sz) (wC_Units k b0 z.2)) (va_A (wC_Units k b0 P0) sz)) 0 0 (va_A (wC_Units k b0 P0) sz) := by
  refine gm_i (cc := cX9_add) (maxL := 4) (by decide) rfl (Nat.le_of_ble_eq_true rfl) ?_
  intro p e s m args below meth c A Q ls H locs hx hb hml hown hts hK hN hA hP hD hS hl hret
  have hown : s.vm.findClass RX9 = some m.cls := hown
  have hl : lv_has ls 4 [(0, .ref (b0 0)), (1, .int x1), (2, .int x2), (3, .int x3)] := hl
  have iw_Units : ∀ w ∈ u_ws RX9 TX9 4, w ∈ wsX9_add := by decide +kernel
  have fl_9 := hts (.fieldLink RX9 9 "OneMeasure$Units" "sort" "[I") (by decide +kernel)
  have fl_15 := hts (.fieldLink RX9 15 "OneMeasure$Units" "size" "[I") (by decide +kernel)
  have fl_18 := hts (.fieldLink RX9 18 "OneMeasure$Units" "heap" "[I") (by decide +kernel)
  have fl_21 := hts (.fieldLink RX9 21 "OneMeasure$Units" "count" "I") (by decide +kernel)
  unfold f_Units_add at hf
  refine lv_aload_n hx hb dX9_add_0 rfl (lv_at hl 0 rfl) ?_
  refine va_get (D := D) (ci := 9) (v := .ref (b0 1)) (C := RX9) (T := TX9) (N := 4) hx hb hts iw_Units hown hK hP 0 rfl rfl 0 (by decide) fl_9 (fun _ h9 => h9) rfl dX9_add_1 ?_
  refine lv_aload_n hx hb dX9_add_4 rfl (lv_at hl 0 rfl) ?_
  refine va_get (D := D) (ci := 9) (v := .int (P0 0 3)) (C := RX9) (T := TX9) (N := 4) hx hb hts iw_Units hown hK hP 0 rfl rfl 3 (by decide) fl_21 (fun _ h9 => h9) rfl dX9_add_5 ?_
  refine lv_iload_n hx hb dX9_add_8 rfl (lv_at hl 1 rfl) ?_
  obtain ⟨h_2, hf⟩ := mb_chk_s hf
  obtain ⟨P0_1, e_, hf⟩ := mb_let_s hf
  refine va_iast hx hb hK hP hD hS 1 0 rfl rfl h_2 dX9_add_9 (fun H locs hP hD hS => ?_)
  have hP : va_P D vwCl (wC_Units k b0 P0_1) H := by rw [e_]; exact hP
  have hD : va_D A (wC_Units k b0 P0_1) := by rw [e_]; exact hD
  clear e_
  refine lv_aload_n hx hb dX9_add_10 rfl (lv_at hl 0 rfl) ?_
  refine va_get (D := D) (ci := 9) (v := .ref (b0 2)) (C := RX9) (T := TX9) (N := 4) hx hb hts iw_Units hown hK hP 0 rfl rfl 1 (by decide) fl_15 (fun _ h9 => h9) rfl dX9_add_11 ?_
  refine lv_aload_n hx hb dX9_add_14 rfl (lv_at hl 0 rfl) ?_
  refine va_get (D := D) (ci := 9) (v := .int (P0_1 0 3)) (C := RX9) (T := TX9) (N := 4) hx hb hts iw_Units hown hK hP 0 rfl rfl 3 (by decide) fl_21 (fun _ h9 => h9) rfl dX9_add_15 ?_
  refine lv_iload_n hx hb dX9_add_18 rfl (lv_at hl 2 rfl) ?_
  obtain ⟨h_4, hf⟩ := mb_chk_s hf
  obtain ⟨P0_3, e_, hf⟩ := mb_let_s hf
  refine va_iast hx hb hK hP hD hS 2 0 rfl rfl h_4 dX9_add_19 (fun H locs hP hD hS => ?_)
  have hP : va_P D vwCl (wC_Units k b0 P0_3) H := by rw [e_]; exact hP
  have hD : va_D A (wC_Units k b0 P0_3) := by rw [e_]; exact hD
  clear e_
  refine lv_aload_n hx hb dX9_add_20 rfl (lv_at hl 0 rfl) ?_
  refine va_get (D := D) (ci := 9) (v := .ref (b0 3)) (C := RX9) (T := TX9) (N := 4) hx hb hts iw_Units hown hK hP 0 rfl rfl 2 (by decide) fl_18 (fun _ h9 => h9) rfl dX9_add_21 ?_
  refine lv_aload_n hx hb dX9_add_24 rfl (lv_at hl 0 rfl) ?_
  refine va_get (D := D) (ci := 9) (v := .int (P0_3 0 3)) (C := RX9) (T := TX9) (N := 4) hx hb hts iw_Units hown hK hP 0 rfl rfl 3 (by decide) fl_21 (fun _ h9 => h9) rfl dX9_add_25 ?_
  refine lv_iload_n hx hb dX9_add_28 rfl (lv_at hl 3 rfl) ?_
  obtain ⟨h_6, hf⟩ := mb_chk_s hf
  obtain ⟨P0_5, e_, hf⟩ := mb_let_s hf
  refine va_iast hx hb hK hP hD hS 3 0 rfl rfl h_6 dX9_add_29 (fun H locs hP hD hS => ?_)
  have hP : va_P D vwCl (wC_Units k b0 P0_5) H := by rw [e_]; exact hP
  have hD : va_D A (wC_Units k b0 P0_5) := by rw [e_]; exact hD
  clear e_
  refine lv_aload_n hx hb dX9_add_30 rfl (lv_at hl 0 rfl) ?_
  refine lv_dup hx hb dX9_add_31 rfl ?_
  refine va_get (D := D) (ci := 9) (v := .int (P0_5 0 3)) (C := RX9) (T := TX9) (N := 4) hx hb hts iw_Units hown hK hP 0 rfl rfl 3 (by decide) fl_21 (fun _ h9 => h9) rfl dX9_add_32 ?_
  refine lv_dup_x1 hx hb dX9_add_35 rfl rfl ?_
  refine lv_iconst (v := 1) hx hb dX9_add_36 (by decide) ?_
  refine lv_iadd hx hb dX9_add_37 ?_
  obtain ⟨P0_7, e_, hf⟩ := mb_let_s hf
  refine va_put (D := D) (ci := 9) (v := .int ((P0_5 0 3) + (1 : Int32))) (ty := .int) (C := RX9) (T := TX9) (N := 4) hx hb hts iw_Units tyX9 tyX9_ok nmX9 hown hK hP hD hS 0 rfl rfl 3 (by decide) fl_21 (fun _ h9 => h9) rfl (by decide +kernel) rfl rfl (Nat.le_of_ble_eq_true rfl) dX9_add_38 (fun H locs hP hD hS => ?_)
  have hP : va_P D vwCl (wC_Units k b0 P0_7) H := by rw [e_]; exact hP
  have hD : va_D A (wC_Units k b0 P0_7) := by rw [e_]; exact hD
  clear e_
  have hz := Option.some.inj hf
  subst hz
  exact hret _ _ _ _ dX9_add_41 hP hD hS
def f_One_unit (P1 : PI) (x1 : Int32) (x2 : Int32) (x3 : Int32) : Option (Int32 × PI) := mb_bd1 (f_One_within x1 (0 : Int32) (1 : Int32)) (fun (r_1 : Int32) => (if r_1 = 0 then some ((-1 : Int32), P1) else mb_bd1 (f_One_within x2 (1 : Int32) (1000000 : Int32)) (fun (r_2 : Int32) => (if r_2 = 0 then some ((-1 : Int32), P1) else mb_jn (fun (y_3 : Int32) (y_4 : Int32) (y_5 : Int32) => mb_bd1 (f_One_within y_5 y_4 y_3) (fun (r_8 : Int32) => (if r_8 = 0 then some ((-1 : Int32), P1) else (if (P1 0 3) < (16 : Int32) then mb_bd2 (f_Units_add P1 x1 x2 x3) (fun (r_9 : Int32) (P1_10 : PI) => some (r_9, P1_10)) else some ((-3 : Int32), P1))))) (fun J34_6 => (if x1 = (1 : Int32) then J34_6 (100 : Int32) (0 : Int32) x3 else J34_6 (0 : Int32) (0 : Int32) x3))))))
def rm_One_unit : Room := { frames := 1, cells := 0, slots := 0, locals := 23 }
set_option maxHeartbeats 4000000 in
set_option maxRecDepth 100000 in
theorem c_One_unit (l : Launch) (D : va_G) (k : Nat → ClassId) (sz : Nat) (a0 : Nat → Nat → Nat) (P0 : PI) (P1 : PI) (x1 : Int32) (x2 : Int32) (x3 : Int32) (z : Int32 × PI) (hf : f_One_unit P1 x1 x2 x3 = some z) : Met l yX11_unit wsX11_unit rm_One_unit (va_Pc [.ref (a0 0 0), .int x1, .int x2, .int x3] (gw_pre D vwCl (tyL k) (wC_One k a0 P0 ++ (wC_Units k (a0 1) P1)) sz)) (va_Qi (fun (r : Int32) (_ : Unit) => r = z.1) (gw_b D vwCl (tyL k) (va_A (wC_One k a0 P0 ++ (wC_Units k (a0 1) P1)) sz) (wC_One k a0 P0 ++ (wC_Units k (a0 1) z.2))) (va_A (wC_One k a0 P0 ++ (wC_Units k (a0 1) P1)) sz)) 0 0 (va_A (wC_One k a0 P0 ++ (wC_Units k (a0 1) P1)) sz) := by
  refine gm_i (cc := cX11_unit) (maxL := 4) (by decide) rfl (Nat.le_of_ble_eq_true rfl) ?_
  intro p e s m args below meth c A Q ls H locs hx hb hml hown hts hK hN hA hP hD hS hl hret
  have hown : s.vm.findClass RX11 = some m.cls := hown
  have hl : lv_has ls 4 [(0, .ref (a0 0 0)), (1, .int x1), (2, .int x2), (3, .int x3)] := hl
  have iw_One : ∀ w ∈ u_ws RX11 TX11 16, w ∈ wsX11_unit := by decide +kernel
  have iw_Units : ∀ w ∈ u_ws RX9 TX9 4, w ∈ wsX11_unit := by decide +kernel
  have fl_10 := hts (.fieldLink RX11 10 "OneMeasure" "units" "LOneMeasure$Units;") (by decide +kernel)
  have fl_110 := hts (.fieldLink RX11 110 "OneMeasure$Units" "count" "I") (by decide +kernel)
  have lc_109 := hts (.constant RX11 109 (1000000)) (by decide +kernel)
  unfold f_One_unit at hf
  refine lv_iload_n hx hb dX11_unit_0 rfl (lv_at hl 1 rfl) ?_
  refine lv_iconst (v := 0) hx hb dX11_unit_1 (by decide) ?_
  refine lv_iconst (v := 1) hx hb dX11_unit_2 (by decide) ?_
  obtain ⟨r_1, hz, hf⟩ := mb_bd1_s hf
  refine gc_i (r0 := r_1) (ws' := (wC_One k a0 P0 ++ (wC_Units k (a0 1) P1))) (wr := (wC_One k a0 P0 ++ (wC_Units k (a0 1) P1))) (va_runS (As := [.int x1, .int (0 : Int32), .int (1 : Int32)]) (rest := []) ⟨hx, hb, hml, hown, hts⟩ (c_One_within l D k H.size x1 (0 : Int32) (1 : Int32) r_1 hz) (cwS 3 hts gX11_unit_X11_within rfl rfl rfl (by decide +kernel) ⟨Nat.le_of_ble_eq_true rfl, Nat.le_of_ble_eq_true rfl⟩) (gp_S hP hD hK hN [] (by decide +kernel) rfl) rfl rfl hl.1 rfl (lv_room (Nat.le_of_ble_eq_true rfl)) dX11_unit_3 ⟨Nat.zero_le _, Nat.zero_le _⟩) hP hD hS hA [] [0, 1, 2, 3, 4, 5, 6, 7] rfl rfl (by decide +kernel) (by decide +kernel) [0, 1, 2, 3, 4, 5, 6, 7] (by decide +kernel) rfl (fun H locs hP hD hS => ?_)
  clear hz
  refine lv_if_eq (tgt := 19) hx hb dX11_unit_6 (by decide) (fun c_15 => ?_) (fun c_15 => ?_)
  · have hf := mb_if_t c_15 hf
    refine lv_iconst (v := (-1)) hx hb dX11_unit_19 (by decide) ?_
    have hz := Option.some.inj hf
    subst hz
    exact hret _ _ _ _ dX11_unit_20 hP hD hS
  · have hf := mb_if_f c_15 hf
    refine lv_iload_n hx hb dX11_unit_9 rfl (lv_at hl 2 rfl) ?_
    refine lv_iconst (v := 1) hx hb dX11_unit_10 (by decide) ?_
    refine lv_ldc (v := (1000000)) hx hb hown lc_109 dX11_unit_11 ?_
    obtain ⟨r_2, hz, hf⟩ := mb_bd1_s hf
    refine gc_i (r0 := r_2) (ws' := (wC_One k a0 P0 ++ (wC_Units k (a0 1) P1))) (wr := (wC_One k a0 P0 ++ (wC_Units k (a0 1) P1))) (va_runS (As := [.int x2, .int (1 : Int32), .int (1000000 : Int32)]) (rest := []) ⟨hx, hb, hml, hown, hts⟩ (c_One_within l D k H.size x2 (1 : Int32) (1000000 : Int32) r_2 hz) (cwS 3 hts gX11_unit_X11_within rfl rfl rfl (by decide +kernel) ⟨Nat.le_of_ble_eq_true rfl, Nat.le_of_ble_eq_true rfl⟩) (gp_S hP hD hK hN [] (by decide +kernel) rfl) rfl rfl hl.1 rfl (lv_room (Nat.le_of_ble_eq_true rfl)) dX11_unit_13 ⟨Nat.zero_le _, Nat.zero_le _⟩) hP hD hS hA [] [0, 1, 2, 3, 4, 5, 6, 7] rfl rfl (by decide +kernel) (by decide +kernel) [0, 1, 2, 3, 4, 5, 6, 7] (by decide +kernel) rfl (fun H locs hP hD hS => ?_)
    clear hz
    refine lv_if_ne (tgt := 21) hx hb dX11_unit_16 (by decide) (fun c_14 => ?_) (fun c_14 => ?_)
    · have hf := mb_if_f c_14 hf
      refine lv_iload_n hx hb dX11_unit_21 rfl (lv_at hl 3 rfl) ?_
      refine lv_iconst (v := 0) hx hb dX11_unit_22 (by decide) ?_
      refine lv_iload_n hx hb dX11_unit_23 rfl (lv_at hl 1 rfl) ?_
      refine lv_iconst (v := 1) hx hb dX11_unit_24 (by decide) ?_
      obtain ⟨J34_6, eJ34_6, hf⟩ := mb_jn_s hf
      have j34_7 : ∀ (y_3 : Int32) (y_4 : Int32) (y_5 : Int32) (H : Heap) (locs : List Loc) (ls : Array Slot), J34_6 y_3 y_4 y_5 = some z → va_P D vwCl (wC_One k a0 P0 ++ (wC_Units k (a0 1) P1)) H → va_D A (wC_One k a0 P0 ++ (wC_Units k (a0 1) P1)) → va_S A s.heap H locs → lv_has ls 4 [(0, .ref (a0 0 0)), (1, .int x1), (2, .int x2), (3, .int x3)] → W p l e rm_One_unit s m args below meth c H locs 0 0 Q (F0 m 34 ls [.int y_3, .int y_4, .int y_5]) := by
        intro y_3 y_4 y_5 H locs ls hf hP hD hS hl
        have hf := mb_j3 eJ34_6 hf
        obtain ⟨r_8, hz, hf⟩ := mb_bd1_s hf
        refine gc_i (r0 := r_8) (ws' := (wC_One k a0 P0 ++ (wC_Units k (a0 1) P1))) (wr := (wC_One k a0 P0 ++ (wC_Units k (a0 1) P1))) (va_runS (As := [.int y_5, .int y_4, .int y_3]) (rest := []) ⟨hx, hb, hml, hown, hts⟩ (c_One_within l D k H.size y_5 y_4 y_3 r_8 hz) (cwS 3 hts gX11_unit_X11_within rfl rfl rfl (by decide +kernel) ⟨Nat.le_of_ble_eq_true rfl, Nat.le_of_ble_eq_true rfl⟩) (gp_S hP hD hK hN [] (by decide +kernel) rfl) rfl rfl hl.1 rfl (lv_room (Nat.le_of_ble_eq_true rfl)) dX11_unit_34 ⟨Nat.zero_le _, Nat.zero_le _⟩) hP hD hS hA [] [0, 1, 2, 3, 4, 5, 6, 7] rfl rfl (by decide +kernel) (by decide +kernel) [0, 1, 2, 3, 4, 5, 6, 7] (by decide +kernel) rfl (fun H locs hP hD hS => ?_)
        clear hz
        refine lv_if_ne (tgt := 42) hx hb dX11_unit_37 (by decide) (fun c_12 => ?_) (fun c_12 => ?_)
        · have hf := mb_if_f c_12 hf
          refine lv_aload_n hx hb dX11_unit_42 rfl (lv_at hl 0 rfl) ?_
          refine va_get (D := D) (ci := 11) (v := .ref (a0 1 0)) (C := RX11) (T := TX11) (N := 16) hx hb hts iw_One hown hK hP 0 rfl rfl 0 (by decide) fl_10 (fun _ h9 => h9) rfl dX11_unit_43 ?_
          refine va_get (D := D) (ci := 9) (v := .int (P1 0 3)) (C := RX9) (T := TX9) (N := 4) hx hb hts iw_Units hown hK hP 4 rfl rfl 3 (by decide) fl_110 (fun _ h9 => h9) rfl dX11_unit_46 ?_
          refine lv_bipush (v := 16) hx hb dX11_unit_49 (by decide) ?_
          refine lv_icmp_lt (tgt := 57) hx hb dX11_unit_51 (by decide) (fun c_11 => ?_) (fun c_11 => ?_)
          · have hf := mb_if_t c_11 hf
            refine lv_aload_n hx hb dX11_unit_57 rfl (lv_at hl 0 rfl) ?_
            refine va_get (D := D) (ci := 11) (v := .ref (a0 1 0)) (C := RX11) (T := TX11) (N := 16) hx hb hts iw_One hown hK hP 0 rfl rfl 0 (by decide) fl_10 (fun _ h9 => h9) rfl dX11_unit_58 ?_
            refine lv_iload_n hx hb dX11_unit_61 rfl (lv_at hl 1 rfl) ?_
            refine lv_iload_n hx hb dX11_unit_62 rfl (lv_at hl 2 rfl) ?_
            refine lv_iload_n hx hb dX11_unit_63 rfl (lv_at hl 3 rfl) ?_
            obtain ⟨r_9, P1_10, hz, hf⟩ := mb_bd2_s hf
            refine gc_i (r0 := r_9) (ws' := (wC_One k a0 P0 ++ (wC_Units k (a0 1) P1_10))) (wr := (wC_One k a0 P0)) (va_runV (As := [.int x1, .int x2, .int x3]) (rest := []) ⟨hx, hb, hml, hown, hts⟩ (c_Units_add l D k H.size (a0 1) P1 x1 x2 x3 (r_9, P1_10) hz) (cwV 3 hts gX11_unit_X9_add rfl rfl rfl (by decide +kernel) ⟨Nat.le_of_ble_eq_true rfl, Nat.le_of_ble_eq_true rfl⟩) (gp_V (ci := 9) (q0 := 0) (q := (RX9, TX9, 4)) hP hD hK hN [4, 5, 6, 7] (by decide +kernel) rfl rfl rfl) rfl rfl hl.1 rfl (lv_room (Nat.le_of_ble_eq_true rfl)) dX11_unit_64 ⟨Nat.zero_le _, Nat.zero_le _⟩) hP hD hS hA [4, 5, 6, 7] [0, 1, 2, 3] rfl rfl (by decide +kernel) (by decide +kernel) [0, 1, 2, 3, 4, 5, 6, 7] (by decide +kernel) rfl (fun H locs hP hD hS => ?_)
            clear hz
            have hz := Option.some.inj hf
            subst hz
            exact hret _ _ _ _ dX11_unit_67 hP hD hS
          · have hf := mb_if_f c_11 hf
            refine lv_bipush (v := (-3)) hx hb dX11_unit_54 (by decide) ?_
            have hz := Option.some.inj hf
            subst hz
            exact hret _ _ _ _ dX11_unit_56 hP hD hS
        · have hf := mb_if_t c_12 hf
          refine lv_iconst (v := (-1)) hx hb dX11_unit_40 (by decide) ?_
          have hz := Option.some.inj hf
          subst hz
          exact hret _ _ _ _ dX11_unit_41 hP hD hS
      refine lv_icmp_ne (tgt := 33) hx hb dX11_unit_25 (by decide) (fun c_13 => ?_) (fun c_13 => ?_)
      · have hf := mb_if_f c_13 hf
        refine lv_iconst (v := 0) hx hb dX11_unit_33 (by decide) ?_
        exact j34_7 (0 : Int32) (0 : Int32) x3 _ _ _ hf hP hD hS (lv_sub hl [0, 1, 2, 3] rfl)
      · have hf := mb_if_t c_13 hf
        refine lv_bipush (v := 100) hx hb dX11_unit_28 (by decide) ?_
        refine lv_goto (tgt := 34) hx hb dX11_unit_30 (by decide) ?_
        exact j34_7 (100 : Int32) (0 : Int32) x3 _ _ _ hf hP hD hS (lv_sub hl [0, 1, 2, 3] rfl)
    · have hf := mb_if_t c_14 hf
      refine lv_iconst (v := (-1)) hx hb dX11_unit_19 (by decide) ?_
      have hz := Option.some.inj hf
      subst hz
      exact hret _ _ _ _ dX11_unit_20 hP hD hS
def f_Units_told (P0 : PI) (x1 : Int32) : Option (Int32) := (if x1 < 0 then some (0 : Int32) else (if (P0 0 3) ≤ x1 then some (0 : Int32) else some (1 : Int32)))
def rm_Units_told : Room := { frames := 0, cells := 0, slots := 0, locals := 0 }
set_option maxHeartbeats 4000000 in
set_option maxRecDepth 100000 in
theorem c_Units_told (l : Launch) (D : va_G) (k : Nat → ClassId) (sz : Nat) (b0 : Nat → Nat) (P0 : PI) (x1 : Int32) (z : Int32) (hf : f_Units_told P0 x1 = some z) : Met l yX9_told wsX9_told rm_Units_told (va_Pc [.ref (b0 0), .int x1] (gw_pre D vwCl (tyL k) (wC_Units k b0 P0) sz)) (va_Qi (fun (r : Int32) (_ : Unit) => r = z) (gw_b D vwCl (tyL k) (va_A (wC_Units k b0 P0) sz) (wC_Units k b0 P0)) (va_A (wC_Units k b0 P0) sz)) 0 0 (va_A (wC_Units k b0 P0) sz) := by
  refine gm_z (cc := cX9_told) (maxL := 2) (by decide) rfl (Nat.le_of_ble_eq_true rfl) ?_
  intro p e s m args below meth c A Q ls H locs hx hb hml hown hts hK hN hA hP hD hS hl hret
  have hown : s.vm.findClass RX9 = some m.cls := hown
  have hl : lv_has ls 2 [(0, .ref (b0 0)), (1, .int x1)] := hl
  have iw_Units : ∀ w ∈ u_ws RX9 TX9 4, w ∈ wsX9_told := by decide +kernel
  have fl_21 := hts (.fieldLink RX9 21 "OneMeasure$Units" "count" "I") (by decide +kernel)
  unfold f_Units_told at hf
  refine lv_iload_n hx hb dX9_told_0 rfl (lv_at hl 1 rfl) ?_
  refine lv_if_lt (tgt := 16) hx hb dX9_told_1 (by decide) (fun c_2 => ?_) (fun c_2 => ?_)
  · have hf := mb_if_t c_2 hf
    refine lv_iconst (v := 0) hx hb dX9_told_16 (by decide) ?_
    have hz := Option.some.inj hf
    subst hz
    exact hret _ _ _ _ mb_n0 dX9_told_17 hP hD hS
  · have hf := mb_if_f c_2 hf
    refine lv_iload_n hx hb dX9_told_4 rfl (lv_at hl 1 rfl) ?_
    refine lv_aload_n hx hb dX9_told_5 rfl (lv_at hl 0 rfl) ?_
    refine va_get (D := D) (ci := 9) (v := .int (P0 0 3)) (C := RX9) (T := TX9) (N := 4) hx hb hts iw_Units hown hK hP 0 rfl rfl 3 (by decide) fl_21 (fun _ h9 => h9) rfl dX9_told_6 ?_
    refine lv_icmp_ge (tgt := 16) hx hb dX9_told_9 (by decide) (fun c_1 => ?_) (fun c_1 => ?_)
    · have hf := mb_if_t c_1 hf
      refine lv_iconst (v := 0) hx hb dX9_told_16 (by decide) ?_
      have hz := Option.some.inj hf
      subst hz
      exact hret _ _ _ _ mb_n0 dX9_told_17 hP hD hS
    · have hf := mb_if_f c_1 hf
      refine lv_iconst (v := 1) hx hb dX9_told_12 (by decide) ?_
      refine lv_goto (tgt := 17) hx hb dX9_told_13 (by decide) ?_
      have hz := Option.some.inj hf
      subst hz
      exact hret _ _ _ _ mb_n1 dX9_told_17 hP hD hS
def f_Units_alike (P0 : PI) (x1 : Int32) (x2 : Int32) : Option (Int32) := mb_chk x1 16 (mb_chk x2 16 ((if (P0 1 x1.toNatClampNeg) = (P0 1 x2.toNatClampNeg) then some (1 : Int32) else some (0 : Int32))))
def rm_Units_alike : Room := { frames := 0, cells := 0, slots := 0, locals := 0 }
set_option maxHeartbeats 4000000 in
set_option maxRecDepth 100000 in
theorem c_Units_alike (l : Launch) (D : va_G) (k : Nat → ClassId) (sz : Nat) (b0 : Nat → Nat) (P0 : PI) (x1 : Int32) (x2 : Int32) (z : Int32) (hf : f_Units_alike P0 x1 x2 = some z) : Met l yX9_alike wsX9_alike rm_Units_alike (va_Pc [.ref (b0 0), .int x1, .int x2] (gw_pre D vwCl (tyL k) (wC_Units k b0 P0) sz)) (va_Qi (fun (r : Int32) (_ : Unit) => r = z) (gw_b D vwCl (tyL k) (va_A (wC_Units k b0 P0) sz) (wC_Units k b0 P0)) (va_A (wC_Units k b0 P0) sz)) 0 0 (va_A (wC_Units k b0 P0) sz) := by
  refine gm_z (cc := cX9_alike) (maxL := 3) (by decide) rfl (Nat.le_of_ble_eq_true rfl) ?_
  intro p e s m args below meth c A Q ls H locs hx hb hml hown hts hK hN hA hP hD hS hl hret
  have hown : s.vm.findClass RX9 = some m.cls := hown
  have hl : lv_has ls 3 [(0, .ref (b0 0)), (1, .int x1), (2, .int x2)] := hl
  have iw_Units : ∀ w ∈ u_ws RX9 TX9 4, w ∈ wsX9_alike := by decide +kernel
  have fl_9 := hts (.fieldLink RX9 9 "OneMeasure$Units" "sort" "[I") (by decide +kernel)
  unfold f_Units_alike at hf
  refine lv_aload_n hx hb dX9_alike_0 rfl (lv_at hl 0 rfl) ?_
  refine va_get (D := D) (ci := 9) (v := .ref (b0 1)) (C := RX9) (T := TX9) (N := 4) hx hb hts iw_Units hown hK hP 0 rfl rfl 0 (by decide) fl_9 (fun _ h9 => h9) rfl dX9_alike_1 ?_
  refine lv_iload_n hx hb dX9_alike_4 rfl (lv_at hl 1 rfl) ?_
  obtain ⟨h_1, hf⟩ := mb_chk_s hf
  refine va_iald hx hb hK hP 1 0 rfl rfl h_1 dX9_alike_5 ?_
  refine lv_aload_n hx hb dX9_alike_6 rfl (lv_at hl 0 rfl) ?_
  refine va_get (D := D) (ci := 9) (v := .ref (b0 1)) (C := RX9) (T := TX9) (N := 4) hx hb hts iw_Units hown hK hP 0 rfl rfl 0 (by decide) fl_9 (fun _ h9 => h9) rfl dX9_alike_7 ?_
  refine lv_iload_n hx hb dX9_alike_10 rfl (lv_at hl 2 rfl) ?_
  obtain ⟨h_2, hf⟩ := mb_chk_s hf
  refine va_iald hx hb hK hP 1 0 rfl rfl h_2 dX9_alike_11 ?_
  refine lv_icmp_ne (tgt := 19) hx hb dX9_alike_12 (by decide) (fun c_3 => ?_) (fun c_3 => ?_)
  · have hf := mb_if_f c_3 hf
    refine lv_iconst (v := 0) hx hb dX9_alike_19 (by decide) ?_
    have hz := Option.some.inj hf
    subst hz
    exact hret _ _ _ _ mb_n0 dX9_alike_20 hP hD hS
  · have hf := mb_if_t c_3 hf
    refine lv_iconst (v := 1) hx hb dX9_alike_15 (by decide) ?_
    refine lv_goto (tgt := 20) hx hb dX9_alike_16 (by decide) ?_
    have hz := Option.some.inj hf
    subst hz
    exact hret _ _ _ _ mb_n1 dX9_alike_20 hP hD hS
def f_Tables_grainOf (x0 : Int32) : Option (Int32) := (if x0 = (0 : Int32) then some (1000 : Int32) else (if x0 = (1 : Int32) then some (100 : Int32) else (if x0 = (2 : Int32) then some (10 : Int32) else some (1 : Int32))))
def rm_Tables_grainOf : Room := { frames := 0, cells := 0, slots := 0, locals := 0 }
set_option maxHeartbeats 4000000 in
set_option maxRecDepth 100000 in
theorem c_Tables_grainOf (l : Launch) (D : va_G) (k : Nat → ClassId) (sz : Nat) (x0 : Int32) (z : Int32) (hf : f_Tables_grainOf x0 = some z) : Met l yX6_grainOf wsX6_grainOf rm_Tables_grainOf (va_Pc [.int x0] (gw_pre D vwCl (tyL k) ([] : va_W) sz)) (va_Qi (fun (r : Int32) (_ : Unit) => r = z) (gw_b D vwCl (tyL k) (va_A ([] : va_W) sz) ([] : va_W)) (va_A ([] : va_W) sz)) 0 0 (va_A ([] : va_W) sz) := by
  refine gm_i (cc := cX6_grainOf) (maxL := 1) (by decide) rfl (Nat.le_of_ble_eq_true rfl) ?_
  intro p e s m args below meth c A Q ls H locs hx hb hml hown hts hK hN hA hP hD hS hl hret
  have hown : s.vm.findClass RX6 = some m.cls := hown
  have hl : lv_has ls 1 [(0, .int x0)] := hl
  unfold f_Tables_grainOf at hf
  refine lv_iload_n hx hb dX6_grainOf_0 rfl (lv_at hl 0 rfl) ?_
  by_cases c_1 : x0 = (0 : Int32)
  · have hf := mb_if_t c_1 hf
    refine lv_tableIn (tgt := 28) hx hb dX6_grainOf_1 (by rw [c_1]; decide) (by rw [c_1]; decide) (by rw [c_1]; rfl) (by decide) ?_
    refine lv_sipush (v := 1000) hx hb dX6_grainOf_28 (by decide) ?_
    have hz := Option.some.inj hf
    subst hz
    exact hret _ _ _ _ dX6_grainOf_31 hP hD hS
  · have hf := mb_if_f c_1 hf
    by_cases c_2 : x0 = (1 : Int32)
    · have hf := mb_if_t c_2 hf
      refine lv_tableIn (tgt := 32) hx hb dX6_grainOf_1 (by rw [c_2]; decide) (by rw [c_2]; decide) (by rw [c_2]; rfl) (by decide) ?_
      refine lv_bipush (v := 100) hx hb dX6_grainOf_32 (by decide) ?_
      have hz := Option.some.inj hf
      subst hz
      exact hret _ _ _ _ dX6_grainOf_34 hP hD hS
    · have hf := mb_if_f c_2 hf
      by_cases c_3 : x0 = (2 : Int32)
      · have hf := mb_if_t c_3 hf
        refine lv_tableIn (tgt := 35) hx hb dX6_grainOf_1 (by rw [c_3]; decide) (by rw [c_3]; decide) (by rw [c_3]; rfl) (by decide) ?_
        refine lv_bipush (v := 10) hx hb dX6_grainOf_35 (by decide) ?_
        have hz := Option.some.inj hf
        subst hz
        exact hret _ _ _ _ dX6_grainOf_37 hP hD hS
      · have hf := mb_if_f c_3 hf
        refine lv_tableOut (tgt := 38) hx hb dX6_grainOf_1 (by have q0 : ¬ (x0 : Int32).toInt = 0 := mb_ni c_1 (by decide); have q1 : ¬ (x0 : Int32).toInt = 1 := mb_ni c_2 (by decide); have q2 : ¬ (x0 : Int32).toInt = 2 := mb_ni c_3 (by decide); omega) (by decide) ?_
        refine lv_iconst (v := 1) hx hb dX6_grainOf_38 (by decide) ?_
        have hz := Option.some.inj hf
        subst hz
        exact hret _ _ _ _ dX6_grainOf_39 hP hD hS
def f_Tables_put (P0 : PI) (x1 : Int32) (x2 : Int32) (x3 : Int32) (x4 : Int32) (x5 : Int32) : Option (PI) := mb_let ((x1 * (16 : Int32)) + x2) (fun (x6_1 : Int32) => mb_chk x6_1 256 (mb_jn (fun (P0_3 : PI) => mb_chk x6_1 256 (mb_let (mb_u2 P0_3 1 x6_1.toNatClampNeg x3) (fun (P0_6 : PI) => mb_chk x6_1 256 (mb_let (mb_u2 P0_6 2 x6_1.toNatClampNeg x4) (fun (P0_8 : PI) => mb_bd1 (f_Tables_grainOf x5) (fun (r_10 : Int32) => mb_chk x6_1 256 (mb_let (mb_u2 P0_8 3 x6_1.toNatClampNeg r_10) (fun (P0_11 : PI) => some P0_11)))))))) (fun J28_4 => (if (P0 2 x6_1.toNatClampNeg) = 0 then mb_let (mb_uo P0 3 ((P0 0 3) + (1 : Int32))) (fun (P0_13 : PI) => J28_4 P0_13) else J28_4 P0))))
def rm_Tables_put : Room := { frames := 1, cells := 0, slots := 0, locals := 20 }
set_option maxHeartbeats 4000000 in
set_option maxRecDepth 100000 in
theorem c_Tables_put (l : Launch) (D : va_G) (k : Nat → ClassId) (sz : Nat) (b0 : Nat → Nat) (P0 : PI) (x1 : Int32) (x2 : Int32) (x3 : Int32) (x4 : Int32) (x5 : Int32) (z : PI) (hf : f_Tables_put P0 x1 x2 x3 x4 x5 = some z) : Met l yX6_put wsX6_put rm_Tables_put (va_Pc [.ref (b0 0), .int x1, .int x2, .int x3, .int x4, .int x5] (gw_pre D vwCl (tyL k) (wC_Tables k b0 P0) sz)) (va_Qv (fun (_ : Unit) => True) (gw_b D vwCl (tyL k) (va_A (wC_Tables k b0 P0) sz) (wC_Tables k b0 z)) (va_A (wC_Tables k b0 P0) sz)) 0 0 (va_A (wC_Tables k b0 P0) sz) := by
  refine gm_v (cc := cX6_put) (maxL := 7) (by decide) rfl (Nat.le_of_ble_eq_true rfl) ?_
  intro p e s m args below meth c A Q ls H locs hx hb hml hown hts hK hN hA hP hD hS hl hret
  have hown : s.vm.findClass RX6 = some m.cls := hown
  have hl : lv_has ls 7 [(0, .ref (b0 0)), (1, .int x1), (2, .int x2), (3, .int x3), (4, .int x4), (5, .int x5)] := hl
  have iw_Tables : ∀ w ∈ u_ws RX6 TX6 4, w ∈ wsX6_put := by decide +kernel
  have fl_9 := hts (.fieldLink RX6 9 "OneMeasure$Tables" "times" "[I") (by decide +kernel)
  have fl_15 := hts (.fieldLink RX6 15 "OneMeasure$Tables" "by" "[I") (by decide +kernel)
  have fl_18 := hts (.fieldLink RX6 18 "OneMeasure$Tables" "grain" "[I") (by decide +kernel)
  have fl_21 := hts (.fieldLink RX6 21 "OneMeasure$Tables" "count" "I") (by decide +kernel)
  unfold f_Tables_put at hf
  refine lv_iload_n hx hb dX6_put_0 rfl (lv_at hl 1 rfl) ?_
  refine lv_bipush (v := 16) hx hb dX6_put_1 (by decide) ?_
  refine lv_imul hx hb dX6_put_3 ?_
  refine lv_iload_n hx hb dX6_put_4 rfl (lv_at hl 2 rfl) ?_
  refine lv_iadd hx hb dX6_put_5 ?_
  obtain ⟨x6_1, e_, hf⟩ := mb_let_s hf
  refine mb_topi e_ ?_
  clear e_
  refine lv_istore (lv' := [(6, .int x6_1), (0, .ref (b0 0)), (1, .int x1), (2, .int x2), (3, .int x3), (4, .int x4), (5, .int x5)]) hx hb dX6_put_6 hl (by decide) rfl (fun ls hl => ?_)
  refine lv_aload_n hx hb dX6_put_8 rfl (lv_at hl 1 rfl) ?_
  refine va_get (D := D) (ci := 6) (v := .ref (b0 2)) (C := RX6) (T := TX6) (N := 4) hx hb hts iw_Tables hown hK hP 0 rfl rfl 1 (by decide) fl_15 (fun _ h9 => h9) rfl dX6_put_9 ?_
  refine lv_iload hx hb dX6_put_12 (lv_at hl 0 rfl) ?_
  obtain ⟨h_2, hf⟩ := mb_chk_s hf
  refine va_iald hx hb hK hP 2 0 rfl rfl h_2 dX6_put_14 ?_
  obtain ⟨J28_4, eJ28_4, hf⟩ := mb_jn_s hf
  have j28_5 : ∀ (P0_3 : PI) (H : Heap) (locs : List Loc) (ls : Array Slot), J28_4 P0_3 = some z → va_P D vwCl (wC_Tables k b0 P0_3) H → va_D A (wC_Tables k b0 P0_3) → va_S A s.heap H locs → lv_has ls 7 [(0, .ref (b0 0)), (3, .int x3), (4, .int x4), (5, .int x5), (6, .int x6_1)] → W p l e rm_Tables_put s m args below meth c H locs 0 0 Q (F0 m 28 ls []) := by
    intro P0_3 H locs ls hf hP hD hS hl
    have hf := mb_j1 eJ28_4 hf
    refine lv_aload_n hx hb dX6_put_28 rfl (lv_at hl 0 rfl) ?_
    refine va_get (D := D) (ci := 6) (v := .ref (b0 1)) (C := RX6) (T := TX6) (N := 4) hx hb hts iw_Tables hown hK hP 0 rfl rfl 0 (by decide) fl_9 (fun _ h9 => h9) rfl dX6_put_29 ?_
    refine lv_iload hx hb dX6_put_32 (lv_at hl 4 rfl) ?_
    refine lv_iload_n hx hb dX6_put_34 rfl (lv_at hl 1 rfl) ?_
    obtain ⟨h_7, hf⟩ := mb_chk_s hf
    obtain ⟨P0_6, e_, hf⟩ := mb_let_s hf
    refine va_iast hx hb hK hP hD hS 1 0 rfl rfl h_7 dX6_put_35 (fun H locs hP hD hS => ?_)
    have hP : va_P D vwCl (wC_Tables k b0 P0_6) H := by rw [e_]; exact hP
    have hD : va_D A (wC_Tables k b0 P0_6) := by rw [e_]; exact hD
    clear e_
    refine lv_aload_n hx hb dX6_put_36 rfl (lv_at hl 0 rfl) ?_
    refine va_get (D := D) (ci := 6) (v := .ref (b0 2)) (C := RX6) (T := TX6) (N := 4) hx hb hts iw_Tables hown hK hP 0 rfl rfl 1 (by decide) fl_15 (fun _ h9 => h9) rfl dX6_put_37 ?_
    refine lv_iload hx hb dX6_put_40 (lv_at hl 4 rfl) ?_
    refine lv_iload hx hb dX6_put_42 (lv_at hl 2 rfl) ?_
    obtain ⟨h_9, hf⟩ := mb_chk_s hf
    obtain ⟨P0_8, e_, hf⟩ := mb_let_s hf
    refine va_iast hx hb hK hP hD hS 2 0 rfl rfl h_9 dX6_put_44 (fun H locs hP hD hS => ?_)
    have hP : va_P D vwCl (wC_Tables k b0 P0_8) H := by rw [e_]; exact hP
    have hD : va_D A (wC_Tables k b0 P0_8) := by rw [e_]; exact hD
    clear e_
    refine lv_aload_n hx hb dX6_put_45 rfl (lv_at hl 0 rfl) ?_
    refine va_get (D := D) (ci := 6) (v := .ref (b0 3)) (C := RX6) (T := TX6) (N := 4) hx hb hts iw_Tables hown hK hP 0 rfl rfl 2 (by decide) fl_18 (fun _ h9 => h9) rfl dX6_put_46 ?_
    refine lv_iload hx hb dX6_put_49 (lv_at hl 4 rfl) ?_
    refine lv_iload hx hb dX6_put_51 (lv_at hl 3 rfl) ?_
    obtain ⟨r_10, hz, hf⟩ := mb_bd1_s hf
    refine gc_i (r0 := r_10) (ws' := (wC_Tables k b0 P0_8)) (wr := (wC_Tables k b0 P0_8)) (va_runS (As := [.int x5]) (rest := [.int x6_1, .ref (b0 3)]) ⟨hx, hb, hml, hown, hts⟩ (c_Tables_grainOf l D k H.size x5 r_10 hz) (cwS 1 hts gX6_put_X6_grainOf rfl rfl rfl (by decide +kernel) ⟨Nat.le_of_ble_eq_true rfl, Nat.le_of_ble_eq_true rfl⟩) (gp_S hP hD hK hN [] (by decide +kernel) rfl) rfl rfl hl.1 rfl (lv_room (Nat.le_of_ble_eq_true rfl)) dX6_put_53 ⟨Nat.zero_le _, Nat.zero_le _⟩) hP hD hS hA [] [0, 1, 2, 3] rfl rfl (by decide +kernel) (by decide +kernel) [0, 1, 2, 3] (by decide +kernel) rfl (fun H locs hP hD hS => ?_)
    clear hz
    obtain ⟨h_12, hf⟩ := mb_chk_s hf
    obtain ⟨P0_11, e_, hf⟩ := mb_let_s hf
    refine va_iast hx hb hK hP hD hS 3 0 rfl rfl h_12 dX6_put_56 (fun H locs hP hD hS => ?_)
    have hP : va_P D vwCl (wC_Tables k b0 P0_11) H := by rw [e_]; exact hP
    have hD : va_D A (wC_Tables k b0 P0_11) := by rw [e_]; exact hD
    clear e_
    have hz := Option.some.inj hf
    subst hz
    exact hret _ _ _ _ dX6_put_57 hP hD hS
  refine lv_if_ne (tgt := 28) hx hb dX6_put_15 (by decide) (fun c_14 => ?_) (fun c_14 => ?_)
  · have hf := mb_if_f c_14 hf
    exact j28_5 P0 _ _ _ hf hP hD hS (lv_sub hl [1, 4, 5, 6, 0] rfl)
  · have hf := mb_if_t c_14 hf
    refine lv_aload_n hx hb dX6_put_18 rfl (lv_at hl 1 rfl) ?_
    refine lv_dup hx hb dX6_put_19 rfl ?_
    refine va_get (D := D) (ci := 6) (v := .int (P0 0 3)) (C := RX6) (T := TX6) (N := 4) hx hb hts iw_Tables hown hK hP 0 rfl rfl 3 (by decide) fl_21 (fun _ h9 => h9) rfl dX6_put_20 ?_
    refine lv_iconst (v := 1) hx hb dX6_put_23 (by decide) ?_
    refine lv_iadd hx hb dX6_put_24 ?_
    obtain ⟨P0_13, e_, hf⟩ := mb_let_s hf
    refine va_put (D := D) (ci := 6) (v := .int ((P0 0 3) + (1 : Int32))) (ty := .int) (C := RX6) (T := TX6) (N := 4) hx hb hts iw_Tables tyX6 tyX6_ok nmX6 hown hK hP hD hS 0 rfl rfl 3 (by decide) fl_21 (fun _ h9 => h9) rfl (by decide +kernel) rfl rfl (Nat.le_of_ble_eq_true rfl) dX6_put_25 (fun H locs hP hD hS => ?_)
    have hP : va_P D vwCl (wC_Tables k b0 P0_13) H := by rw [e_]; exact hP
    have hD : va_D A (wC_Tables k b0 P0_13) := by rw [e_]; exact hD
    clear e_
    exact j28_5 P0_13 _ _ _ hf hP hD hS (lv_sub hl [1, 4, 5, 6, 0] rfl)
def f_Ways_forget (P0 : PI) : Option (PI) := mb_let (mb_uo P0 4 (0 : Int32)) (fun (P0_1 : PI) => some P0_1)
def rm_Ways_forget : Room := { frames := 0, cells := 0, slots := 0, locals := 0 }
set_option maxHeartbeats 4000000 in
set_option maxRecDepth 100000 in
theorem c_Ways_forget (l : Launch) (D : va_G) (k : Nat → ClassId) (sz : Nat) (b0 : Nat → Nat) (P0 : PI) (L0 : PL) (z : PI) (hf : f_Ways_forget P0 = some z) : Met l yX10_forget wsX10_forget rm_Ways_forget (va_Pc [.ref (b0 0)] (gw_pre D vwCl (tyL k) (wC_Ways k b0 P0 L0) sz)) (va_Qv (fun (_ : Unit) => True) (gw_b D vwCl (tyL k) (va_A (wC_Ways k b0 P0 L0) sz) (wC_Ways k b0 z L0)) (va_A (wC_Ways k b0 P0 L0) sz)) 0 0 (va_A (wC_Ways k b0 P0 L0) sz) := by
  refine gm_v (cc := cX10_forget) (maxL := 1) (by decide) rfl (Nat.le_of_ble_eq_true rfl) ?_
  intro p e s m args below meth c A Q ls H locs hx hb hml hown hts hK hN hA hP hD hS hl hret
  have hown : s.vm.findClass RX10 = some m.cls := hown
  have hl : lv_has ls 1 [(0, .ref (b0 0))] := hl
  have iw_Ways : ∀ w ∈ u_ws RX10 TX10 5, w ∈ wsX10_forget := by decide +kernel
  have fl_26 := hts (.fieldLink RX10 26 "OneMeasure$Ways" "known" "Z") (by decide +kernel)
  unfold f_Ways_forget at hf
  refine lv_aload_n hx hb dX10_forget_0 rfl (lv_at hl 0 rfl) ?_
  refine lv_iconst (v := 0) hx hb dX10_forget_1 (by decide) ?_
  obtain ⟨P0_1, e_, hf⟩ := mb_let_s hf
  refine va_put (D := D) (ci := 10) (v := .int (0 : Int32)) (ty := .boolean) (C := RX10) (T := TX10) (N := 5) hx hb hts iw_Ways tyX10 tyX10_ok nmX10 hown hK hP hD hS 0 rfl rfl 4 (by decide) fl_26 (fun _ h9 => h9) rfl (by decide +kernel) rfl rfl (Nat.le_of_ble_eq_true rfl) dX10_forget_2 (fun H locs hP hD hS => ?_)
  have hP : va_P D vwCl (wC_Ways k b0 P0_1 L0) H := by rw [e_]; exact hP
  have hD : va_D A (wC_Ways k b0 P0_1 L0) := by rw [e_]; exact hD
  clear e_
  have hz := Option.some.inj hf
  subst hz
  exact hret _ _ _ _ dX10_forget_5 hP hD hS
def f_One_table (P1 : PI) (P2 : PI) (P3 : PI) (x1 : Int32) (x2 : Int32) (x3 : Int32) (x4 : Int32) (x5 : Int32) : Option (Int32 × PI × PI) := mb_bd1 (f_Units_told P1 x1) (fun (r_1 : Int32) => (if r_1 = 0 then some ((-1 : Int32), P2, P3) else mb_bd1 (f_Units_told P1 x2) (fun (r_2 : Int32) => (if r_2 = 0 then some ((-1 : Int32), P2, P3) else (if x1 = x2 then some ((-1 : Int32), P2, P3) else mb_bd1 (f_One_within x3 (1 : Int32) (10000 : Int32)) (fun (r_3 : Int32) => (if r_3 = 0 then some ((-1 : Int32), P2, P3) else mb_bd1 (f_One_within x4 (1 : Int32) (10000 : Int32)) (fun (r_4 : Int32) => (if r_4 = 0 then some ((-1 : Int32), P2, P3) else mb_bd1 (f_One_within x5 (0 : Int32) (3 : Int32)) (fun (r_5 : Int32) => (if r_5 = 0 then some ((-1 : Int32), P2, P3) else mb_bd1 (f_Units_alike P1 x1 x2) (fun (r_6 : Int32) => (if r_6 = 0 then some ((-2 : Int32), P2, P3) else mb_bd1 (f_Tables_put P2 x1 x2 x3 x4 x5) (fun (P2_7 : PI) => mb_bd1 (f_Ways_forget P3) (fun (P3_8 : PI) => some ((0 : Int32), P2_7, P3_8))))))))))))))))
def rm_One_table : Room := { frames := 2, cells := 0, slots := 0, locals := 46 }
set_option maxHeartbeats 4000000 in
set_option maxRecDepth 100000 in
theorem c_One_table (l : Launch) (D : va_G) (k : Nat → ClassId) (sz : Nat) (a0 : Nat → Nat → Nat) (P0 : PI) (P1 : PI) (P2 : PI) (P3 : PI) (L3 : PL) (x1 : Int32) (x2 : Int32) (x3 : Int32) (x4 : Int32) (x5 : Int32) (z : Int32 × PI × PI) (hf : f_One_table P1 P2 P3 x1 x2 x3 x4 x5 = some z) : Met l yX11_table wsX11_table rm_One_table (va_Pc [.ref (a0 0 0), .int x1, .int x2, .int x3, .int x4, .int x5] (gw_pre D vwCl (tyL k) (wC_One k a0 P0 ++ (wC_Units k (a0 1) P1 ++ (wC_Tables k (a0 2) P2 ++ (wC_Ways k (a0 3) P3 L3)))) sz)) (va_Qi (fun (r : Int32) (_ : Unit) => r = z.1) (gw_b D vwCl (tyL k) (va_A (wC_One k a0 P0 ++ (wC_Units k (a0 1) P1 ++ (wC_Tables k (a0 2) P2 ++ (wC_Ways k (a0 3) P3 L3)))) sz) (wC_One k a0 P0 ++ (wC_Units k (a0 1) P1 ++ (wC_Tables k (a0 2) z.2.1 ++ (wC_Ways k (a0 3) z.2.2 L3))))) (va_A (wC_One k a0 P0 ++ (wC_Units k (a0 1) P1 ++ (wC_Tables k (a0 2) P2 ++ (wC_Ways k (a0 3) P3 L3)))) sz)) 0 0 (va_A (wC_One k a0 P0 ++ (wC_Units k (a0 1) P1 ++ (wC_Tables k (a0 2) P2 ++ (wC_Ways k (a0 3) P3 L3)))) sz) := by
  refine gm_i (cc := cX11_table) (maxL := 6) (by decide) rfl (Nat.le_of_ble_eq_true rfl) ?_
  intro p e s m args below meth c A Q ls H locs hx hb hml hown hts hK hN hA hP hD hS hl hret
  have hown : s.vm.findClass RX11 = some m.cls := hown
  have hl : lv_has ls 6 [(0, .ref (a0 0 0)), (1, .int x1), (2, .int x2), (3, .int x3), (4, .int x4), (5, .int x5)] := hl
  have iw_One : ∀ w ∈ u_ws RX11 TX11 16, w ∈ wsX11_table := by decide +kernel
  have fl_10 := hts (.fieldLink RX11 10 "OneMeasure" "units" "LOneMeasure$Units;") (by decide +kernel)
  have fl_19 := hts (.fieldLink RX11 19 "OneMeasure" "tables" "LOneMeasure$Tables;") (by decide +kernel)
  have fl_26 := hts (.fieldLink RX11 26 "OneMeasure" "ways" "LOneMeasure$Ways;") (by decide +kernel)
  unfold f_One_table at hf
  refine lv_aload_n hx hb dX11_table_0 rfl (lv_at hl 0 rfl) ?_
  refine va_get (D := D) (ci := 11) (v := .ref (a0 1 0)) (C := RX11) (T := TX11) (N := 16) hx hb hts iw_One hown hK hP 0 rfl rfl 0 (by decide) fl_10 (fun _ h9 => h9) rfl dX11_table_1 ?_
  refine lv_iload_n hx hb dX11_table_4 rfl (lv_at hl 1 rfl) ?_
  obtain ⟨r_1, hz, hf⟩ := mb_bd1_s hf
  refine gc_i (r0 := r_1) (ws' := (wC_One k a0 P0 ++ (wC_Units k (a0 1) P1 ++ (wC_Tables k (a0 2) P2 ++ (wC_Ways k (a0 3) P3 L3))))) (wr := (wC_One k a0 P0 ++ (wC_Tables k (a0 2) P2 ++ (wC_Ways k (a0 3) P3 L3)))) (va_runV (As := [.int x1]) (rest := []) ⟨hx, hb, hml, hown, hts⟩ (c_Units_told l D k H.size (a0 1) P1 x1 r_1 hz) (cwV 1 hts gX11_table_X9_told rfl rfl rfl (by decide +kernel) ⟨Nat.le_of_ble_eq_true rfl, Nat.le_of_ble_eq_true rfl⟩) (gp_V (ci := 9) (q0 := 0) (q := (RX9, TX9, 4)) hP hD hK hN [4, 5, 6, 7] (by decide +kernel) rfl rfl rfl) rfl rfl hl.1 rfl (lv_room (Nat.le_of_ble_eq_true rfl)) dX11_table_5 ⟨Nat.zero_le _, Nat.zero_le _⟩) hP hD hS hA [4, 5, 6, 7] [0, 1, 2, 3, 8, 9, 10, 11, 12, 13, 14] rfl rfl (by decide +kernel) (by decide +kernel) [0, 1, 2, 3, 11, 12, 13, 14, 4, 5, 6, 7, 8, 9, 10] (by decide +kernel) rfl (fun H locs hP hD hS => ?_)
  clear hz
  refine lv_if_eq (tgt := 27) hx hb dX11_table_8 (by decide) (fun c_15 => ?_) (fun c_15 => ?_)
  · have hf := mb_if_t c_15 hf
    refine lv_iconst (v := (-1)) hx hb dX11_table_27 (by decide) ?_
    have hz := Option.some.inj hf
    subst hz
    exact hret _ _ _ _ dX11_table_28 hP hD hS
  · have hf := mb_if_f c_15 hf
    refine lv_aload_n hx hb dX11_table_11 rfl (lv_at hl 0 rfl) ?_
    refine va_get (D := D) (ci := 11) (v := .ref (a0 1 0)) (C := RX11) (T := TX11) (N := 16) hx hb hts iw_One hown hK hP 0 rfl rfl 0 (by decide) fl_10 (fun _ h9 => h9) rfl dX11_table_12 ?_
    refine lv_iload_n hx hb dX11_table_15 rfl (lv_at hl 2 rfl) ?_
    obtain ⟨r_2, hz, hf⟩ := mb_bd1_s hf
    refine gc_i (r0 := r_2) (ws' := (wC_One k a0 P0 ++ (wC_Units k (a0 1) P1 ++ (wC_Tables k (a0 2) P2 ++ (wC_Ways k (a0 3) P3 L3))))) (wr := (wC_One k a0 P0 ++ (wC_Tables k (a0 2) P2 ++ (wC_Ways k (a0 3) P3 L3)))) (va_runV (As := [.int x2]) (rest := []) ⟨hx, hb, hml, hown, hts⟩ (c_Units_told l D k H.size (a0 1) P1 x2 r_2 hz) (cwV 1 hts gX11_table_X9_told rfl rfl rfl (by decide +kernel) ⟨Nat.le_of_ble_eq_true rfl, Nat.le_of_ble_eq_true rfl⟩) (gp_V (ci := 9) (q0 := 0) (q := (RX9, TX9, 4)) hP hD hK hN [4, 5, 6, 7] (by decide +kernel) rfl rfl rfl) rfl rfl hl.1 rfl (lv_room (Nat.le_of_ble_eq_true rfl)) dX11_table_16 ⟨Nat.zero_le _, Nat.zero_le _⟩) hP hD hS hA [4, 5, 6, 7] [0, 1, 2, 3, 8, 9, 10, 11, 12, 13, 14] rfl rfl (by decide +kernel) (by decide +kernel) [0, 1, 2, 3, 11, 12, 13, 14, 4, 5, 6, 7, 8, 9, 10] (by decide +kernel) rfl (fun H locs hP hD hS => ?_)
    clear hz
    refine lv_if_eq (tgt := 27) hx hb dX11_table_19 (by decide) (fun c_14 => ?_) (fun c_14 => ?_)
    · have hf := mb_if_t c_14 hf
      refine lv_iconst (v := (-1)) hx hb dX11_table_27 (by decide) ?_
      have hz := Option.some.inj hf
      subst hz
      exact hret _ _ _ _ dX11_table_28 hP hD hS
    · have hf := mb_if_f c_14 hf
      refine lv_iload_n hx hb dX11_table_22 rfl (lv_at hl 1 rfl) ?_
      refine lv_iload_n hx hb dX11_table_23 rfl (lv_at hl 2 rfl) ?_
      refine lv_icmp_ne (tgt := 29) hx hb dX11_table_24 (by decide) (fun c_13 => ?_) (fun c_13 => ?_)
      · have hf := mb_if_f c_13 hf
        refine lv_iload_n hx hb dX11_table_29 rfl (lv_at hl 3 rfl) ?_
        refine lv_iconst (v := 1) hx hb dX11_table_30 (by decide) ?_
        refine lv_sipush (v := 10000) hx hb dX11_table_31 (by decide) ?_
        obtain ⟨r_3, hz, hf⟩ := mb_bd1_s hf
        refine gc_i (r0 := r_3) (ws' := (wC_One k a0 P0 ++ (wC_Units k (a0 1) P1 ++ (wC_Tables k (a0 2) P2 ++ (wC_Ways k (a0 3) P3 L3))))) (wr := (wC_One k a0 P0 ++ (wC_Units k (a0 1) P1 ++ (wC_Tables k (a0 2) P2 ++ (wC_Ways k (a0 3) P3 L3))))) (va_runS (As := [.int x3, .int (1 : Int32), .int (10000 : Int32)]) (rest := []) ⟨hx, hb, hml, hown, hts⟩ (c_One_within l D k H.size x3 (1 : Int32) (10000 : Int32) r_3 hz) (cwS 3 hts gX11_table_X11_within rfl rfl rfl (by decide +kernel) ⟨Nat.le_of_ble_eq_true rfl, Nat.le_of_ble_eq_true rfl⟩) (gp_S hP hD hK hN [] (by decide +kernel) rfl) rfl rfl hl.1 rfl (lv_room (Nat.le_of_ble_eq_true rfl)) dX11_table_34 ⟨Nat.zero_le _, Nat.zero_le _⟩) hP hD hS hA [] [0, 1, 2, 3, 4, 5, 6, 7, 8, 9, 10, 11, 12, 13, 14] rfl rfl (by decide +kernel) (by decide +kernel) [0, 1, 2, 3, 4, 5, 6, 7, 8, 9, 10, 11, 12, 13, 14] (by decide +kernel) rfl (fun H locs hP hD hS => ?_)
        clear hz
        refine lv_if_eq (tgt := 62) hx hb dX11_table_37 (by decide) (fun c_12 => ?_) (fun c_12 => ?_)
        · have hf := mb_if_t c_12 hf
          refine lv_iconst (v := (-1)) hx hb dX11_table_62 (by decide) ?_
          have hz := Option.some.inj hf
          subst hz
          exact hret _ _ _ _ dX11_table_63 hP hD hS
        · have hf := mb_if_f c_12 hf
          refine lv_iload hx hb dX11_table_40 (lv_at hl 4 rfl) ?_
          refine lv_iconst (v := 1) hx hb dX11_table_42 (by decide) ?_
          refine lv_sipush (v := 10000) hx hb dX11_table_43 (by decide) ?_
          obtain ⟨r_4, hz, hf⟩ := mb_bd1_s hf
          refine gc_i (r0 := r_4) (ws' := (wC_One k a0 P0 ++ (wC_Units k (a0 1) P1 ++ (wC_Tables k (a0 2) P2 ++ (wC_Ways k (a0 3) P3 L3))))) (wr := (wC_One k a0 P0 ++ (wC_Units k (a0 1) P1 ++ (wC_Tables k (a0 2) P2 ++ (wC_Ways k (a0 3) P3 L3))))) (va_runS (As := [.int x4, .int (1 : Int32), .int (10000 : Int32)]) (rest := []) ⟨hx, hb, hml, hown, hts⟩ (c_One_within l D k H.size x4 (1 : Int32) (10000 : Int32) r_4 hz) (cwS 3 hts gX11_table_X11_within rfl rfl rfl (by decide +kernel) ⟨Nat.le_of_ble_eq_true rfl, Nat.le_of_ble_eq_true rfl⟩) (gp_S hP hD hK hN [] (by decide +kernel) rfl) rfl rfl hl.1 rfl (lv_room (Nat.le_of_ble_eq_true rfl)) dX11_table_46 ⟨Nat.zero_le _, Nat.zero_le _⟩) hP hD hS hA [] [0, 1, 2, 3, 4, 5, 6, 7, 8, 9, 10, 11, 12, 13, 14] rfl rfl (by decide +kernel) (by decide +kernel) [0, 1, 2, 3, 4, 5, 6, 7, 8, 9, 10, 11, 12, 13, 14] (by decide +kernel) rfl (fun H locs hP hD hS => ?_)
          clear hz
          refine lv_if_eq (tgt := 62) hx hb dX11_table_49 (by decide) (fun c_11 => ?_) (fun c_11 => ?_)
          · have hf := mb_if_t c_11 hf
            refine lv_iconst (v := (-1)) hx hb dX11_table_62 (by decide) ?_
            have hz := Option.some.inj hf
            subst hz
            exact hret _ _ _ _ dX11_table_63 hP hD hS
          · have hf := mb_if_f c_11 hf
            refine lv_iload hx hb dX11_table_52 (lv_at hl 5 rfl) ?_
            refine lv_iconst (v := 0) hx hb dX11_table_54 (by decide) ?_
            refine lv_iconst (v := 3) hx hb dX11_table_55 (by decide) ?_
            obtain ⟨r_5, hz, hf⟩ := mb_bd1_s hf
            refine gc_i (r0 := r_5) (ws' := (wC_One k a0 P0 ++ (wC_Units k (a0 1) P1 ++ (wC_Tables k (a0 2) P2 ++ (wC_Ways k (a0 3) P3 L3))))) (wr := (wC_One k a0 P0 ++ (wC_Units k (a0 1) P1 ++ (wC_Tables k (a0 2) P2 ++ (wC_Ways k (a0 3) P3 L3))))) (va_runS (As := [.int x5, .int (0 : Int32), .int (3 : Int32)]) (rest := []) ⟨hx, hb, hml, hown, hts⟩ (c_One_within l D k H.size x5 (0 : Int32) (3 : Int32) r_5 hz) (cwS 3 hts gX11_table_X11_within rfl rfl rfl (by decide +kernel) ⟨Nat.le_of_ble_eq_true rfl, Nat.le_of_ble_eq_true rfl⟩) (gp_S hP hD hK hN [] (by decide +kernel) rfl) rfl rfl hl.1 rfl (lv_room (Nat.le_of_ble_eq_true rfl)) dX11_table_56 ⟨Nat.zero_le _, Nat.zero_le _⟩) hP hD hS hA [] [0, 1, 2, 3, 4, 5, 6, 7, 8, 9, 10, 11, 12, 13, 14] rfl rfl (by decide +kernel) (by decide +kernel) [0, 1, 2, 3, 4, 5, 6, 7, 8, 9, 10, 11, 12, 13, 14] (by decide +kernel) rfl (fun H locs hP hD hS => ?_)
            clear hz
            refine lv_if_ne (tgt := 64) hx hb dX11_table_59 (by decide) (fun c_10 => ?_) (fun c_10 => ?_)
            · have hf := mb_if_f c_10 hf
              refine lv_aload_n hx hb dX11_table_64 rfl (lv_at hl 0 rfl) ?_
              refine va_get (D := D) (ci := 11) (v := .ref (a0 1 0)) (C := RX11) (T := TX11) (N := 16) hx hb hts iw_One hown hK hP 0 rfl rfl 0 (by decide) fl_10 (fun _ h9 => h9) rfl dX11_table_65 ?_
              refine lv_iload_n hx hb dX11_table_68 rfl (lv_at hl 1 rfl) ?_
              refine lv_iload_n hx hb dX11_table_69 rfl (lv_at hl 2 rfl) ?_
              obtain ⟨r_6, hz, hf⟩ := mb_bd1_s hf
              refine gc_i (r0 := r_6) (ws' := (wC_One k a0 P0 ++ (wC_Units k (a0 1) P1 ++ (wC_Tables k (a0 2) P2 ++ (wC_Ways k (a0 3) P3 L3))))) (wr := (wC_One k a0 P0 ++ (wC_Tables k (a0 2) P2 ++ (wC_Ways k (a0 3) P3 L3)))) (va_runV (As := [.int x1, .int x2]) (rest := []) ⟨hx, hb, hml, hown, hts⟩ (c_Units_alike l D k H.size (a0 1) P1 x1 x2 r_6 hz) (cwV 2 hts gX11_table_X9_alike rfl rfl rfl (by decide +kernel) ⟨Nat.le_of_ble_eq_true rfl, Nat.le_of_ble_eq_true rfl⟩) (gp_V (ci := 9) (q0 := 0) (q := (RX9, TX9, 4)) hP hD hK hN [4, 5, 6, 7] (by decide +kernel) rfl rfl rfl) rfl rfl hl.1 rfl (lv_room (Nat.le_of_ble_eq_true rfl)) dX11_table_70 ⟨Nat.zero_le _, Nat.zero_le _⟩) hP hD hS hA [4, 5, 6, 7] [0, 1, 2, 3, 8, 9, 10, 11, 12, 13, 14] rfl rfl (by decide +kernel) (by decide +kernel) [0, 1, 2, 3, 11, 12, 13, 14, 4, 5, 6, 7, 8, 9, 10] (by decide +kernel) rfl (fun H locs hP hD hS => ?_)
              clear hz
              refine lv_if_ne (tgt := 79) hx hb dX11_table_73 (by decide) (fun c_9 => ?_) (fun c_9 => ?_)
              · have hf := mb_if_f c_9 hf
                refine lv_aload_n hx hb dX11_table_79 rfl (lv_at hl 0 rfl) ?_
                refine va_get (D := D) (ci := 11) (v := .ref (a0 2 0)) (C := RX11) (T := TX11) (N := 16) hx hb hts iw_One hown hK hP 0 rfl rfl 1 (by decide) fl_19 (fun _ h9 => h9) rfl dX11_table_80 ?_
                refine lv_iload_n hx hb dX11_table_83 rfl (lv_at hl 1 rfl) ?_
                refine lv_iload_n hx hb dX11_table_84 rfl (lv_at hl 2 rfl) ?_
                refine lv_iload_n hx hb dX11_table_85 rfl (lv_at hl 3 rfl) ?_
                refine lv_iload hx hb dX11_table_86 (lv_at hl 4 rfl) ?_
                refine lv_iload hx hb dX11_table_88 (lv_at hl 5 rfl) ?_
                obtain ⟨P2_7, hz, hf⟩ := mb_bd1_s hf
                refine gc_v (ws' := (wC_One k a0 P0 ++ (wC_Units k (a0 1) P1 ++ (wC_Tables k (a0 2) P2_7 ++ (wC_Ways k (a0 3) P3 L3))))) (wr := (wC_One k a0 P0 ++ (wC_Units k (a0 1) P1 ++ (wC_Ways k (a0 3) P3 L3)))) (va_runV (As := [.int x1, .int x2, .int x3, .int x4, .int x5]) (rest := []) ⟨hx, hb, hml, hown, hts⟩ (c_Tables_put l D k H.size (a0 2) P2 x1 x2 x3 x4 x5 P2_7 hz) (cwV 5 hts gX11_table_X6_put rfl rfl rfl (by decide +kernel) ⟨Nat.le_of_ble_eq_true rfl, Nat.le_of_ble_eq_true rfl⟩) (gp_V (ci := 6) (q0 := 0) (q := (RX6, TX6, 4)) hP hD hK hN [8, 9, 10, 11] (by decide +kernel) rfl rfl rfl) rfl rfl hl.1 rfl (lv_room (Nat.le_of_ble_eq_true rfl)) dX11_table_90 ⟨Nat.zero_le _, Nat.zero_le _⟩) hP hD hS hA [8, 9, 10, 11] [0, 1, 2, 3, 4, 5, 6, 7, 12, 13, 14] rfl rfl (by decide +kernel) (by decide +kernel) [0, 1, 2, 3, 4, 5, 6, 7, 11, 12, 13, 14, 8, 9, 10] (by decide +kernel) rfl (fun H locs hP hD hS => ?_)
                clear hz
                refine lv_aload_n hx hb dX11_table_93 rfl (lv_at hl 0 rfl) ?_
                refine va_get (D := D) (ci := 11) (v := .ref (a0 3 0)) (C := RX11) (T := TX11) (N := 16) hx hb hts iw_One hown hK hP 0 rfl rfl 2 (by decide) fl_26 (fun _ h9 => h9) rfl dX11_table_94 ?_
                obtain ⟨P3_8, hz, hf⟩ := mb_bd1_s hf
                refine gc_v (ws' := (wC_One k a0 P0 ++ (wC_Units k (a0 1) P1 ++ (wC_Tables k (a0 2) P2_7 ++ (wC_Ways k (a0 3) P3_8 L3))))) (wr := (wC_One k a0 P0 ++ (wC_Units k (a0 1) P1 ++ (wC_Tables k (a0 2) P2_7)))) (va_runV (As := []) (rest := []) ⟨hx, hb, hml, hown, hts⟩ (c_Ways_forget l D k H.size (a0 3) P3 L3 P3_8 hz) (cwV 0 hts gX11_table_X10_forget rfl rfl rfl (by decide +kernel) ⟨Nat.le_of_ble_eq_true rfl, Nat.le_of_ble_eq_true rfl⟩) (gp_V (ci := 10) (q0 := 0) (q := (RX10, TX10, 5)) hP hD hK hN [12, 13, 14] (by decide +kernel) rfl rfl rfl) rfl rfl hl.1 rfl (lv_room (Nat.le_of_ble_eq_true rfl)) dX11_table_97 ⟨Nat.zero_le _, Nat.zero_le _⟩) hP hD hS hA [12, 13, 14] [0, 1, 2, 3, 4, 5, 6, 7, 8, 9, 10, 11] rfl rfl (by decide +kernel) (by decide +kernel) [0, 1, 2, 3, 4, 5, 6, 7, 8, 9, 10, 11, 12, 13, 14] (by decide +kernel) rfl (fun H locs hP hD hS => ?_)
                clear hz
                refine lv_iconst (v := 0) hx hb dX11_table_100 (by decide) ?_
                have hz := Option.some.inj hf
                subst hz
                exact hret _ _ _ _ dX11_table_101 hP hD hS
              · have hf := mb_if_t c_9 hf
                refine lv_bipush (v := (-2)) hx hb dX11_table_76 (by decide) ?_
                have hz := Option.some.inj hf
                subst hz
                exact hret _ _ _ _ dX11_table_78 hP hD hS
            · have hf := mb_if_t c_10 hf
              refine lv_iconst (v := (-1)) hx hb dX11_table_62 (by decide) ?_
              have hz := Option.some.inj hf
              subst hz
              exact hret _ _ _ _ dX11_table_63 hP hD hS
      · have hf := mb_if_t c_13 hf
        refine lv_iconst (v := (-1)) hx hb dX11_table_27 (by decide) ?_
        have hz := Option.some.inj hf
        subst hz
        exact hret _ _ _ _ dX11_table_28 hP hD hS
def f_Tables_has (P0 : PI) (x1 : Int32) (x2 : Int32) : Option (Int32) := mb_chk ((x1 * (16 : Int32)) + x2) 256 ((if (P0 2 ((x1 * (16 : Int32)) + x2).toNatClampNeg) ≤ 0 then some (0 : Int32) else some (1 : Int32)))
def rm_Tables_has : Room := { frames := 0, cells := 0, slots := 0, locals := 0 }
set_option maxHeartbeats 4000000 in
set_option maxRecDepth 100000 in
theorem c_Tables_has (l : Launch) (D : va_G) (k : Nat → ClassId) (sz : Nat) (b0 : Nat → Nat) (P0 : PI) (x1 : Int32) (x2 : Int32) (z : Int32) (hf : f_Tables_has P0 x1 x2 = some z) : Met l yX6_has wsX6_has rm_Tables_has (va_Pc [.ref (b0 0), .int x1, .int x2] (gw_pre D vwCl (tyL k) (wC_Tables k b0 P0) sz)) (va_Qi (fun (r : Int32) (_ : Unit) => r = z) (gw_b D vwCl (tyL k) (va_A (wC_Tables k b0 P0) sz) (wC_Tables k b0 P0)) (va_A (wC_Tables k b0 P0) sz)) 0 0 (va_A (wC_Tables k b0 P0) sz) := by
  refine gm_z (cc := cX6_has) (maxL := 3) (by decide) rfl (Nat.le_of_ble_eq_true rfl) ?_
  intro p e s m args below meth c A Q ls H locs hx hb hml hown hts hK hN hA hP hD hS hl hret
  have hown : s.vm.findClass RX6 = some m.cls := hown
  have hl : lv_has ls 3 [(0, .ref (b0 0)), (1, .int x1), (2, .int x2)] := hl
  have iw_Tables : ∀ w ∈ u_ws RX6 TX6 4, w ∈ wsX6_has := by decide +kernel
  have fl_15 := hts (.fieldLink RX6 15 "OneMeasure$Tables" "by" "[I") (by decide +kernel)
  unfold f_Tables_has at hf
  refine lv_aload_n hx hb dX6_has_0 rfl (lv_at hl 0 rfl) ?_
  refine va_get (D := D) (ci := 6) (v := .ref (b0 2)) (C := RX6) (T := TX6) (N := 4) hx hb hts iw_Tables hown hK hP 0 rfl rfl 1 (by decide) fl_15 (fun _ h9 => h9) rfl dX6_has_1 ?_
  refine lv_iload_n hx hb dX6_has_4 rfl (lv_at hl 1 rfl) ?_
  refine lv_bipush (v := 16) hx hb dX6_has_5 (by decide) ?_
  refine lv_imul hx hb dX6_has_7 ?_
  refine lv_iload_n hx hb dX6_has_8 rfl (lv_at hl 2 rfl) ?_
  refine lv_iadd hx hb dX6_has_9 ?_
  obtain ⟨h_1, hf⟩ := mb_chk_s hf
  refine va_iald hx hb hK hP 2 0 rfl rfl h_1 dX6_has_10 ?_
  refine lv_if_le (tgt := 18) hx hb dX6_has_11 (by decide) (fun c_2 => ?_) (fun c_2 => ?_)
  · have hf := mb_if_t c_2 hf
    refine lv_iconst (v := 0) hx hb dX6_has_18 (by decide) ?_
    have hz := Option.some.inj hf
    subst hz
    exact hret _ _ _ _ mb_n0 dX6_has_19 hP hD hS
  · have hf := mb_if_f c_2 hf
    refine lv_iconst (v := 1) hx hb dX6_has_14 (by decide) ?_
    refine lv_goto (tgt := 19) hx hb dX6_has_15 (by decide) ?_
    have hz := Option.some.inj hf
    subst hz
    exact hret _ _ _ _ mb_n1 dX6_has_19 hP hD hS
def f_Tables_turned (P0 : PI) (x1 : Int32) (x2 : Int32) (x3 : Int64) : Option (Int64) := mb_let ((x1 * (16 : Int32)) + x2) (fun (x5_1 : Int32) => mb_chk x5_1 256 ((if (P0 2 x5_1.toNatClampNeg) < (1 : Int32) then some (0 : Int64) else mb_chk x5_1 256 ((if (1 : Int32) ≤ (P0 3 x5_1.toNatClampNeg) then mb_chk x5_1 256 (mb_chk x5_1 256 (mb_dvl ((P0 2 x5_1.toNatClampNeg)).toInt64 (mb_let ((x3 * ((P0 1 x5_1.toNatClampNeg)).toInt64) / ((P0 2 x5_1.toNatClampNeg)).toInt64) (fun (x6_7 : Int64) => mb_chk x5_1 256 (mb_dvl ((P0 3 x5_1.toNatClampNeg)).toInt64 (some (x6_7 - (x6_7 - x6_7 / ((P0 3 x5_1.toNatClampNeg)).toInt64 * ((P0 3 x5_1.toNatClampNeg)).toInt64)))))))) else some (0 : Int64))))))
def rm_Tables_turned : Room := { frames := 0, cells := 0, slots := 0, locals := 0 }
set_option maxHeartbeats 4000000 in
set_option maxRecDepth 100000 in
theorem c_Tables_turned (l : Launch) (D : va_G) (k : Nat → ClassId) (sz : Nat) (b0 : Nat → Nat) (P0 : PI) (x1 : Int32) (x2 : Int32) (x3 : Int64) (z : Int64) (hf : f_Tables_turned P0 x1 x2 x3 = some z) : Met l yX6_turned wsX6_turned rm_Tables_turned (va_Pc [.ref (b0 0), .int x1, .int x2, .long x3] (gw_pre D vwCl (tyL k) (wC_Tables k b0 P0) sz)) (va_Ql (fun (r : Int64) (_ : Unit) => r = z) (gw_b D vwCl (tyL k) (va_A (wC_Tables k b0 P0) sz) (wC_Tables k b0 P0)) (va_A (wC_Tables k b0 P0) sz)) 0 0 (va_A (wC_Tables k b0 P0) sz) := by
  refine gm_l (cc := cX6_turned) (maxL := 8) (by decide) rfl (Nat.le_of_ble_eq_true rfl) ?_
  intro p e s m args below meth c A Q ls H locs hx hb hml hown hts hK hN hA hP hD hS hl hret
  have hown : s.vm.findClass RX6 = some m.cls := hown
  have hl : lv_has ls 8 [(0, .ref (b0 0)), (1, .int x1), (2, .int x2), (3, .long x3)] := hl
  have iw_Tables : ∀ w ∈ u_ws RX6 TX6 4, w ∈ wsX6_turned := by decide +kernel
  have fl_9 := hts (.fieldLink RX6 9 "OneMeasure$Tables" "times" "[I") (by decide +kernel)
  have fl_15 := hts (.fieldLink RX6 15 "OneMeasure$Tables" "by" "[I") (by decide +kernel)
  have fl_18 := hts (.fieldLink RX6 18 "OneMeasure$Tables" "grain" "[I") (by decide +kernel)
  unfold f_Tables_turned at hf
  refine lv_iload_n hx hb dX6_turned_0 rfl (lv_at hl 1 rfl) ?_
  refine lv_bipush (v := 16) hx hb dX6_turned_1 (by decide) ?_
  refine lv_imul hx hb dX6_turned_3 ?_
  refine lv_iload_n hx hb dX6_turned_4 rfl (lv_at hl 2 rfl) ?_
  refine lv_iadd hx hb dX6_turned_5 ?_
  obtain ⟨x5_1, e_, hf⟩ := mb_let_s hf
  refine mb_topi e_ ?_
  clear e_
  refine lv_istore (lv' := [(5, .int x5_1), (0, .ref (b0 0)), (1, .int x1), (2, .int x2), (3, .long x3)]) hx hb dX6_turned_6 hl (by decide) rfl (fun ls hl => ?_)
  refine lv_aload_n hx hb dX6_turned_8 rfl (lv_at hl 1 rfl) ?_
  refine va_get (D := D) (ci := 6) (v := .ref (b0 2)) (C := RX6) (T := TX6) (N := 4) hx hb hts iw_Tables hown hK hP 0 rfl rfl 1 (by decide) fl_15 (fun _ h9 => h9) rfl dX6_turned_9 ?_
  refine lv_iload hx hb dX6_turned_12 (lv_at hl 0 rfl) ?_
  obtain ⟨h_2, hf⟩ := mb_chk_s hf
  refine va_iald hx hb hK hP 2 0 rfl rfl h_2 dX6_turned_14 ?_
  refine lv_iconst (v := 1) hx hb dX6_turned_15 (by decide) ?_
  refine lv_icmp_lt (tgt := 30) hx hb dX6_turned_16 (by decide) (fun c_11 => ?_) (fun c_11 => ?_)
  · have hf := mb_if_t c_11 hf
    refine lv_lconst (v := 0) hx hb dX6_turned_30 (by decide) ?_
    have hz := Option.some.inj hf
    subst hz
    exact hret _ _ _ _ dX6_turned_31 hP hD hS
  · have hf := mb_if_f c_11 hf
    refine lv_aload_n hx hb dX6_turned_19 rfl (lv_at hl 1 rfl) ?_
    refine va_get (D := D) (ci := 6) (v := .ref (b0 3)) (C := RX6) (T := TX6) (N := 4) hx hb hts iw_Tables hown hK hP 0 rfl rfl 2 (by decide) fl_18 (fun _ h9 => h9) rfl dX6_turned_20 ?_
    refine lv_iload hx hb dX6_turned_23 (lv_at hl 0 rfl) ?_
    obtain ⟨h_3, hf⟩ := mb_chk_s hf
    refine va_iald hx hb hK hP 3 0 rfl rfl h_3 dX6_turned_25 ?_
    refine lv_iconst (v := 1) hx hb dX6_turned_26 (by decide) ?_
    refine lv_icmp_ge (tgt := 32) hx hb dX6_turned_27 (by decide) (fun c_10 => ?_) (fun c_10 => ?_)
    · have hf := mb_if_t c_10 hf
      refine lv_lload_n hx hb dX6_turned_32 rfl (lv_at hl 4 rfl) ?_
      refine lv_aload_n hx hb dX6_turned_33 rfl (lv_at hl 1 rfl) ?_
      refine va_get (D := D) (ci := 6) (v := .ref (b0 1)) (C := RX6) (T := TX6) (N := 4) hx hb hts iw_Tables hown hK hP 0 rfl rfl 0 (by decide) fl_9 (fun _ h9 => h9) rfl dX6_turned_34 ?_
      refine lv_iload hx hb dX6_turned_37 (lv_at hl 0 rfl) ?_
      obtain ⟨h_4, hf⟩ := mb_chk_s hf
      refine va_iald hx hb hK hP 1 0 rfl rfl h_4 dX6_turned_39 ?_
      refine lv_i2l hx hb dX6_turned_40 rfl ?_
      refine lv_lmul hx hb dX6_turned_41 ?_
      refine lv_aload_n hx hb dX6_turned_42 rfl (lv_at hl 1 rfl) ?_
      refine va_get (D := D) (ci := 6) (v := .ref (b0 2)) (C := RX6) (T := TX6) (N := 4) hx hb hts iw_Tables hown hK hP 0 rfl rfl 1 (by decide) fl_15 (fun _ h9 => h9) rfl dX6_turned_43 ?_
      refine lv_iload hx hb dX6_turned_46 (lv_at hl 0 rfl) ?_
      obtain ⟨h_5, hf⟩ := mb_chk_s hf
      refine va_iald hx hb hK hP 2 0 rfl rfl h_5 dX6_turned_48 ?_
      refine lv_i2l hx hb dX6_turned_49 rfl ?_
      obtain ⟨h_6, hf⟩ := mb_dvl_s hf
      refine lv_ldiv hx hb dX6_turned_50 h_6 ?_
      obtain ⟨x6_7, e_, hf⟩ := mb_let_s hf
      refine mb_topl e_ ?_
      clear e_
      refine lv_lstore (lv' := [(6, .long x6_7), (5, .int x5_1), (0, .ref (b0 0)), (1, .int x1), (2, .int x2), (3, .long x3)]) hx hb dX6_turned_51 hl (by decide) rfl (fun ls hl => ?_)
      refine lv_lload hx hb dX6_turned_53 (lv_at hl 0 rfl) ?_
      refine lv_lload hx hb dX6_turned_55 (lv_at hl 0 rfl) ?_
      refine lv_aload_n hx hb dX6_turned_57 rfl (lv_at hl 2 rfl) ?_
      refine va_get (D := D) (ci := 6) (v := .ref (b0 3)) (C := RX6) (T := TX6) (N := 4) hx hb hts iw_Tables hown hK hP 0 rfl rfl 2 (by decide) fl_18 (fun _ h9 => h9) rfl dX6_turned_58 ?_
      refine lv_iload hx hb dX6_turned_61 (lv_at hl 1 rfl) ?_
      obtain ⟨h_8, hf⟩ := mb_chk_s hf
      refine va_iald hx hb hK hP 3 0 rfl rfl h_8 dX6_turned_63 ?_
      refine lv_i2l hx hb dX6_turned_64 rfl ?_
      obtain ⟨h_9, hf⟩ := mb_dvl_s hf
      refine lv_lrem hx hb dX6_turned_65 h_9 ?_
      refine lv_lsub hx hb dX6_turned_66 ?_
      have hz := Option.some.inj hf
      subst hz
      exact hret _ _ _ _ dX6_turned_67 hP hD hS
    · have hf := mb_if_f c_10 hf
      refine lv_lconst (v := 0) hx hb dX6_turned_30 (by decide) ?_
      have hz := Option.some.inj hf
      subst hz
      exact hret _ _ _ _ dX6_turned_31 hP hD hS
def f_One_turn (P1 : PI) (P2 : PI) (x1 : Int32) (x2 : Int32) (x3 : Int32) : Option (Int64) := mb_bd1 (f_Units_told P1 x1) (fun (r_1 : Int32) => (if r_1 = 0 then some (-1 : Int64) else mb_bd1 (f_Units_told P1 x2) (fun (r_2 : Int32) => (if r_2 = 0 then some (-1 : Int64) else mb_bd1 (f_One_within x3 (0 : Int32) (1000000000 : Int32)) (fun (r_3 : Int32) => (if r_3 = 0 then some (-1 : Int64) else mb_bd1 (f_Tables_has P2 x1 x2) (fun (r_4 : Int32) => (if r_4 = 0 then some (-2 : Int64) else mb_bd1 (f_Tables_turned P2 x1 x2 ((x3).toInt64)) (fun (r_5 : Int64) => some r_5)))))))))
def rm_One_turn : Room := { frames := 1, cells := 0, slots := 0, locals := 27 }
set_option maxHeartbeats 4000000 in
set_option maxRecDepth 100000 in
theorem c_One_turn (l : Launch) (D : va_G) (k : Nat → ClassId) (sz : Nat) (a0 : Nat → Nat → Nat) (P0 : PI) (P1 : PI) (P2 : PI) (x1 : Int32) (x2 : Int32) (x3 : Int32) (z : Int64) (hf : f_One_turn P1 P2 x1 x2 x3 = some z) : Met l yX11_turn wsX11_turn rm_One_turn (va_Pc [.ref (a0 0 0), .int x1, .int x2, .int x3] (gw_pre D vwCl (tyL k) (wC_One k a0 P0 ++ (wC_Units k (a0 1) P1 ++ (wC_Tables k (a0 2) P2))) sz)) (va_Ql (fun (r : Int64) (_ : Unit) => r = z) (gw_b D vwCl (tyL k) (va_A (wC_One k a0 P0 ++ (wC_Units k (a0 1) P1 ++ (wC_Tables k (a0 2) P2))) sz) (wC_One k a0 P0 ++ (wC_Units k (a0 1) P1 ++ (wC_Tables k (a0 2) P2)))) (va_A (wC_One k a0 P0 ++ (wC_Units k (a0 1) P1 ++ (wC_Tables k (a0 2) P2))) sz)) 0 0 (va_A (wC_One k a0 P0 ++ (wC_Units k (a0 1) P1 ++ (wC_Tables k (a0 2) P2))) sz) := by
  refine gm_l (cc := cX11_turn) (maxL := 4) (by decide) rfl (Nat.le_of_ble_eq_true rfl) ?_
  intro p e s m args below meth c A Q ls H locs hx hb hml hown hts hK hN hA hP hD hS hl hret
  have hown : s.vm.findClass RX11 = some m.cls := hown
  have hl : lv_has ls 4 [(0, .ref (a0 0 0)), (1, .int x1), (2, .int x2), (3, .int x3)] := hl
  have iw_One : ∀ w ∈ u_ws RX11 TX11 16, w ∈ wsX11_turn := by decide +kernel
  have fl_10 := hts (.fieldLink RX11 10 "OneMeasure" "units" "LOneMeasure$Units;") (by decide +kernel)
  have fl_19 := hts (.fieldLink RX11 19 "OneMeasure" "tables" "LOneMeasure$Tables;") (by decide +kernel)
  have lc_132 := hts (.constant RX11 132 (1000000000)) (by decide +kernel)
  have lc_133 := hts (.constantLong RX11 133 (-1)) (by decide +kernel)
  have lc_138 := hts (.constantLong RX11 138 (-2)) (by decide +kernel)
  unfold f_One_turn at hf
  refine lv_aload_n hx hb dX11_turn_0 rfl (lv_at hl 0 rfl) ?_
  refine va_get (D := D) (ci := 11) (v := .ref (a0 1 0)) (C := RX11) (T := TX11) (N := 16) hx hb hts iw_One hown hK hP 0 rfl rfl 0 (by decide) fl_10 (fun _ h9 => h9) rfl dX11_turn_1 ?_
  refine lv_iload_n hx hb dX11_turn_4 rfl (lv_at hl 1 rfl) ?_
  obtain ⟨r_1, hz, hf⟩ := mb_bd1_s hf
  refine gc_i (r0 := r_1) (ws' := (wC_One k a0 P0 ++ (wC_Units k (a0 1) P1 ++ (wC_Tables k (a0 2) P2)))) (wr := (wC_One k a0 P0 ++ (wC_Tables k (a0 2) P2))) (va_runV (As := [.int x1]) (rest := []) ⟨hx, hb, hml, hown, hts⟩ (c_Units_told l D k H.size (a0 1) P1 x1 r_1 hz) (cwV 1 hts gX11_turn_X9_told rfl rfl rfl (by decide +kernel) ⟨Nat.le_of_ble_eq_true rfl, Nat.le_of_ble_eq_true rfl⟩) (gp_V (ci := 9) (q0 := 0) (q := (RX9, TX9, 4)) hP hD hK hN [4, 5, 6, 7] (by decide +kernel) rfl rfl rfl) rfl rfl hl.1 rfl (lv_room (Nat.le_of_ble_eq_true rfl)) dX11_turn_5 ⟨Nat.zero_le _, Nat.zero_le _⟩) hP hD hS hA [4, 5, 6, 7] [0, 1, 2, 3, 8, 9, 10, 11] rfl rfl (by decide +kernel) (by decide +kernel) [0, 1, 2, 3, 8, 9, 10, 11, 4, 5, 6, 7] (by decide +kernel) rfl (fun H locs hP hD hS => ?_)
  clear hz
  refine lv_if_eq (tgt := 32) hx hb dX11_turn_8 (by decide) (fun c_9 => ?_) (fun c_9 => ?_)
  · have hf := mb_if_t c_9 hf
    refine lv_ldc2 (v := (-1)) hx hb hown lc_133 dX11_turn_32 ?_
    have hz := Option.some.inj hf
    subst hz
    exact hret _ _ _ _ dX11_turn_35 hP hD hS
  · have hf := mb_if_f c_9 hf
    refine lv_aload_n hx hb dX11_turn_11 rfl (lv_at hl 0 rfl) ?_
    refine va_get (D := D) (ci := 11) (v := .ref (a0 1 0)) (C := RX11) (T := TX11) (N := 16) hx hb hts iw_One hown hK hP 0 rfl rfl 0 (by decide) fl_10 (fun _ h9 => h9) rfl dX11_turn_12 ?_
    refine lv_iload_n hx hb dX11_turn_15 rfl (lv_at hl 2 rfl) ?_
    obtain ⟨r_2, hz, hf⟩ := mb_bd1_s hf
    refine gc_i (r0 := r_2) (ws' := (wC_One k a0 P0 ++ (wC_Units k (a0 1) P1 ++ (wC_Tables k (a0 2) P2)))) (wr := (wC_One k a0 P0 ++ (wC_Tables k (a0 2) P2))) (va_runV (As := [.int x2]) (rest := []) ⟨hx, hb, hml, hown, hts⟩ (c_Units_told l D k H.size (a0 1) P1 x2 r_2 hz) (cwV 1 hts gX11_turn_X9_told rfl rfl rfl (by decide +kernel) ⟨Nat.le_of_ble_eq_true rfl, Nat.le_of_ble_eq_true rfl⟩) (gp_V (ci := 9) (q0 := 0) (q := (RX9, TX9, 4)) hP hD hK hN [4, 5, 6, 7] (by decide +kernel) rfl rfl rfl) rfl rfl hl.1 rfl (lv_room (Nat.le_of_ble_eq_true rfl)) dX11_turn_16 ⟨Nat.zero_le _, Nat.zero_le _⟩) hP hD hS hA [4, 5, 6, 7] [0, 1, 2, 3, 8, 9, 10, 11] rfl rfl (by decide +kernel) (by decide +kernel) [0, 1, 2, 3, 8, 9, 10, 11, 4, 5, 6, 7] (by decide +kernel) rfl (fun H locs hP hD hS => ?_)
    clear hz
    refine lv_if_eq (tgt := 32) hx hb dX11_turn_19 (by decide) (fun c_8 => ?_) (fun c_8 => ?_)
    · have hf := mb_if_t c_8 hf
      refine lv_ldc2 (v := (-1)) hx hb hown lc_133 dX11_turn_32 ?_
      have hz := Option.some.inj hf
      subst hz
      exact hret _ _ _ _ dX11_turn_35 hP hD hS
    · have hf := mb_if_f c_8 hf
      refine lv_iload_n hx hb dX11_turn_22 rfl (lv_at hl 3 rfl) ?_
      refine lv_iconst (v := 0) hx hb dX11_turn_23 (by decide) ?_
      refine lv_ldc (v := (1000000000)) hx hb hown lc_132 dX11_turn_24 ?_
      obtain ⟨r_3, hz, hf⟩ := mb_bd1_s hf
      refine gc_i (r0 := r_3) (ws' := (wC_One k a0 P0 ++ (wC_Units k (a0 1) P1 ++ (wC_Tables k (a0 2) P2)))) (wr := (wC_One k a0 P0 ++ (wC_Units k (a0 1) P1 ++ (wC_Tables k (a0 2) P2)))) (va_runS (As := [.int x3, .int (0 : Int32), .int (1000000000 : Int32)]) (rest := []) ⟨hx, hb, hml, hown, hts⟩ (c_One_within l D k H.size x3 (0 : Int32) (1000000000 : Int32) r_3 hz) (cwS 3 hts gX11_turn_X11_within rfl rfl rfl (by decide +kernel) ⟨Nat.le_of_ble_eq_true rfl, Nat.le_of_ble_eq_true rfl⟩) (gp_S hP hD hK hN [] (by decide +kernel) rfl) rfl rfl hl.1 rfl (lv_room (Nat.le_of_ble_eq_true rfl)) dX11_turn_26 ⟨Nat.zero_le _, Nat.zero_le _⟩) hP hD hS hA [] [0, 1, 2, 3, 4, 5, 6, 7, 8, 9, 10, 11] rfl rfl (by decide +kernel) (by decide +kernel) [0, 1, 2, 3, 4, 5, 6, 7, 8, 9, 10, 11] (by decide +kernel) rfl (fun H locs hP hD hS => ?_)
      clear hz
      refine lv_if_ne (tgt := 36) hx hb dX11_turn_29 (by decide) (fun c_7 => ?_) (fun c_7 => ?_)
      · have hf := mb_if_f c_7 hf
        refine lv_aload_n hx hb dX11_turn_36 rfl (lv_at hl 0 rfl) ?_
        refine va_get (D := D) (ci := 11) (v := .ref (a0 2 0)) (C := RX11) (T := TX11) (N := 16) hx hb hts iw_One hown hK hP 0 rfl rfl 1 (by decide) fl_19 (fun _ h9 => h9) rfl dX11_turn_37 ?_
        refine lv_iload_n hx hb dX11_turn_40 rfl (lv_at hl 1 rfl) ?_
        refine lv_iload_n hx hb dX11_turn_41 rfl (lv_at hl 2 rfl) ?_
        obtain ⟨r_4, hz, hf⟩ := mb_bd1_s hf
        refine gc_i (r0 := r_4) (ws' := (wC_One k a0 P0 ++ (wC_Units k (a0 1) P1 ++ (wC_Tables k (a0 2) P2)))) (wr := (wC_One k a0 P0 ++ (wC_Units k (a0 1) P1))) (va_runV (As := [.int x1, .int x2]) (rest := []) ⟨hx, hb, hml, hown, hts⟩ (c_Tables_has l D k H.size (a0 2) P2 x1 x2 r_4 hz) (cwV 2 hts gX11_turn_X6_has rfl rfl rfl (by decide +kernel) ⟨Nat.le_of_ble_eq_true rfl, Nat.le_of_ble_eq_true rfl⟩) (gp_V (ci := 6) (q0 := 0) (q := (RX6, TX6, 4)) hP hD hK hN [8, 9, 10, 11] (by decide +kernel) rfl rfl rfl) rfl rfl hl.1 rfl (lv_room (Nat.le_of_ble_eq_true rfl)) dX11_turn_42 ⟨Nat.zero_le _, Nat.zero_le _⟩) hP hD hS hA [8, 9, 10, 11] [0, 1, 2, 3, 4, 5, 6, 7] rfl rfl (by decide +kernel) (by decide +kernel) [0, 1, 2, 3, 4, 5, 6, 7, 8, 9, 10, 11] (by decide +kernel) rfl (fun H locs hP hD hS => ?_)
        clear hz
        refine lv_if_ne (tgt := 52) hx hb dX11_turn_45 (by decide) (fun c_6 => ?_) (fun c_6 => ?_)
        · have hf := mb_if_f c_6 hf
          refine lv_aload_n hx hb dX11_turn_52 rfl (lv_at hl 0 rfl) ?_
          refine va_get (D := D) (ci := 11) (v := .ref (a0 2 0)) (C := RX11) (T := TX11) (N := 16) hx hb hts iw_One hown hK hP 0 rfl rfl 1 (by decide) fl_19 (fun _ h9 => h9) rfl dX11_turn_53 ?_
          refine lv_iload_n hx hb dX11_turn_56 rfl (lv_at hl 1 rfl) ?_
          refine lv_iload_n hx hb dX11_turn_57 rfl (lv_at hl 2 rfl) ?_
          refine lv_iload_n hx hb dX11_turn_58 rfl (lv_at hl 3 rfl) ?_
          refine lv_i2l hx hb dX11_turn_59 rfl ?_
          obtain ⟨r_5, hz, hf⟩ := mb_bd1_s hf
          refine gc_l (r0 := r_5) (ws' := (wC_One k a0 P0 ++ (wC_Units k (a0 1) P1 ++ (wC_Tables k (a0 2) P2)))) (wr := (wC_One k a0 P0 ++ (wC_Units k (a0 1) P1))) (va_runV (As := [.int x1, .int x2, .long (x3).toInt64]) (rest := []) ⟨hx, hb, hml, hown, hts⟩ (c_Tables_turned l D k H.size (a0 2) P2 x1 x2 ((x3).toInt64) r_5 hz) (cwV 3 hts gX11_turn_X6_turned rfl rfl rfl (by decide +kernel) ⟨Nat.le_of_ble_eq_true rfl, Nat.le_of_ble_eq_true rfl⟩) (gp_V (ci := 6) (q0 := 0) (q := (RX6, TX6, 4)) hP hD hK hN [8, 9, 10, 11] (by decide +kernel) rfl rfl rfl) rfl rfl hl.1 rfl (lv_room (Nat.le_of_ble_eq_true rfl)) dX11_turn_60 ⟨Nat.zero_le _, Nat.zero_le _⟩) hP hD hS hA [8, 9, 10, 11] [0, 1, 2, 3, 4, 5, 6, 7] rfl rfl (by decide +kernel) (by decide +kernel) [0, 1, 2, 3, 4, 5, 6, 7, 8, 9, 10, 11] (by decide +kernel) rfl (fun H locs hP hD hS => ?_)
          clear hz
          have hz := Option.some.inj hf
          subst hz
          exact hret _ _ _ _ dX11_turn_63 hP hD hS
        · have hf := mb_if_t c_6 hf
          refine lv_ldc2 (v := (-2)) hx hb hown lc_138 dX11_turn_48 ?_
          have hz := Option.some.inj hf
          subst hz
          exact hret _ _ _ _ dX11_turn_51 hP hD hS
      · have hf := mb_if_t c_7 hf
        refine lv_ldc2 (v := (-1)) hx hb hown lc_133 dX11_turn_32 ?_
        have hz := Option.some.inj hf
        subst hz
        exact hret _ _ _ _ dX11_turn_35 hP hD hS
def f_One_lost (P1 : PI) (P2 : PI) (x1 : Int32) (x2 : Int32) (x3 : Int32) : Option (Int64) := mb_bd1 (f_Units_told P1 x1) (fun (r_1 : Int32) => (if r_1 = 0 then some (-1000000000000 : Int64) else mb_bd1 (f_Units_told P1 x2) (fun (r_2 : Int32) => (if r_2 = 0 then some (-1000000000000 : Int64) else mb_bd1 (f_One_within x3 (0 : Int32) (1000000000 : Int32)) (fun (r_3 : Int32) => (if r_3 = 0 then some (-1000000000000 : Int64) else mb_bd1 (f_Tables_has P2 x1 x2) (fun (r_4 : Int32) => (if r_4 = 0 then some (-1000000000002 : Int64) else mb_bd1 (f_Tables_has P2 x2 x1) (fun (r_5 : Int32) => (if r_5 = 0 then some (-1000000000002 : Int64) else mb_bd1 (f_Tables_turned P2 x1 x2 ((x3).toInt64)) (fun (r_6 : Int64) => mb_bd1 (f_Tables_turned P2 x2 x1 r_6) (fun (r_7 : Int64) => some ((x3).toInt64 - r_7)))))))))))))
def rm_One_lost : Room := { frames := 1, cells := 0, slots := 0, locals := 27 }
set_option maxHeartbeats 4000000 in
set_option maxRecDepth 100000 in
theorem c_One_lost (l : Launch) (D : va_G) (k : Nat → ClassId) (sz : Nat) (a0 : Nat → Nat → Nat) (P0 : PI) (P1 : PI) (P2 : PI) (x1 : Int32) (x2 : Int32) (x3 : Int32) (z : Int64) (hf : f_One_lost P1 P2 x1 x2 x3 = some z) : Met l yX11_lost wsX11_lost rm_One_lost (va_Pc [.ref (a0 0 0), .int x1, .int x2, .int x3] (gw_pre D vwCl (tyL k) (wC_One k a0 P0 ++ (wC_Units k (a0 1) P1 ++ (wC_Tables k (a0 2) P2))) sz)) (va_Ql (fun (r : Int64) (_ : Unit) => r = z) (gw_b D vwCl (tyL k) (va_A (wC_One k a0 P0 ++ (wC_Units k (a0 1) P1 ++ (wC_Tables k (a0 2) P2))) sz) (wC_One k a0 P0 ++ (wC_Units k (a0 1) P1 ++ (wC_Tables k (a0 2) P2)))) (va_A (wC_One k a0 P0 ++ (wC_Units k (a0 1) P1 ++ (wC_Tables k (a0 2) P2))) sz)) 0 0 (va_A (wC_One k a0 P0 ++ (wC_Units k (a0 1) P1 ++ (wC_Tables k (a0 2) P2))) sz) := by
  refine gm_l (cc := cX11_lost) (maxL := 4) (by decide) rfl (Nat.le_of_ble_eq_true rfl) ?_
  intro p e s m args below meth c A Q ls H locs hx hb hml hown hts hK hN hA hP hD hS hl hret
  have hown : s.vm.findClass RX11 = some m.cls := hown
  have hl : lv_has ls 4 [(0, .ref (a0 0 0)), (1, .int x1), (2, .int x2), (3, .int x3)] := hl
  have iw_One : ∀ w ∈ u_ws RX11 TX11 16, w ∈ wsX11_lost := by decide +kernel
  have fl_10 := hts (.fieldLink RX11 10 "OneMeasure" "units" "LOneMeasure$Units;") (by decide +kernel)
  have fl_19 := hts (.fieldLink RX11 19 "OneMeasure" "tables" "LOneMeasure$Tables;") (by decide +kernel)
  have lc_132 := hts (.constant RX11 132 (1000000000)) (by decide +kernel)
  have lc_144 := hts (.constantLong RX11 144 (-1000000000000)) (by decide +kernel)
  have lc_146 := hts (.constantLong RX11 146 (-1000000000002)) (by decide +kernel)
  unfold f_One_lost at hf
  refine lv_aload_n hx hb dX11_lost_0 rfl (lv_at hl 0 rfl) ?_
  refine va_get (D := D) (ci := 11) (v := .ref (a0 1 0)) (C := RX11) (T := TX11) (N := 16) hx hb hts iw_One hown hK hP 0 rfl rfl 0 (by decide) fl_10 (fun _ h9 => h9) rfl dX11_lost_1 ?_
  refine lv_iload_n hx hb dX11_lost_4 rfl (lv_at hl 1 rfl) ?_
  obtain ⟨r_1, hz, hf⟩ := mb_bd1_s hf
  refine gc_i (r0 := r_1) (ws' := (wC_One k a0 P0 ++ (wC_Units k (a0 1) P1 ++ (wC_Tables k (a0 2) P2)))) (wr := (wC_One k a0 P0 ++ (wC_Tables k (a0 2) P2))) (va_runV (As := [.int x1]) (rest := []) ⟨hx, hb, hml, hown, hts⟩ (c_Units_told l D k H.size (a0 1) P1 x1 r_1 hz) (cwV 1 hts gX11_lost_X9_told rfl rfl rfl (by decide +kernel) ⟨Nat.le_of_ble_eq_true rfl, Nat.le_of_ble_eq_true rfl⟩) (gp_V (ci := 9) (q0 := 0) (q := (RX9, TX9, 4)) hP hD hK hN [4, 5, 6, 7] (by decide +kernel) rfl rfl rfl) rfl rfl hl.1 rfl (lv_room (Nat.le_of_ble_eq_true rfl)) dX11_lost_5 ⟨Nat.zero_le _, Nat.zero_le _⟩) hP hD hS hA [4, 5, 6, 7] [0, 1, 2, 3, 8, 9, 10, 11] rfl rfl (by decide +kernel) (by decide +kernel) [0, 1, 2, 3, 8, 9, 10, 11, 4, 5, 6, 7] (by decide +kernel) rfl (fun H locs hP hD hS => ?_)
  clear hz
  refine lv_if_eq (tgt := 32) hx hb dX11_lost_8 (by decide) (fun c_12 => ?_) (fun c_12 => ?_)
  · have hf := mb_if_t c_12 hf
    refine lv_ldc2 (v := (-1000000000000)) hx hb hown lc_144 dX11_lost_32 ?_
    have hz := Option.some.inj hf
    subst hz
    exact hret _ _ _ _ dX11_lost_35 hP hD hS
  · have hf := mb_if_f c_12 hf
    refine lv_aload_n hx hb dX11_lost_11 rfl (lv_at hl 0 rfl) ?_
    refine va_get (D := D) (ci := 11) (v := .ref (a0 1 0)) (C := RX11) (T := TX11) (N := 16) hx hb hts iw_One hown hK hP 0 rfl rfl 0 (by decide) fl_10 (fun _ h9 => h9) rfl dX11_lost_12 ?_
    refine lv_iload_n hx hb dX11_lost_15 rfl (lv_at hl 2 rfl) ?_
    obtain ⟨r_2, hz, hf⟩ := mb_bd1_s hf
    refine gc_i (r0 := r_2) (ws' := (wC_One k a0 P0 ++ (wC_Units k (a0 1) P1 ++ (wC_Tables k (a0 2) P2)))) (wr := (wC_One k a0 P0 ++ (wC_Tables k (a0 2) P2))) (va_runV (As := [.int x2]) (rest := []) ⟨hx, hb, hml, hown, hts⟩ (c_Units_told l D k H.size (a0 1) P1 x2 r_2 hz) (cwV 1 hts gX11_lost_X9_told rfl rfl rfl (by decide +kernel) ⟨Nat.le_of_ble_eq_true rfl, Nat.le_of_ble_eq_true rfl⟩) (gp_V (ci := 9) (q0 := 0) (q := (RX9, TX9, 4)) hP hD hK hN [4, 5, 6, 7] (by decide +kernel) rfl rfl rfl) rfl rfl hl.1 rfl (lv_room (Nat.le_of_ble_eq_true rfl)) dX11_lost_16 ⟨Nat.zero_le _, Nat.zero_le _⟩) hP hD hS hA [4, 5, 6, 7] [0, 1, 2, 3, 8, 9, 10, 11] rfl rfl (by decide +kernel) (by decide +kernel) [0, 1, 2, 3, 8, 9, 10, 11, 4, 5, 6, 7] (by decide +kernel) rfl (fun H locs hP hD hS => ?_)
    clear hz
    refine lv_if_eq (tgt := 32) hx hb dX11_lost_19 (by decide) (fun c_11 => ?_) (fun c_11 => ?_)
    · have hf := mb_if_t c_11 hf
      refine lv_ldc2 (v := (-1000000000000)) hx hb hown lc_144 dX11_lost_32 ?_
      have hz := Option.some.inj hf
      subst hz
      exact hret _ _ _ _ dX11_lost_35 hP hD hS
    · have hf := mb_if_f c_11 hf
      refine lv_iload_n hx hb dX11_lost_22 rfl (lv_at hl 3 rfl) ?_
      refine lv_iconst (v := 0) hx hb dX11_lost_23 (by decide) ?_
      refine lv_ldc (v := (1000000000)) hx hb hown lc_132 dX11_lost_24 ?_
      obtain ⟨r_3, hz, hf⟩ := mb_bd1_s hf
      refine gc_i (r0 := r_3) (ws' := (wC_One k a0 P0 ++ (wC_Units k (a0 1) P1 ++ (wC_Tables k (a0 2) P2)))) (wr := (wC_One k a0 P0 ++ (wC_Units k (a0 1) P1 ++ (wC_Tables k (a0 2) P2)))) (va_runS (As := [.int x3, .int (0 : Int32), .int (1000000000 : Int32)]) (rest := []) ⟨hx, hb, hml, hown, hts⟩ (c_One_within l D k H.size x3 (0 : Int32) (1000000000 : Int32) r_3 hz) (cwS 3 hts gX11_lost_X11_within rfl rfl rfl (by decide +kernel) ⟨Nat.le_of_ble_eq_true rfl, Nat.le_of_ble_eq_true rfl⟩) (gp_S hP hD hK hN [] (by decide +kernel) rfl) rfl rfl hl.1 rfl (lv_room (Nat.le_of_ble_eq_true rfl)) dX11_lost_26 ⟨Nat.zero_le _, Nat.zero_le _⟩) hP hD hS hA [] [0, 1, 2, 3, 4, 5, 6, 7, 8, 9, 10, 11] rfl rfl (by decide +kernel) (by decide +kernel) [0, 1, 2, 3, 4, 5, 6, 7, 8, 9, 10, 11] (by decide +kernel) rfl (fun H locs hP hD hS => ?_)
      clear hz
      refine lv_if_ne (tgt := 36) hx hb dX11_lost_29 (by decide) (fun c_10 => ?_) (fun c_10 => ?_)
      · have hf := mb_if_f c_10 hf
        refine lv_aload_n hx hb dX11_lost_36 rfl (lv_at hl 0 rfl) ?_
        refine va_get (D := D) (ci := 11) (v := .ref (a0 2 0)) (C := RX11) (T := TX11) (N := 16) hx hb hts iw_One hown hK hP 0 rfl rfl 1 (by decide) fl_19 (fun _ h9 => h9) rfl dX11_lost_37 ?_
        refine lv_iload_n hx hb dX11_lost_40 rfl (lv_at hl 1 rfl) ?_
        refine lv_iload_n hx hb dX11_lost_41 rfl (lv_at hl 2 rfl) ?_
        obtain ⟨r_4, hz, hf⟩ := mb_bd1_s hf
        refine gc_i (r0 := r_4) (ws' := (wC_One k a0 P0 ++ (wC_Units k (a0 1) P1 ++ (wC_Tables k (a0 2) P2)))) (wr := (wC_One k a0 P0 ++ (wC_Units k (a0 1) P1))) (va_runV (As := [.int x1, .int x2]) (rest := []) ⟨hx, hb, hml, hown, hts⟩ (c_Tables_has l D k H.size (a0 2) P2 x1 x2 r_4 hz) (cwV 2 hts gX11_lost_X6_has rfl rfl rfl (by decide +kernel) ⟨Nat.le_of_ble_eq_true rfl, Nat.le_of_ble_eq_true rfl⟩) (gp_V (ci := 6) (q0 := 0) (q := (RX6, TX6, 4)) hP hD hK hN [8, 9, 10, 11] (by decide +kernel) rfl rfl rfl) rfl rfl hl.1 rfl (lv_room (Nat.le_of_ble_eq_true rfl)) dX11_lost_42 ⟨Nat.zero_le _, Nat.zero_le _⟩) hP hD hS hA [8, 9, 10, 11] [0, 1, 2, 3, 4, 5, 6, 7] rfl rfl (by decide +kernel) (by decide +kernel) [0, 1, 2, 3, 4, 5, 6, 7, 8, 9, 10, 11] (by decide +kernel) rfl (fun H locs hP hD hS => ?_)
        clear hz
        refine lv_if_eq (tgt := 60) hx hb dX11_lost_45 (by decide) (fun c_9 => ?_) (fun c_9 => ?_)
        · have hf := mb_if_t c_9 hf
          refine lv_ldc2 (v := (-1000000000002)) hx hb hown lc_146 dX11_lost_60 ?_
          have hz := Option.some.inj hf
          subst hz
          exact hret _ _ _ _ dX11_lost_63 hP hD hS
        · have hf := mb_if_f c_9 hf
          refine lv_aload_n hx hb dX11_lost_48 rfl (lv_at hl 0 rfl) ?_
          refine va_get (D := D) (ci := 11) (v := .ref (a0 2 0)) (C := RX11) (T := TX11) (N := 16) hx hb hts iw_One hown hK hP 0 rfl rfl 1 (by decide) fl_19 (fun _ h9 => h9) rfl dX11_lost_49 ?_
          refine lv_iload_n hx hb dX11_lost_52 rfl (lv_at hl 2 rfl) ?_
          refine lv_iload_n hx hb dX11_lost_53 rfl (lv_at hl 1 rfl) ?_
          obtain ⟨r_5, hz, hf⟩ := mb_bd1_s hf
          refine gc_i (r0 := r_5) (ws' := (wC_One k a0 P0 ++ (wC_Units k (a0 1) P1 ++ (wC_Tables k (a0 2) P2)))) (wr := (wC_One k a0 P0 ++ (wC_Units k (a0 1) P1))) (va_runV (As := [.int x2, .int x1]) (rest := []) ⟨hx, hb, hml, hown, hts⟩ (c_Tables_has l D k H.size (a0 2) P2 x2 x1 r_5 hz) (cwV 2 hts gX11_lost_X6_has rfl rfl rfl (by decide +kernel) ⟨Nat.le_of_ble_eq_true rfl, Nat.le_of_ble_eq_true rfl⟩) (gp_V (ci := 6) (q0 := 0) (q := (RX6, TX6, 4)) hP hD hK hN [8, 9, 10, 11] (by decide +kernel) rfl rfl rfl) rfl rfl hl.1 rfl (lv_room (Nat.le_of_ble_eq_true rfl)) dX11_lost_54 ⟨Nat.zero_le _, Nat.zero_le _⟩) hP hD hS hA [8, 9, 10, 11] [0, 1, 2, 3, 4, 5, 6, 7] rfl rfl (by decide +kernel) (by decide +kernel) [0, 1, 2, 3, 4, 5, 6, 7, 8, 9, 10, 11] (by decide +kernel) rfl (fun H locs hP hD hS => ?_)
          clear hz
          refine lv_if_ne (tgt := 64) hx hb dX11_lost_57 (by decide) (fun c_8 => ?_) (fun c_8 => ?_)
          · have hf := mb_if_f c_8 hf
            refine lv_iload_n hx hb dX11_lost_64 rfl (lv_at hl 3 rfl) ?_
            refine lv_i2l hx hb dX11_lost_65 rfl ?_
            refine lv_aload_n hx hb dX11_lost_66 rfl (lv_at hl 0 rfl) ?_
            refine va_get (D := D) (ci := 11) (v := .ref (a0 2 0)) (C := RX11) (T := TX11) (N := 16) hx hb hts iw_One hown hK hP 0 rfl rfl 1 (by decide) fl_19 (fun _ h9 => h9) rfl dX11_lost_67 ?_
            refine lv_iload_n hx hb dX11_lost_70 rfl (lv_at hl 2 rfl) ?_
            refine lv_iload_n hx hb dX11_lost_71 rfl (lv_at hl 1 rfl) ?_
            refine lv_aload_n hx hb dX11_lost_72 rfl (lv_at hl 0 rfl) ?_
            refine va_get (D := D) (ci := 11) (v := .ref (a0 2 0)) (C := RX11) (T := TX11) (N := 16) hx hb hts iw_One hown hK hP 0 rfl rfl 1 (by decide) fl_19 (fun _ h9 => h9) rfl dX11_lost_73 ?_
            refine lv_iload_n hx hb dX11_lost_76 rfl (lv_at hl 1 rfl) ?_
            refine lv_iload_n hx hb dX11_lost_77 rfl (lv_at hl 2 rfl) ?_
            refine lv_iload_n hx hb dX11_lost_78 rfl (lv_at hl 3 rfl) ?_
            refine lv_i2l hx hb dX11_lost_79 rfl ?_
            obtain ⟨r_6, hz, hf⟩ := mb_bd1_s hf
            refine gc_l (r0 := r_6) (ws' := (wC_One k a0 P0 ++ (wC_Units k (a0 1) P1 ++ (wC_Tables k (a0 2) P2)))) (wr := (wC_One k a0 P0 ++ (wC_Units k (a0 1) P1))) (va_runV (As := [.int x1, .int x2, .long (x3).toInt64]) (rest := [.int x1, .int x2, .ref (a0 2 0), .long (x3).toInt64]) ⟨hx, hb, hml, hown, hts⟩ (c_Tables_turned l D k H.size (a0 2) P2 x1 x2 ((x3).toInt64) r_6 hz) (cwV 3 hts gX11_lost_X6_turned rfl rfl rfl (by decide +kernel) ⟨Nat.le_of_ble_eq_true rfl, Nat.le_of_ble_eq_true rfl⟩) (gp_V (ci := 6) (q0 := 0) (q := (RX6, TX6, 4)) hP hD hK hN [8, 9, 10, 11] (by decide +kernel) rfl rfl rfl) rfl rfl hl.1 rfl (lv_room (Nat.le_of_ble_eq_true rfl)) dX11_lost_80 ⟨Nat.zero_le _, Nat.zero_le _⟩) hP hD hS hA [8, 9, 10, 11] [0, 1, 2, 3, 4, 5, 6, 7] rfl rfl (by decide +kernel) (by decide +kernel) [0, 1, 2, 3, 4, 5, 6, 7, 8, 9, 10, 11] (by decide +kernel) rfl (fun H locs hP hD hS => ?_)
            clear hz
            obtain ⟨r_7, hz, hf⟩ := mb_bd1_s hf
            refine gc_l (r0 := r_7) (ws' := (wC_One k a0 P0 ++ (wC_Units k (a0 1) P1 ++ (wC_Tables k (a0 2) P2)))) (wr := (wC_One k a0 P0 ++ (wC_Units k (a0 1) P1))) (va_runV (As := [.int x2, .int x1, .long r_6]) (rest := [.long (x3).toInt64]) ⟨hx, hb, hml, hown, hts⟩ (c_Tables_turned l D k H.size (a0 2) P2 x2 x1 r_6 r_7 hz) (cwV 3 hts gX11_lost_X6_turned rfl rfl rfl (by decide +kernel) ⟨Nat.le_of_ble_eq_true rfl, Nat.le_of_ble_eq_true rfl⟩) (gp_V (ci := 6) (q0 := 0) (q := (RX6, TX6, 4)) hP hD hK hN [8, 9, 10, 11] (by decide +kernel) rfl rfl rfl) rfl rfl hl.1 rfl (lv_room (Nat.le_of_ble_eq_true rfl)) dX11_lost_83 ⟨Nat.zero_le _, Nat.zero_le _⟩) hP hD hS hA [8, 9, 10, 11] [0, 1, 2, 3, 4, 5, 6, 7] rfl rfl (by decide +kernel) (by decide +kernel) [0, 1, 2, 3, 4, 5, 6, 7, 8, 9, 10, 11] (by decide +kernel) rfl (fun H locs hP hD hS => ?_)
            clear hz
            refine lv_lsub hx hb dX11_lost_86 ?_
            have hz := Option.some.inj hf
            subst hz
            exact hret _ _ _ _ dX11_lost_87 hP hD hS
          · have hf := mb_if_t c_8 hf
            refine lv_ldc2 (v := (-1000000000002)) hx hb hown lc_146 dX11_lost_60 ?_
            have hz := Option.some.inj hf
            subst hz
            exact hret _ _ _ _ dX11_lost_63 hP hD hS
      · have hf := mb_if_t c_10 hf
        refine lv_ldc2 (v := (-1000000000000)) hx hb hown lc_144 dX11_lost_32 ?_
        have hz := Option.some.inj hf
        subst hz
        exact hret _ _ _ _ dX11_lost_35 hP hD hS
