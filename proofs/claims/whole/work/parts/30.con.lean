def f_One_within (x0 : Int32) (x1 : Int32) (x2 : Int32) : Option (Int32) := (if x0 < x1 then some (0 : Int32) else (if x2 < x0 then some (0 : Int32) else some (1 : Int32)))
def rm_One_within : Room := { frames := 0, cells := 0, slots := 0, locals := 0 }
set_option maxHeartbeats 4000000 in
set_option maxRecDepth 100000 in
theorem c_One_within (l : Launch) (D : va_G) (k : Nat → ClassId) (sz : Nat) (x0 : Int32) (x1 : Int32) (x2 : Int32) (z : Int32) (hf : f_One_within x0 x1 x2 = some z) : Met l yX11_within wsX11_within rm_One_within (va_Pc [.int x0, .int x1, .int x2] (gw_pre D vwCl (tyL k) ([] : va_W) sz)) (va_Qi (fun (r : Int32) (_ : Unit) => r = z) (gw_b D vwCl (tyL k) (va_A ([] : va_W) sz) ([] : va_W)) (va_A ([] : va_W) sz)) 0 0 (va_A ([] : va_W) sz) := by
  refine gm_z (cc := cX11_within) (maxL := 3) (by decide) rfl (Nat.le_of_ble_eq_true rfl) ?_
  intro p e s m args below meth c A Q ls H locs hx hb hml hown hts hK hN hA hP hD hS hl hret
  have hown : s.vm.findClass RX11 = some m.cls := hown
  have hl : lv_has ls 3 [(0, .int x0), (1, .int x1), (2, .int x2)] := hl
  unfold f_One_within at hf
  refine lv_iload_n hx hb dX11_within_0 rfl (lv_at hl 0 rfl) ?_
  refine lv_iload_n hx hb dX11_within_1 rfl (lv_at hl 1 rfl) ?_
  refine lv_icmp_lt (tgt := 14) hx hb dX11_within_2 (by decide) (fun c_2 => ?_) (fun c_2 => ?_)
  · have hf := mb_if_t c_2 hf
    refine lv_iconst (v := 0) hx hb dX11_within_14 (by decide) ?_
    have hz := Option.some.inj hf
    subst hz
    exact hret _ _ _ _ rfl dX11_within_15 hP hD hS
  · have hf := mb_if_f c_2 hf
    refine lv_iload_n hx hb dX11_within_5 rfl (lv_at hl 0 rfl) ?_
    refine lv_iload_n hx hb dX11_within_6 rfl (lv_at hl 2 rfl) ?_
    refine lv_icmp_gt (tgt := 14) hx hb dX11_within_7 (by decide) (fun c_1 => ?_) (fun c_1 => ?_)
    · have hf := mb_if_t c_1 hf
      refine lv_iconst (v := 0) hx hb dX11_within_14 (by decide) ?_
      have hz := Option.some.inj hf
      subst hz
      exact hret _ _ _ _ rfl dX11_within_15 hP hD hS
    · have hf := mb_if_f c_1 hf
      refine lv_iconst (v := 1) hx hb dX11_within_10 (by decide) ?_
      refine lv_goto (tgt := 15) hx hb dX11_within_11 (by decide) ?_
      have hz := Option.some.inj hf
      subst hz
      exact hret _ _ _ _ rfl dX11_within_15 hP hD hS
def f_One_isDistrict (x0 : Int32) : Option (Int32) := mb_bd1 (f_One_within x0 (0 : Int32) (5 : Int32)) (fun (r_1 : Int32) => mb_z r_1 (some r_1))
def rm_One_isDistrict : Room := { frames := 1, cells := 0, slots := 0, locals := 22 }
set_option maxHeartbeats 4000000 in
set_option maxRecDepth 100000 in
theorem c_One_isDistrict (l : Launch) (D : va_G) (k : Nat → ClassId) (sz : Nat) (x0 : Int32) (z : Int32) (hf : f_One_isDistrict x0 = some z) : Met l yX11_isDistrict wsX11_isDistrict rm_One_isDistrict (va_Pc [.int x0] (gw_pre D vwCl (tyL k) ([] : va_W) sz)) (va_Qi (fun (r : Int32) (_ : Unit) => r = z) (gw_b D vwCl (tyL k) (va_A ([] : va_W) sz) ([] : va_W)) (va_A ([] : va_W) sz)) 0 0 (va_A ([] : va_W) sz) := by
  refine gm_z (cc := cX11_isDistrict) (maxL := 1) (by decide) rfl (Nat.le_of_ble_eq_true rfl) ?_
  intro p e s m args below meth c A Q ls H locs hx hb hml hown hts hK hN hA hP hD hS hl hret
  have hown : s.vm.findClass RX11 = some m.cls := hown
  have hl : lv_has ls 1 [(0, .int x0)] := hl
  unfold f_One_isDistrict at hf
  refine lv_iload_n hx hb dX11_isDistrict_0 rfl (lv_at hl 0 rfl) ?_
  refine lv_iconst (v := 0) hx hb dX11_isDistrict_1 (by decide) ?_
  refine lv_iconst (v := 5) hx hb dX11_isDistrict_2 (by decide) ?_
  obtain ⟨r_1, hz, hf⟩ := mb_bd1_s hf
  refine gc_i (r0 := r_1) (ws' := ([] : va_W)) (wr := ([] : va_W)) (va_runS (As := [.int x0, .int (0 : Int32), .int (5 : Int32)]) (rest := []) ⟨hx, hb, hml, hown, hts⟩ (c_One_within l D k H.size x0 (0 : Int32) (5 : Int32) r_1 hz) (cwS 3 hts gX11_isDistrict_X11_within rfl rfl rfl (by decide +kernel) ⟨Nat.le_of_ble_eq_true rfl, Nat.le_of_ble_eq_true rfl⟩) (gp_S hP hD hK hN [] (by decide +kernel) rfl) rfl rfl hl.1 rfl (lv_room (Nat.le_of_ble_eq_true rfl)) dX11_isDistrict_3 ⟨Nat.zero_le _, Nat.zero_le _⟩) hP hD hS hA [] [] rfl rfl (by decide +kernel) (by decide +kernel) [] (by decide +kernel) rfl (fun H locs hP hD hS => ?_)
  clear hz
  obtain ⟨h_2, hf⟩ := mb_z_s hf
  have hz := Option.some.inj hf
  subst hz
  exact hret _ _ _ _ h_2 dX11_isDistrict_6 hP hD hS
def f_One_isDay (x0 : Int32) : Option (Int32) := mb_bd1 (f_One_within x0 (0 : Int32) (9999 : Int32)) (fun (r_1 : Int32) => mb_z r_1 (some r_1))
def rm_One_isDay : Room := { frames := 1, cells := 0, slots := 0, locals := 22 }
set_option maxHeartbeats 4000000 in
set_option maxRecDepth 100000 in
theorem c_One_isDay (l : Launch) (D : va_G) (k : Nat → ClassId) (sz : Nat) (x0 : Int32) (z : Int32) (hf : f_One_isDay x0 = some z) : Met l yX11_isDay wsX11_isDay rm_One_isDay (va_Pc [.int x0] (gw_pre D vwCl (tyL k) ([] : va_W) sz)) (va_Qi (fun (r : Int32) (_ : Unit) => r = z) (gw_b D vwCl (tyL k) (va_A ([] : va_W) sz) ([] : va_W)) (va_A ([] : va_W) sz)) 0 0 (va_A ([] : va_W) sz) := by
  refine gm_z (cc := cX11_isDay) (maxL := 1) (by decide) rfl (Nat.le_of_ble_eq_true rfl) ?_
  intro p e s m args below meth c A Q ls H locs hx hb hml hown hts hK hN hA hP hD hS hl hret
  have hown : s.vm.findClass RX11 = some m.cls := hown
  have hl : lv_has ls 1 [(0, .int x0)] := hl
  unfold f_One_isDay at hf
  refine lv_iload_n hx hb dX11_isDay_0 rfl (lv_at hl 0 rfl) ?_
  refine lv_iconst (v := 0) hx hb dX11_isDay_1 (by decide) ?_
  refine lv_sipush (v := 9999) hx hb dX11_isDay_2 (by decide) ?_
  obtain ⟨r_1, hz, hf⟩ := mb_bd1_s hf
  refine gc_i (r0 := r_1) (ws' := ([] : va_W)) (wr := ([] : va_W)) (va_runS (As := [.int x0, .int (0 : Int32), .int (9999 : Int32)]) (rest := []) ⟨hx, hb, hml, hown, hts⟩ (c_One_within l D k H.size x0 (0 : Int32) (9999 : Int32) r_1 hz) (cwS 3 hts gX11_isDay_X11_within rfl rfl rfl (by decide +kernel) ⟨Nat.le_of_ble_eq_true rfl, Nat.le_of_ble_eq_true rfl⟩) (gp_S hP hD hK hN [] (by decide +kernel) rfl) rfl rfl hl.1 rfl (lv_room (Nat.le_of_ble_eq_true rfl)) dX11_isDay_5 ⟨Nat.zero_le _, Nat.zero_le _⟩) hP hD hS hA [] [] rfl rfl (by decide +kernel) (by decide +kernel) [] (by decide +kernel) rfl (fun H locs hP hD hS => ?_)
  clear hz
  obtain ⟨h_2, hf⟩ := mb_z_s hf
  have hz := Option.some.inj hf
  subst hz
  exact hret _ _ _ _ h_2 dX11_isDay_8 hP hD hS
def f_One_isUnitNumber (x0 : Int32) : Option (Int32) := mb_bd1 (f_One_within x0 (0 : Int32) (15 : Int32)) (fun (r_1 : Int32) => mb_z r_1 (some r_1))
def rm_One_isUnitNumber : Room := { frames := 1, cells := 0, slots := 0, locals := 22 }
set_option maxHeartbeats 4000000 in
set_option maxRecDepth 100000 in
theorem c_One_isUnitNumber (l : Launch) (D : va_G) (k : Nat → ClassId) (sz : Nat) (x0 : Int32) (z : Int32) (hf : f_One_isUnitNumber x0 = some z) : Met l yX11_isUnitNumber wsX11_isUnitNumber rm_One_isUnitNumber (va_Pc [.int x0] (gw_pre D vwCl (tyL k) ([] : va_W) sz)) (va_Qi (fun (r : Int32) (_ : Unit) => r = z) (gw_b D vwCl (tyL k) (va_A ([] : va_W) sz) ([] : va_W)) (va_A ([] : va_W) sz)) 0 0 (va_A ([] : va_W) sz) := by
  refine gm_z (cc := cX11_isUnitNumber) (maxL := 1) (by decide) rfl (Nat.le_of_ble_eq_true rfl) ?_
  intro p e s m args below meth c A Q ls H locs hx hb hml hown hts hK hN hA hP hD hS hl hret
  have hown : s.vm.findClass RX11 = some m.cls := hown
  have hl : lv_has ls 1 [(0, .int x0)] := hl
  unfold f_One_isUnitNumber at hf
  refine lv_iload_n hx hb dX11_isUnitNumber_0 rfl (lv_at hl 0 rfl) ?_
  refine lv_iconst (v := 0) hx hb dX11_isUnitNumber_1 (by decide) ?_
  refine lv_bipush (v := 15) hx hb dX11_isUnitNumber_2 (by decide) ?_
  obtain ⟨r_1, hz, hf⟩ := mb_bd1_s hf
  refine gc_i (r0 := r_1) (ws' := ([] : va_W)) (wr := ([] : va_W)) (va_runS (As := [.int x0, .int (0 : Int32), .int (15 : Int32)]) (rest := []) ⟨hx, hb, hml, hown, hts⟩ (c_One_within l D k H.size x0 (0 : Int32) (15 : Int32) r_1 hz) (cwS 3 hts gX11_isUnitNumber_X11_within rfl rfl rfl (by decide +kernel) ⟨Nat.le_of_ble_eq_true rfl, Nat.le_of_ble_eq_true rfl⟩) (gp_S hP hD hK hN [] (by decide +kernel) rfl) rfl rfl hl.1 rfl (lv_room (Nat.le_of_ble_eq_true rfl)) dX11_isUnitNumber_4 ⟨Nat.zero_le _, Nat.zero_le _⟩) hP hD hS hA [] [] rfl rfl (by decide +kernel) (by decide +kernel) [] (by decide +kernel) rfl (fun H locs hP hD hS => ?_)
  clear hz
  obtain ⟨h_2, hf⟩ := mb_z_s hf
  have hz := Option.some.inj hf
  subst hz
  exact hret _ _ _ _ h_2 dX11_isUnitNumber_7 hP hD hS
def f_Units_add (P0 : PI) (x1 : Int32) (x2 : Int32) (x3 : Int32) : Option (Int32 × PI) := mb_chk (P0 0 3) 16 (mb_let (mb_u2 P0 1 (P0 0 3).toNatClampNeg x1) (fun (P0_1 : PI) => mb_chk (P0_1 0 3) 16 (mb_let (mb_u2 P0_1 2 (P0_1 0 3).toNatClampNeg x2) (fun (P0_3 : PI) => mb_chk (P0_3 0 3) 16 (mb_let (mb_u2 P0_3 3 (P0_3 0 3).toNatClampNeg x3) (fun (P0_5 : PI) => mb_let (mb_uo P0_5 3 ((P0_5 0 3) + (1 : Int32))) (fun (P0_7 : PI) => some ((P0_5 0 3), P0_7))))))))
def rm_Units_add : Room := { frames := 0, cells := 0, slots := 0, locals := 0 }
set_option maxHeartbeats 4000000 in
set_option maxRecDepth 100000 in
theorem c_Units_add (l : Launch) (D : va_G) (k : Nat → ClassId) (sz : Nat) (b0 : Nat → Nat) (P0 : PI) (x1 : Int32) (x2 : Int32) (x3 : Int32) (z : Int32 × PI) (hf : f_Units_add P0 x1 x2 x3 = some z) : Met l yX9_add wsX9_add rm_Units_add (va_Pc [.ref (b0 0), .int x1, .int x2, .int x3] (gw_pre D vwCl (tyL k) (wC_Units k b0 P0) sz)) (va_Qi (fun (r : Int32) (_ : Unit) => r = z.1) (gw_b D vwCl (tyL k) (va_A (wC_Units k b0 P0) sz) (wC_Units k b0 z.2)) (va_A (wC_Units k b0 P0) sz)) 0 0 (va_A (wC_Units k b0 P0) sz) := by
  refine gm_i (cc := cX9_add) (maxL := 4) (by decide) rfl (Nat.le_of_ble_eq_true rfl) ?_
  intro p e s m args below meth c A Q ls H locs hx hb hml hown hts hK hN hA hP hD hS hl hret
  have hown : s.vm.findClass RX9 = some m.cls := hown
  have hl : lv_has ls 4 [(0, .ref (b0 0)), (1, .int x1), (2, .int x2), (3, .int x3)] := hl
  have iw_Units : ∀ w ∈ u_ws RX9 TX9 4, w ∈ wsX9_add := by decide +kernel
  have fl_9 := hts (.fieldLink RX9 9 "OneMeasure$Units" "sort" "[I") (by decide +kernel)
  have fl_15 := hts (.fieldLink RX9 15 "OneMeasure$Units" "size" "[I") (by decide +kernel)
  have fl_18 := hts (.fieldLink RX9 18 "OneMeasure$Units" "heap" "[I") (by decide +kernel)
  have fl_21 := hts (.fieldLink RX9 21 "OneMeasure$Units" "count" "I") (by decide +kernel)
  unfold f_Units_add at hf
  refine lv_aload_n hx hb dX9_add_0 rfl (lv_at hl 0 rfl) ?_
  refine va_get (D := D) (ci := 9) (v := .ref (b0 1)) (C := RX9) (T := TX9) (N := 4) hx hb hts iw_Units hown hK hP 0 rfl rfl 0 (by decide) fl_9 (fun _ h9 => h9) rfl dX9_add_1 ?_
  refine lv_aload_n hx hb dX9_add_4 rfl (lv_at hl 0 rfl) ?_
  refine va_get (D := D) (ci := 9) (v := .int (P0 0 3)) (C := RX9) (T := TX9) (N := 4) hx hb hts iw_Units hown hK hP 0 rfl rfl 3 (by decide) fl_21 (fun _ h9 => h9) rfl dX9_add_5 ?_
  refine lv_iload_n hx hb dX9_add_8 rfl (lv_at hl 1 rfl) ?_
  obtain ⟨h_2, hf⟩ := mb_chk_s hf
  obtain ⟨P0_1, e_, hf⟩ := mb_let_s hf
  refine va_iast hx hb hK hP hD hS 1 0 rfl rfl h_2 dX9_add_9 (fun H locs hP hD hS => ?_)
  have hP : va_P D vwCl (wC_Units k b0 P0_1) H := by rw [e_]; exact hP
  have hD : va_D A (wC_Units k b0 P0_1) := by rw [e_]; exact hD
  clear e_
  refine lv_aload_n hx hb dX9_add_10 rfl (lv_at hl 0 rfl) ?_
  refine va_get (D := D) (ci := 9) (v := .ref (b0 2)) (C := RX9) (T := TX9) (N := 4) hx hb hts iw_Units hown hK hP 0 rfl rfl 1 (by decide) fl_15 (fun _ h9 => h9) rfl dX9_add_11 ?_
  refine lv_aload_n hx hb dX9_add_14 rfl (lv_at hl 0 rfl) ?_
  refine va_get (D := D) (ci := 9) (v := .int (P0_1 0 3)) (C := RX9) (T := TX9) (N := 4) hx hb hts iw_Units hown hK hP 0 rfl rfl 3 (by decide) fl_21 (fun _ h9 => h9) rfl dX9_add_15 ?_
  refine lv_iload_n hx hb dX9_add_18 rfl (lv_at hl 2 rfl) ?_
  obtain ⟨h_4, hf⟩ := mb_chk_s hf
  obtain ⟨P0_3, e_, hf⟩ := mb_let_s hf
  refine va_iast hx hb hK hP hD hS 2 0 rfl rfl h_4 dX9_add_19 (fun H locs hP hD hS => ?_)
  have hP : va_P D vwCl (wC_Units k b0 P0_3) H := by rw [e_]; exact hP
  have hD : va_D A (wC_Units k b0 P0_3) := by rw [e_]; exact hD
  clear e_
  refine lv_aload_n hx hb dX9_add_20 rfl (lv_at hl 0 rfl) ?_
  refine va_get (D := D) (ci := 9) (v := .ref (b0 3)) (C := RX9) (T := TX9) (N := 4) hx hb hts iw_Units hown hK hP 0 rfl rfl 2 (by decide) fl_18 (fun _ h9 => h9) rfl dX9_add_21 ?_
  refine lv_aload_n hx hb dX9_add_24 rfl (lv_at hl 0 rfl) ?_
  refine va_get (D := D) (ci := 9) (v := .int (P0_3 0 3)) (C := RX9) (T := TX9) (N := 4) hx hb hts iw_Units hown hK hP 0 rfl rfl 3 (by decide) fl_21 (fun _ h9 => h9) rfl dX9_add_25 ?_
  refine lv_iload_n hx hb dX9_add_28 rfl (lv_at hl 3 rfl) ?_
  obtain ⟨h_6, hf⟩ := mb_chk_s hf
  obtain ⟨P0_5, e_, hf⟩ := mb_let_s hf
  refine va_iast hx hb hK hP hD hS 3 0 rfl rfl h_6 dX9_add_29 (fun H locs hP hD hS => ?_)
  have hP : va_P D vwCl (wC_Units k b0 P0_5) H := by rw [e_]; exact hP
  have hD : va_D A (wC_Units k b0 P0_5) := by rw [e_]; exact hD
  clear e_
  refine lv_aload_n hx hb dX9_add_30 rfl (lv_at hl 0 rfl) ?_
  refine lv_dup hx hb dX9_add_31 rfl ?_
  refine va_get (D := D) (ci := 9) (v := .int (P0_5 0 3)) (C := RX9) (T := TX9) (N := 4) hx hb hts iw_Units hown hK hP 0 rfl rfl 3 (by decide) fl_21 (fun _ h9 => h9) rfl dX9_add_32 ?_
  refine lv_dup_x1 hx hb dX9_add_35 rfl rfl ?_
  refine lv_iconst (v := 1) hx hb dX9_add_36 (by decide) ?_
  refine lv_iadd hx hb dX9_add_37 ?_
  obtain ⟨P0_7, e_, hf⟩ := mb_let_s hf
  refine va_put (D := D) (ci := 9) (v := .int ((P0_5 0 3) + (1 : Int32))) (ty := .int) (C := RX9) (T := TX9) (N := 4) hx hb hts iw_Units tyX9 tyX9_ok nmX9 hown hK hP hD hS 0 rfl rfl 3 (by decide) fl_21 (fun _ h9 => h9) rfl (by decide +kernel) rfl rfl (Nat.le_of_ble_eq_true rfl) dX9_add_38 (fun H locs hP hD hS => ?_)
  have hP : va_P D vwCl (wC_Units k b0 P0_7) H := by rw [e_]; exact hP
  have hD : va_D A (wC_Units k b0 P0_7) := by rw [e_]; exact hD
  clear e_
  have hz := Option.some.inj hf
  subst hz
  exact hret _ _ _ _ dX9_add_41 hP hD hS
def f_One_unit (P1 : PI) (x1 : Int32) (x2 : Int32) (x3 : Int32) : Option (Int32 × PI) := mb_bd1 (f_One_within x1 (0 : Int32) (1 : Int32)) (fun (r_1 : Int32) => (if r_1 = 0 then some ((-1 : Int32), P1) else mb_bd1 (f_One_within x2 (1 : Int32) (1000000 : Int32)) (fun (r_2 : Int32) => (if r_2 = 0 then some ((-1 : Int32), P1) else mb_jn (fun (y_3 : Int32) (y_4 : Int32) (y_5 : Int32) => mb_bd1 (f_One_within y_5 y_4 y_3) (fun (r_8 : Int32) => (if r_8 = 0 then some ((-1 : Int32), P1) else (if (P1 0 3) < (16 : Int32) then mb_bd2 (f_Units_add P1 x1 x2 x3) (fun (r_9 : Int32) (P1_10 : PI) => some (r_9, P1_10)) else some ((-3 : Int32), P1))))) (fun J34_6 => (if x1 = (1 : Int32) then J34_6 (100 : Int32) (0 : Int32) x3 else J34_6 (0 : Int32) (0 : Int32) x3))))))
def rm_One_unit : Room := { frames := 1, cells := 0, slots := 0, locals := 23 }
set_option maxHeartbeats 4000000 in
set_option maxRecDepth 100000 in
theorem c_One_unit (l : Launch) (D : va_G) (k : Nat → ClassId) (sz : Nat) (a0 : Nat → Nat → Nat) (P0 : PI) (P1 : PI) (x1 : Int32) (x2 : Int32) (x3 : Int32) (z : Int32 × PI) (hf : f_One_unit P1 x1 x2 x3 = some z) : Met l yX11_unit wsX11_unit rm_One_unit (va_Pc [.ref (a0 0 0), .int x1, .int x2, .int x3] (gw_pre D vwCl (tyL k) (wC_One k a0 P0 ++ (wC_Units k (a0 1) P1)) sz)) (va_Qi (fun (r : Int32) (_ : Unit) => r = z.1) (gw_b D vwCl (tyL k) (va_A (wC_One k a0 P0 ++ (wC_Units k (a0 1) P1)) sz) (wC_One k a0 P0 ++ (wC_Units k (a0 1) z.2))) (va_A (wC_One k a0 P0 ++ (wC_Units k (a0 1) P1)) sz)) 0 0 (va_A (wC_One k a0 P0 ++ (wC_Units k (a0 1) P1)) sz) := by
  refine gm_i (cc := cX11_unit) (maxL := 4) (by decide) rfl (Nat.le_of_ble_eq_true rfl) ?_
  intro p e s m args below meth c A Q ls H locs hx hb hml hown hts hK hN hA hP hD hS hl hret
  have hown : s.vm.findClass RX11 = some m.cls := hown
  have hl : lv_has ls 4 [(0, .ref (a0 0 0)), (1, .int x1), (2, .int x2), (3, .int x3)] := hl
  have iw_One : ∀ w ∈ u_ws RX11 TX11 16, w ∈ wsX11_unit := by decide +kernel
  have iw_Units : ∀ w ∈ u_ws RX9 TX9 4, w ∈ wsX11_unit := by decide +kernel
  have fl_10 := hts (.fieldLink RX11 10 "OneMeasure" "units" "LOneMeasure$Units;") (by decide +kernel)
  have fl_110 := hts (.fieldLink RX11 110 "OneMeasure$Units" "count" "I") (by decide +kernel)
  have lc_109 := hts (.constant RX11 109 (1000000)) (by decide +kernel)
  unfold f_One_unit at hf
  refine lv_iload_n hx hb dX11_unit_0 rfl (lv_at hl 1 rfl) ?_
  refine lv_iconst (v := 0) hx hb dX11_unit_1 (by decide) ?_
  refine lv_iconst (v := 1) hx hb dX11_unit_2 (by decide) ?_
  obtain ⟨r_1, hz, hf⟩ := mb_bd1_s hf
  refine gc_i (r0 := r_1) (ws' := (wC_One k a0 P0 ++ (wC_Units k (a0 1) P1))) (wr := (wC_One k a0 P0 ++ (wC_Units k (a0 1) P1))) (va_runS (As := [.int x1, .int (0 : Int32), .int (1 : Int32)]) (rest := []) ⟨hx, hb, hml, hown, hts⟩ (c_One_within l D k H.size x1 (0 : Int32) (1 : Int32) r_1 hz) (cwS 3 hts gX11_unit_X11_within rfl rfl rfl (by decide +kernel) ⟨Nat.le_of_ble_eq_true rfl, Nat.le_of_ble_eq_true rfl⟩) (gp_S hP hD hK hN [] (by decide +kernel) rfl) rfl rfl hl.1 rfl (lv_room (Nat.le_of_ble_eq_true rfl)) dX11_unit_3 ⟨Nat.zero_le _, Nat.zero_le _⟩) hP hD hS hA [] [0, 1, 2, 3, 4, 5, 6, 7] rfl rfl (by decide +kernel) (by decide +kernel) [0, 1, 2, 3, 4, 5, 6, 7] (by decide +kernel) rfl (fun H locs hP hD hS => ?_)
  clear hz
  refine lv_if_eq (tgt := 19) hx hb dX11_unit_6 (by decide) (fun c_15 => ?_) (fun c_15 => ?_)
  · have hf := mb_if_t c_15 hf
    refine lv_iconst (v := (-1)) hx hb dX11_unit_19 (by decide) ?_
    have hz := Option.some.inj hf
    subst hz
    exact hret _ _ _ _ dX11_unit_20 hP hD hS
  · have hf := mb_if_f c_15 hf
    refine lv_iload_n hx hb dX11_unit_9 rfl (lv_at hl 2 rfl) ?_
    refine lv_iconst (v := 1) hx hb dX11_unit_10 (by decide) ?_
    refine lv_ldc (v := (1000000)) hx hb hown lc_109 dX11_unit_11 ?_
    obtain ⟨r_2, hz, hf⟩ := mb_bd1_s hf
    refine gc_i (r0 := r_2) (ws' := (wC_One k a0 P0 ++ (wC_Units k (a0 1) P1))) (wr := (wC_One k a0 P0 ++ (wC_Units k (a0 1) P1))) (va_runS (As := [.int x2, .int (1 : Int32), .int (1000000 : Int32)]) (rest := []) ⟨hx, hb, hml, hown, hts⟩ (c_One_within l D k H.size x2 (1 : Int32) (1000000 : Int32) r_2 hz) (cwS 3 hts gX11_unit_X11_within rfl rfl rfl (by decide +kernel) ⟨Nat.le_of_ble_eq_true rfl, Nat.le_of_ble_eq_true rfl⟩) (gp_S hP hD hK hN [] (by decide +kernel) rfl) rfl rfl hl.1 rfl (lv_room (Nat.le_of_ble_eq_true rfl)) dX11_unit_13 ⟨Nat.zero_le _, Nat.zero_le _⟩) hP hD hS hA [] [0, 1, 2, 3, 4, 5, 6, 7] rfl rfl (by decide +kernel) (by decide +kernel) [0, 1, 2, 3, 4, 5, 6, 7] (by decide +kernel) rfl (fun H locs hP hD hS => ?_)
    clear hz
    refine lv_if_ne (tgt := 21) hx hb dX11_unit_16 (by decide) (fun c_14 => ?_) (fun c_14 => ?_)
    · have hf := mb_if_f c_14 hf
      refine lv_iload_n hx hb dX11_unit_21 rfl (lv_at hl 3 rfl) ?_
      refine lv_iconst (v := 0) hx hb dX11_unit_22 (by decide) ?_
      refine lv_iload_n hx hb dX11_unit_23 rfl (lv_at hl 1 rfl) ?_
      refine lv_iconst (v := 1) hx hb dX11_unit_24 (by decide) ?_
      obtain ⟨J34_6, eJ34_6, hf⟩ := mb_jn_s hf
      have j34_7 : ∀ (y_3 : Int32) (y_4 : Int32) (y_5 : Int32) (H : Heap) (locs : List Loc) (ls : Array Slot), J34_6 y_3 y_4 y_5 = some z → va_P D vwCl (wC_One k a0 P0 ++ (wC_Units k (a0 1) P1)) H → va_D A (wC_One k a0 P0 ++ (wC_Units k (a0 1) P1)) → va_S A s.heap H locs → lv_has ls 4 [(0, .ref (a0 0 0)), (1, .int x1), (2, .int x2), (3, .int x3)] → W p l e rm_One_unit s m args below meth c H locs 0 0 Q (F0 m 34 ls [.int y_3, .int y_4, .int y_5]) := by
        intro y_3 y_4 y_5 H locs ls hf hP hD hS hl
        have hf := mb_j3 eJ34_6 hf
        obtain ⟨r_8, hz, hf⟩ := mb_bd1_s hf
        refine gc_i (r0 := r_8) (ws' := (wC_One k a0 P0 ++ (wC_Units k (a0 1) P1))) (wr := (wC_One k a0 P0 ++ (wC_Units k (a0 1) P1))) (va_runS (As := [.int y_5, .int y_4, .int y_3]) (rest := []) ⟨hx, hb, hml, hown, hts⟩ (c_One_within l D k H.size y_5 y_4 y_3 r_8 hz) (cwS 3 hts gX11_unit_X11_within rfl rfl rfl (by decide +kernel) ⟨Nat.le_of_ble_eq_true rfl, Nat.le_of_ble_eq_true rfl⟩) (gp_S hP hD hK hN [] (by decide +kernel) rfl) rfl rfl hl.1 rfl (lv_room (Nat.le_of_ble_eq_true rfl)) dX11_unit_34 ⟨Nat.zero_le _, Nat.zero_le _⟩) hP hD hS hA [] [0, 1, 2, 3, 4, 5, 6, 7] rfl rfl (by decide +kernel) (by decide +kernel) [0, 1, 2, 3, 4, 5, 6, 7] (by decide +kernel) rfl (fun H locs hP hD hS => ?_)
        clear hz
        refine lv_if_ne (tgt := 42) hx hb dX11_unit_37 (by decide) (fun c_12 => ?_) (fun c_12 => ?_)
        · have hf := mb_if_f c_12 hf
          refine lv_aload_n hx hb dX11_unit_42 rfl (lv_at hl 0 rfl) ?_
          refine va_get (D := D) (ci := 11) (v := .ref (a0 1 0)) (C := RX11) (T := TX11) (N := 16) hx hb hts iw_One hown hK hP 0 rfl rfl 0 (by decide) fl_10 (fun _ h9 => h9) rfl dX11_unit_43 ?_
          refine va_get (D := D) (ci := 9) (v := .int (P1 0 3)) (C := RX9) (T := TX9) (N := 4) hx hb hts iw_Units hown hK hP 4 rfl rfl 3 (by decide) fl_110 (fun _ h9 => h9) rfl dX11_unit_46 ?_
          refine lv_bipush (v := 16) hx hb dX11_unit_49 (by decide) ?_
          refine lv_icmp_lt (tgt := 57) hx hb dX11_unit_51 (by decide) (fun c_11 => ?_) (fun c_11 => ?_)
          · have hf := mb_if_t c_11 hf
            refine lv_aload_n hx hb dX11_unit_57 rfl (lv_at hl 0 rfl) ?_
            refine va_get (D := D) (ci := 11) (v := .ref (a0 1 0)) (C := RX11) (T := TX11) (N := 16) hx hb hts iw_One hown hK hP 0 rfl rfl 0 (by decide) fl_10 (fun _ h9 => h9) rfl dX11_unit_58 ?_
            refine lv_iload_n hx hb dX11_unit_61 rfl (lv_at hl 1 rfl) ?_
            refine lv_iload_n hx hb dX11_unit_62 rfl (lv_at hl 2 rfl) ?_
            refine lv_iload_n hx hb dX11_unit_63 rfl (lv_at hl 3 rfl) ?_
            obtain ⟨r_9, P1_10, hz, hf⟩ := mb_bd2_s hf
            refine gc_i (r0 := r_9) (ws' := (wC_One k a0 P0 ++ (wC_Units k (a0 1) P1_10))) (wr := (wC_One k a0 P0)) (va_runV (As := [.int x1, .int x2, .int x3]) (rest := []) ⟨hx, hb, hml, hown, hts⟩ (c_Units_add l D k H.size (a0 1) P1 x1 x2 x3 (r_9, P1_10) hz) (cwV 3 hts gX11_unit_X9_add rfl rfl rfl (by decide +kernel) ⟨Nat.le_of_ble_eq_true rfl, Nat.le_of_ble_eq_true rfl⟩) (gp_V (ci := 9) (q0 := 0) (q := (RX9, TX9, 4)) hP hD hK hN [4, 5, 6, 7] (by decide +kernel) rfl rfl rfl) rfl rfl hl.1 rfl (lv_room (Nat.le_of_ble_eq_true rfl)) dX11_unit_64 ⟨Nat.zero_le _, Nat.zero_le _⟩) hP hD hS hA [4, 5, 6, 7] [0, 1, 2, 3] rfl rfl (by decide +kernel) (by decide +kernel) [0, 1, 2, 3, 4, 5, 6, 7] (by decide +kernel) rfl (fun H locs hP hD hS => ?_)
            clear hz
            have hz := Option.some.inj hf
            subst hz
            exact hret _ _ _ _ dX11_unit_67 hP hD hS
          · have hf := mb_if_f c_11 hf
            refine lv_bipush (v := (-3)) hx hb dX11_unit_54 (by decide) ?_
            have hz := Option.some.inj hf
            subst hz
            exact hret _ _ _ _ dX11_unit_56 hP hD hS
        · have hf := mb_if_t c_12 hf
          refine lv_iconst (v := (-1)) hx hb dX11_unit_40 (by decide) ?_
          have hz := Option.some.inj hf
          subst hz
          exact hret _ _ _ _ dX11_unit_41 hP hD hS
      refine lv_icmp_ne (tgt := 33) hx hb dX11_unit_25 (by decide) (fun c_13 => ?_) (fun c_13 => ?_)
      · have hf := mb_if_f c_13 hf
        refine lv_iconst (v := 0) hx hb dX11_unit_33 (by decide) ?_
        exact j34_7 (0 : Int32) (0 : Int32) x3 _ _ _ hf hP hD hS (lv_sub hl [0, 1, 2, 3] rfl)
      · have hf := mb_if_t c_13 hf
        refine lv_bipush (v := 100) hx hb dX11_unit_28 (by decide) ?_
        refine lv_goto (tgt := 34) hx hb dX11_unit_30 (by decide) ?_
        exact j34_7 (100 : Int32) (0 : Int32) x3 _ _ _ hf hP hD hS (lv_sub hl [0, 1, 2, 3] rfl)
    · have hf := mb_if_t c_14 hf
      refine lv_iconst (v := (-1)) hx hb dX11_unit_19 (by decide) ?_
      have hz := Option.some.inj hf
      subst hz
      exact hret _ _ _ _ dX11_unit_20 hP hD hS
def f_Units_told (P0 : PI) (x1 : Int32) : Option (Int32) := (if x1 < 0 then some (0 : Int32) else (if (P0 0 3) ≤ x1 then some (0 : Int32) else some (1 : Int32)))
def rm_Units_told : Room := { frames := 0, cells := 0, slots := 0, locals := 0 }
set_option maxHeartbeats 4000000 in
set_option maxRecDepth 100000 in
theorem c_Units_told (l : Launch) (D : va_G) (k : Nat → ClassId) (sz : Nat) (b0 : Nat → Nat) (P0 : PI) (x1 : Int32) (z : Int32) (hf : f_Units_told P0 x1 = some z) : Met l yX9_told wsX9_told rm_Units_told (va_Pc [.ref (b0 0), .int x1] (gw_pre D vwCl (tyL k) (wC_Units k b0 P0) sz)) (va_Qi (fun (r : Int32) (_ : Unit) => r = z) (gw_b D vwCl (tyL k) (va_A (wC_Units k b0 P0) sz) (wC_Units k b0 P0)) (va_A (wC_Units k b0 P0) sz)) 0 0 (va_A (wC_Units k b0 P0) sz) := by
  refine gm_z (cc := cX9_told) (maxL := 2) (by decide) rfl (Nat.le_of_ble_eq_true rfl) ?_
  intro p e s m args below meth c A Q ls H locs hx hb hml hown hts hK hN hA hP hD hS hl hret
  have hown : s.vm.findClass RX9 = some m.cls := hown
  have hl : lv_has ls 2 [(0, .ref (b0 0)), (1, .int x1)] := hl
  have iw_Units : ∀ w ∈ u_ws RX9 TX9 4, w ∈ wsX9_told := by decide +kernel
  have fl_21 := hts (.fieldLink RX9 21 "OneMeasure$Units" "count" "I") (by decide +kernel)
  unfold f_Units_told at hf
  refine lv_iload_n hx hb dX9_told_0 rfl (lv_at hl 1 rfl) ?_
  refine lv_if_lt (tgt := 16) hx hb dX9_told_1 (by decide) (fun c_2 => ?_) (fun c_2 => ?_)
  · have hf := mb_if_t c_2 hf
    refine lv_iconst (v := 0) hx hb dX9_told_16 (by decide) ?_
    have hz := Option.some.inj hf
    subst hz
    exact hret _ _ _ _ rfl dX9_told_17 hP hD hS
  · have hf := mb_if_f c_2 hf
    refine lv_iload_n hx hb dX9_told_4 rfl (lv_at hl 1 rfl) ?_
    refine lv_aload_n hx hb dX9_told_5 rfl (lv_at hl 0 rfl) ?_
    refine va_get (D := D) (ci := 9) (v := .int (P0 0 3)) (C := RX9) (T := TX9) (N := 4) hx hb hts iw_Units hown hK hP 0 rfl rfl 3 (by decide) fl_21 (fun _ h9 => h9) rfl dX9_told_6 ?_
    refine lv_icmp_ge (tgt := 16) hx hb dX9_told_9 (by decide) (fun c_1 => ?_) (fun c_1 => ?_)
    · have hf := mb_if_t c_1 hf
      refine lv_iconst (v := 0) hx hb dX9_told_16 (by decide) ?_
      have hz := Option.some.inj hf
      subst hz
      exact hret _ _ _ _ rfl dX9_told_17 hP hD hS
    · have hf := mb_if_f c_1 hf
      refine lv_iconst (v := 1) hx hb dX9_told_12 (by decide) ?_
      refine lv_goto (tgt := 17) hx hb dX9_told_13 (by decide) ?_
      have hz := Option.some.inj hf
      subst hz
      exact hret _ _ _ _ rfl dX9_told_17 hP hD hS
def f_Units_alike (P0 : PI) (x1 : Int32) (x2 : Int32) : Option (Int32) := mb_chk x1 16 (mb_chk x2 16 ((if (P0 1 x1.toNatClampNeg) = (P0 1 x2.toNatClampNeg) then some (1 : Int32) else some (0 : Int32))))
def rm_Units_alike : Room := { frames := 0, cells := 0, slots := 0, locals := 0 }
set_option maxHeartbeats 4000000 in
set_option maxRecDepth 100000 in
theorem c_Units_alike (l : Launch) (D : va_G) (k : Nat → ClassId) (sz : Nat) (b0 : Nat → Nat) (P0 : PI) (x1 : Int32) (x2 : Int32) (z : Int32) (hf : f_Units_alike P0 x1 x2 = some z) : Met l yX9_alike wsX9_alike rm_Units_alike (va_Pc [.ref (b0 0), .int x1, .int x2] (gw_pre D vwCl (tyL k) (wC_Units k b0 P0) sz)) (va_Qi (fun (r : Int32) (_ : Unit) => r = z) (gw_b D vwCl (tyL k) (va_A (wC_Units k b0 P0) sz) (wC_Units k b0 P0)) (va_A (wC_Units k b0 P0) sz)) 0 0 (va_A (wC_Units k b0 P0) sz) := by
  refine gm_z (cc := cX9_alike) (maxL := 3) (by decide) rfl (Nat.le_of_ble_eq_true rfl) ?_
  intro p e s m args below meth c A Q ls H locs hx hb hml hown hts hK hN hA hP hD hS hl hret
  have hown : s.vm.findClass RX9 = some m.cls := hown
  have hl : lv_has ls 3 [(0, .ref (b0 0)), (1, .int x1), (2, .int x2)] := hl
  have iw_Units : ∀ w ∈ u_ws RX9 TX9 4, w ∈ wsX9_alike := by decide +kernel
  have fl_9 := hts (.fieldLink RX9 9 "OneMeasure$Units" "sort" "[I") (by decide +kernel)
  unfold f_Units_alike at hf
  refine lv_aload_n hx hb dX9_alike_0 rfl (lv_at hl 0 rfl) ?_
  refine va_get (D := D) (ci := 9) (v := .ref (b0 1)) (C := RX9) (T := TX9) (N := 4) hx hb hts iw_Units hown hK hP 0 rfl rfl 0 (by decide) fl_9 (fun _ h9 => h9) rfl dX9_alike_1 ?_
  refine lv_iload_n hx hb dX9_alike_4 rfl (lv_at hl 1 rfl) ?_
  obtain ⟨h_1, hf⟩ := mb_chk_s hf
  refine va_iald hx hb hK hP 1 0 rfl rfl h_1 dX9_alike_5 ?_
  refine lv_aload_n hx hb dX9_alike_6 rfl (lv_at hl 0 rfl) ?_
  refine va_get (D := D) (ci := 9) (v := .ref (b0 1)) (C := RX9) (T := TX9) (N := 4) hx hb hts iw_Units hown hK hP 0 rfl rfl 0 (by decide) fl_9 (fun _ h9 => h9) rfl dX9_alike_7 ?_
  refine lv_iload_n hx hb dX9_alike_10 rfl (lv_at hl 2 rfl) ?_
  obtain ⟨h_2, hf⟩ := mb_chk_s hf
  refine va_iald hx hb hK hP 1 0 rfl rfl h_2 dX9_alike_11 ?_
  refine lv_icmp_ne (tgt := 19) hx hb dX9_alike_12 (by decide) (fun c_3 => ?_) (fun c_3 => ?_)
  · have hf := mb_if_f c_3 hf
    refine lv_iconst (v := 0) hx hb dX9_alike_19 (by decide) ?_
    have hz := Option.some.inj hf
    subst hz
    exact hret _ _ _ _ rfl dX9_alike_20 hP hD hS
  · have hf := mb_if_t c_3 hf
    refine lv_iconst (v := 1) hx hb dX9_alike_15 (by decide) ?_
    refine lv_goto (tgt := 20) hx hb dX9_alike_16 (by decide) ?_
    have hz := Option.some.inj hf
    subst hz
    exact hret _ _ _ _ rfl dX9_alike_20 hP hD hS
