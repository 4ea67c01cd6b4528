def f_Decrees_lets (P0 : PI) (x1 : Int32) (x2 : Int32) (x3 : Int32) : Option (Int32) := mb_bd1 (f_Decrees_ruling P0 x1 x2 x3) (fun (r_1 : Int32) => mb_let r_1 (fun (x4_2 : Int32) => (if x4_2 < 0 then some (1 : Int32) else mb_chk x4_2 33 ((if (P0 1 x4_2.toNatClampNeg) = (97 : Int32) then some (1 : Int32) else some (0 : Int32))))))
def rm_Decrees_lets : Room := { frames := 2, cells := 0, slots := 0, locals := 49 }
set_option maxHeartbeats 4000000 in
set_option maxRecDepth 100000 in
theorem c_Decrees_lets (l : Launch) (D : va_G) (k : Nat → ClassId) (sz : Nat) (b0 : Nat → Nat) (P0 : PI) (x1 : Int32) (x2 : Int32) (x3 : Int32) (z : Int32) (hf : f_Decrees_lets P0 x1 x2 x3 = some z) : Met l yX0_lets wsX0_lets rm_Decrees_lets (va_Pc [.ref (b0 0), .int x1, .int x2, .int x3] (gw_pre D vwCl (tyL k) (wC_Decrees k b0 P0) sz)) (va_Qi (fun (r : Int32) (_ : Unit) => r = z) (gw_b D vwCl (tyL k) (va_A (wC_Decrees k b0 P0) sz) (wC_Decrees k b0 P0)) (va_A (wC_Decrees k b0 P0) sz)) 0 0 (va_A (wC_Decrees k b0 P0) sz) := by
  refine gm_z (cc := cX0_lets) (maxL := 5) (by decide) rfl (Nat.le_of_ble_eq_true rfl) ?_
  intro p e s m args below meth c A Q ls H locs hx hb hml hown hts hK hN hA hP hD hS hl hret
  have hown : s.vm.findClass RX0 = some m.cls := hown
  have hl : lv_has ls 5 [(0, .ref (b0 0)), (1, .int x1), (2, .int x2), (3, .int x3)] := hl
  have iw_Decrees : ∀ w ∈ u_ws RX0 TX0 8, w ∈ wsX0_lets := by decide +kernel
  have fl_13 := hts (.fieldLink RX0 13 "OneMeasure$Decrees" "letter" "[I") (by decide +kernel)
  unfold f_Decrees_lets at hf
  refine lv_aload_n hx hb dX0_lets_0 rfl (lv_at hl 0 rfl) ?_
  refine lv_iload_n hx hb dX0_lets_1 rfl (lv_at hl 1 rfl) ?_
  refine lv_iload_n hx hb dX0_lets_2 rfl (lv_at hl 2 rfl) ?_
  refine lv_iload_n hx hb dX0_lets_3 rfl (lv_at hl 3 rfl) ?_
  obtain ⟨r_1, hz, hf⟩ := mb_bd1_s hf
  refine gc_i (r0 := r_1) (ws' := (wC_Decrees k b0 P0)) (wr := ([] : va_W)) (va_runV (As := [.int x1, .int x2, .int x3]) (rest := []) ⟨hx, hb, hml, hown, hts⟩ (c_Decrees_ruling l D k H.size b0 P0 x1 x2 x3 r_1 hz) (cwV 3 hts gX0_lets_X0_ruling rfl rfl rfl (by decide +kernel) ⟨Nat.le_of_ble_eq_true rfl, Nat.le_of_ble_eq_true rfl⟩) (gp_V (ci := 0) (q0 := 0) (q := (RX0, TX0, 8)) hP hD hK hN [0, 1, 2, 3, 4, 5] (by decide +kernel) rfl rfl rfl) rfl rfl hl.1 rfl (lv_room (Nat.le_of_ble_eq_true rfl)) dX0_lets_4 ⟨Nat.zero_le _, Nat.zero_le _⟩) hP hD hS hA [0, 1, 2, 3, 4, 5] [] rfl rfl (by decide +kernel) (by decide +kernel) [0, 1, 2, 3, 4, 5] (by decide +kernel) rfl (fun H locs hP hD hS => ?_)
  clear hz
  obtain ⟨x4_2, e_, hf⟩ := mb_let_s hf
  refine mb_topi e_ ?_
  clear e_
  refine lv_istore (lv' := [(4, .int x4_2), (0, .ref (b0 0)), (1, .int x1), (2, .int x2), (3, .int x3)]) hx hb dX0_lets_7 hl (by decide) rfl (fun ls hl => ?_)
  refine lv_iload hx hb dX0_lets_9 (lv_at hl 0 rfl) ?_
  refine lv_if_lt (tgt := 26) hx hb dX0_lets_11 (by decide) (fun c_5 => ?_) (fun c_5 => ?_)
  · have hf := mb_if_t c_5 hf
    refine lv_iconst (v := 1) hx hb dX0_lets_26 (by decide) ?_
    refine lv_goto (tgt := 31) hx hb dX0_lets_27 (by decide) ?_
    have hz := Option.some.inj hf
    subst hz
    exact hret _ _ _ _ mb_n1 dX0_lets_31 hP hD hS
  · have hf := mb_if_f c_5 hf
    refine lv_aload_n hx hb dX0_lets_14 rfl (lv_at hl 1 rfl) ?_
    refine va_get (D := D) (ci := 0) (v := .ref (b0 1)) (C := RX0) (T := TX0) (N := 8) hx hb hts iw_Decrees hown hK hP 0 rfl rfl 0 (by decide) fl_13 (fun _ h9 => h9) rfl dX0_lets_15 ?_
    refine lv_iload hx hb dX0_lets_18 (lv_at hl 0 rfl) ?_
    obtain ⟨h_3, hf⟩ := mb_chk_s hf
    refine va_iald hx hb hK hP 1 0 rfl rfl h_3 dX0_lets_20 ?_
    refine lv_bipush (v := 97) hx hb dX0_lets_21 (by decide) ?_
    refine lv_icmp_ne (tgt := 30) hx hb dX0_lets_23 (by decide) (fun c_4 => ?_) (fun c_4 => ?_)
    · have hf := mb_if_f c_4 hf
      refine lv_iconst (v := 0) hx hb dX0_lets_30 (by decide) ?_
      have hz := Option.some.inj hf
      subst hz
      exact hret _ _ _ _ mb_n0 dX0_lets_31 hP hD hS
    · have hf := mb_if_t c_4 hf
      refine lv_iconst (v := 1) hx hb dX0_lets_26 (by decide) ?_
      refine lv_goto (tgt := 31) hx hb dX0_lets_27 (by decide) ?_
      have hz := Option.some.inj hf
      subst hz
      exact hret _ _ _ _ mb_n1 dX0_lets_31 hP hD hS
def f_One_let (P1 : PI) (x1 : Int32) (x2 : Int32) (x3 : Int32) : Option (Int32) := mb_bd1 (f_One_isUnitNumber x1) (fun (r_1 : Int32) => (if r_1 = 0 then some (-1 : Int32) else mb_bd1 (f_One_isDistrict x2) (fun (r_2 : Int32) => (if r_2 = 0 then some (-1 : Int32) else mb_bd1 (f_One_isDay x3) (fun (r_3 : Int32) => (if r_3 = 0 then some (-1 : Int32) else mb_bd1 (f_Decrees_lets P1 x1 x2 x3) (fun (r_4 : Int32) => (if r_4 = 0 then some (0 : Int32) else some (1 : Int32)))))))))
def rm_One_let : Room := { frames := 3, cells := 0, slots := 0, locals := 73 }
set_option maxHeartbeats 4000000 in
set_option maxRecDepth 100000 in
theorem c_One_let (l : Launch) (D : va_G) (k : Nat → ClassId) (sz : Nat) (a0 : Nat → Nat → Nat) (P0 : PI) (P1 : PI) (x1 : Int32) (x2 : Int32) (x3 : Int32) (z : Int32) (hf : f_One_let P1 x1 x2 x3 = some z) : Met l yX11_let wsX11_let rm_One_let (va_Pc [.ref (a0 0 0), .int x1, .int x2, .int x3] (gw_pre D vwCl (tyL k) (wC_One k a0 P0 ++ (wC_Decrees k (a0 7) P1)) sz)) (va_Qi (fun (r : Int32) (_ : Unit) => r = z) (gw_b D vwCl (tyL k) (va_A (wC_One k a0 P0 ++ (wC_Decrees k (a0 7) P1)) sz) (wC_One k a0 P0 ++ (wC_Decrees k (a0 7) P1))) (va_A (wC_One k a0 P0 ++ (wC_Decrees k (a0 7) P1)) sz)) 0 0 (va_A (wC_One k a0 P0 ++ (wC_Decrees k (a0 7) P1)) sz) := by
  refine gm_i (cc := cX11_let) (maxL := 4) (by decide) rfl (Nat.le_of_ble_eq_true rfl) ?_
  intro p e s m args below meth c A Q ls H locs hx hb hml hown hts hK hN hA hP hD hS hl hret
  have hown : s.vm.findClass RX11 = some m.cls := hown
  have hl : lv_has ls 4 [(0, .ref (a0 0 0)), (1, .int x1), (2, .int x2), (3, .int x3)] := hl
  have iw_One : ∀ w ∈ u_ws RX11 TX11 16, w ∈ wsX11_let := by decide +kernel
  have fl_54 := hts (.fieldLink RX11 54 "OneMeasure" "decrees" "LOneMeasure$Decrees;") (by decide +kernel)
  unfold f_One_let at hf
  refine lv_iload_n hx hb dX11_let_0 rfl (lv_at hl 1 rfl) ?_
  obtain ⟨r_1, hz, hf⟩ := mb_bd1_s hf
  refine gc_i (r0 := r_1) (ws' := (wC_One k a0 P0 ++ (wC_Decrees k (a0 7) P1))) (wr := (wC_One k a0 P0 ++ (wC_Decrees k (a0 7) P1))) (va_runS (As := [.int x1]) (rest := []) ⟨hx, hb, hml, hown, hts⟩ (c_One_isUnitNumber l D k H.size x1 r_1 hz) (cwS 1 hts gX11_let_X11_isUnitNumber rfl rfl rfl (by decide +kernel) ⟨Nat.le_of_ble_eq_true rfl, Nat.le_of_ble_eq_true rfl⟩) (gp_S hP hD hK hN [] (by decide +kernel) rfl) rfl rfl hl.1 rfl (lv_room (Nat.le_of_ble_eq_true rfl)) dX11_let_1 ⟨Nat.zero_le _, Nat.zero_le _⟩) hP hD hS hA [] [0, 1, 2, 3, 4, 5, 6, 7, 8, 9] rfl rfl (by decide +kernel) (by decide +kernel) [0, 1, 2, 3, 4, 5, 6, 7, 8, 9] (by decide +kernel) rfl (fun H locs hP hD hS => ?_)
  clear hz
  refine lv_if_eq (tgt := 21) hx hb dX11_let_4 (by decide) (fun c_8 => ?_) (fun c_8 => ?_)
  · have hf := mb_if_t c_8 hf
    refine lv_iconst (v := (-1)) hx hb dX11_let_21 (by decide) ?_
    have hz := Option.some.inj hf
    subst hz
    exact hret _ _ _ _ dX11_let_22 hP hD hS
  · have hf := mb_if_f c_8 hf
    refine lv_iload_n hx hb dX11_let_7 rfl (lv_at hl 2 rfl) ?_
    obtain ⟨r_2, hz, hf⟩ := mb_bd1_s hf
    refine gc_i (r0 := r_2) (ws' := (wC_One k a0 P0 ++ (wC_Decrees k (a0 7) P1))) (wr := (wC_One k a0 P0 ++ (wC_Decrees k (a0 7) P1))) (va_runS (As := [.int x2]) (rest := []) ⟨hx, hb, hml, hown, hts⟩ (c_One_isDistrict l D k H.size x2 r_2 hz) (cwS 1 hts gX11_let_X11_isDistrict rfl rfl rfl (by decide +kernel) ⟨Nat.le_of_ble_eq_true rfl, Nat.le_of_ble_eq_true rfl⟩) (gp_S hP hD hK hN [] (by decide +kernel) rfl) rfl rfl hl.1 rfl (lv_room (Nat.le_of_ble_eq_true rfl)) dX11_let_8 ⟨Nat.zero_le _, Nat.zero_le _⟩) hP hD hS hA [] [0, 1, 2, 3, 4, 5, 6, 7, 8, 9] rfl rfl (by decide +kernel) (by decide +kernel) [0, 1, 2, 3, 4, 5, 6, 7, 8, 9] (by decide +kernel) rfl (fun H locs hP hD hS => ?_)
    clear hz
    refine lv_if_eq (tgt := 21) hx hb dX11_let_11 (by decide) (fun c_7 => ?_) (fun c_7 => ?_)
    · have hf := mb_if_t c_7 hf
      refine lv_iconst (v := (-1)) hx hb dX11_let_21 (by decide) ?_
      have hz := Option.some.inj hf
      subst hz
      exact hret _ _ _ _ dX11_let_22 hP hD hS
    · have hf := mb_if_f c_7 hf
      refine lv_iload_n hx hb dX11_let_14 rfl (lv_at hl 3 rfl) ?_
      obtain ⟨r_3, hz, hf⟩ := mb_bd1_s hf
      refine gc_i (r0 := r_3) (ws' := (wC_One k a0 P0 ++ (wC_Decrees k (a0 7) P1))) (wr := (wC_One k a0 P0 ++ (wC_Decrees k (a0 7) P1))) (va_runS (As := [.int x3]) (rest := []) ⟨hx, hb, hml, hown, hts⟩ (c_One_isDay l D k H.size x3 r_3 hz) (cwS 1 hts gX11_let_X11_isDay rfl rfl rfl (by decide +kernel) ⟨Nat.le_of_ble_eq_true rfl, Nat.le_of_ble_eq_true rfl⟩) (gp_S hP hD hK hN [] (by decide +kernel) rfl) rfl rfl hl.1 rfl (lv_room (Nat.le_of_ble_eq_true rfl)) dX11_let_15 ⟨Nat.zero_le _, Nat.zero_le _⟩) hP hD hS hA [] [0, 1, 2, 3, 4, 5, 6, 7, 8, 9] rfl rfl (by decide +kernel) (by decide +kernel) [0, 1, 2, 3, 4, 5, 6, 7, 8, 9] (by decide +kernel) rfl (fun H locs hP hD hS => ?_)
      clear hz
      refine lv_if_ne (tgt := 23) hx hb dX11_let_18 (by decide) (fun c_6 => ?_) (fun c_6 => ?_)
      · have hf := mb_if_f c_6 hf
        refine lv_aload_n hx hb dX11_let_23 rfl (lv_at hl 0 rfl) ?_
        refine va_get (D := D) (ci := 11) (v := .ref (a0 7 0)) (C := RX11) (T := TX11) (N := 16) hx hb hts iw_One hown hK hP 0 rfl rfl 6 (by decide) fl_54 (fun _ h9 => h9) rfl dX11_let_24 ?_
        refine lv_iload_n hx hb dX11_let_27 rfl (lv_at hl 1 rfl) ?_
        refine lv_iload_n hx hb dX11_let_28 rfl (lv_at hl 2 rfl) ?_
        refine lv_iload_n hx hb dX11_let_29 rfl (lv_at hl 3 rfl) ?_
        obtain ⟨r_4, hz, hf⟩ := mb_bd1_s hf
        refine gc_i (r0 := r_4) (ws' := (wC_One k a0 P0 ++ (wC_Decrees k (a0 7) P1))) (wr := (wC_One k a0 P0)) (va_runV (As := [.int x1, .int x2, .int x3]) (rest := []) ⟨hx, hb, hml, hown, hts⟩ (c_Decrees_lets l D k H.size (a0 7) P1 x1 x2 x3 r_4 hz) (cwV 3 hts gX11_let_X0_lets rfl rfl rfl (by decide +kernel) ⟨Nat.le_of_ble_eq_true rfl, Nat.le_of_ble_eq_true rfl⟩) (gp_V (ci := 0) (q0 := 0) (q := (RX0, TX0, 8)) hP hD hK hN [4, 5, 6, 7, 8, 9] (by decide +kernel) rfl rfl rfl) rfl rfl hl.1 rfl (lv_room (Nat.le_of_ble_eq_true rfl)) dX11_let_30 ⟨Nat.zero_le _, Nat.zero_le _⟩) hP hD hS hA [4, 5, 6, 7, 8, 9] [0, 1, 2, 3] rfl rfl (by decide +kernel) (by decide +kernel) [0, 1, 2, 3, 4, 5, 6, 7, 8, 9] (by decide +kernel) rfl (fun H locs hP hD hS => ?_)
        clear hz
        refine lv_if_eq (tgt := 40) hx hb dX11_let_33 (by decide) (fun c_5 => ?_) (fun c_5 => ?_)
        · have hf := mb_if_t c_5 hf
          refine lv_iconst (v := 0) hx hb dX11_let_40 (by decide) ?_
          have hz := Option.some.inj hf
          subst hz
          exact hret _ _ _ _ dX11_let_41 hP hD hS
        · have hf := mb_if_f c_5 hf
          refine lv_iconst (v := 1) hx hb dX11_let_36 (by decide) ?_
          refine lv_goto (tgt := 41) hx hb dX11_let_37 (by decide) ?_
          have hz := Option.some.inj hf
          subst hz
          exact hret _ _ _ _ dX11_let_41 hP hD hS
      · have hf := mb_if_t c_6 hf
        refine lv_iconst (v := (-1)) hx hb dX11_let_21 (by decide) ?_
        have hz := Option.some.inj hf
        subst hz
        exact hret _ _ _ _ dX11_let_22 hP hD hS
def f_One_why (P1 : PI) (x1 : Int32) (x2 : Int32) (x3 : Int32) : Option (Int32) := mb_bd1 (f_One_isUnitNumber x1) (fun (r_1 : Int32) => (if r_1 = 0 then some (-1 : Int32) else mb_bd1 (f_One_isDistrict x2) (fun (r_2 : Int32) => (if r_2 = 0 then some (-1 : Int32) else mb_bd1 (f_One_isDay x3) (fun (r_3 : Int32) => (if r_3 = 0 then some (-1 : Int32) else mb_bd1 (f_Decrees_ruling P1 x1 x2 x3) (fun (r_4 : Int32) => some r_4)))))))
def rm_One_why : Room := { frames := 2, cells := 0, slots := 0, locals := 49 }
set_option maxHeartbeats 4000000 in
set_option maxRecDepth 100000 in
theorem c_One_why (l : Launch) (D : va_G) (k : Nat → ClassId) (sz : Nat) (a0 : Nat → Nat → Nat) (P0 : PI) (P1 : PI) (x1 : Int32) (x2 : Int32) (x3 : Int32) (z : Int32) (hf : f_One_why P1 x1 x2 x3 = some z) : Met l yX11_why wsX11_why rm_One_why (va_Pc [.ref (a0 0 0), .int x1, .int x2, .int x3] (gw_pre D vwCl (tyL k) (wC_One k a0 P0 ++ (wC_Decrees k (a0 7) P1)) sz)) (va_Qi (fun (r : Int32) (_ : Unit) => r = z) (gw_b D vwCl (tyL k) (va_A (wC_One k a0 P0 ++ (wC_Decrees k (a0 7) P1)) sz) (wC_One k a0 P0 ++ (wC_Decrees k (a0 7) P1))) (va_A (wC_One k a0 P0 ++ (wC_Decrees k (a0 7) P1)) sz)) 0 0 (va_A (wC_One k a0 P0 ++ (wC_Decrees k (a0 7) P1)) sz) := by
  refine gm_i (cc := cX11_why) (maxL := 4) (by decide) rfl (Nat.le_of_ble_eq_true rfl) ?_
  intro p e s m args below meth c A Q ls H locs hx hb hml hown hts hK hN hA hP hD hS hl hret
  have hown : s.vm.findClass RX11 = some m.cls := hown
  have hl : lv_has ls 4 [(0, .ref (a0 0 0)), (1, .int x1), (2, .int x2), (3, .int x3)] := hl
  have iw_One : ∀ w ∈ u_ws RX11 TX11 16, w ∈ wsX11_why := by decide +kernel
  have fl_54 := hts (.fieldLink RX11 54 "OneMeasure" "decrees" "LOneMeasure$Decrees;") (by decide +kernel)
  unfold f_One_why at hf
  refine lv_iload_n hx hb dX11_why_0 rfl (lv_at hl 1 rfl) ?_
  obtain ⟨r_1, hz, hf⟩ := mb_bd1_s hf
  refine gc_i (r0 := r_1) (ws' := (wC_One k a0 P0 ++ (wC_Decrees k (a0 7) P1))) (wr := (wC_One k a0 P0 ++ (wC_Decrees k (a0 7) P1))) (va_runS (As := [.int x1]) (rest := []) ⟨hx, hb, hml, hown, hts⟩ (c_One_isUnitNumber l D k H.size x1 r_1 hz) (cwS 1 hts gX11_why_X11_isUnitNumber rfl rfl rfl (by decide +kernel) ⟨Nat.le_of_ble_eq_true rfl, Nat.le_of_ble_eq_true rfl⟩) (gp_S hP hD hK hN [] (by decide +kernel) rfl) rfl rfl hl.1 rfl (lv_room (Nat.le_of_ble_eq_true rfl)) dX11_why_1 ⟨Nat.zero_le _, Nat.zero_le _⟩) hP hD hS hA [] [0, 1, 2, 3, 4, 5, 6, 7, 8, 9] rfl rfl (by decide +kernel) (by decide +kernel) [0, 1, 2, 3, 4, 5, 6, 7, 8, 9] (by decide +kernel) rfl (fun H locs hP hD hS => ?_)
  clear hz
  refine lv_if_eq (tgt := 21) hx hb dX11_why_4 (by decide) (fun c_7 => ?_) (fun c_7 => ?_)
  · have hf := mb_if_t c_7 hf
    refine lv_iconst (v := (-1)) hx hb dX11_why_21 (by decide) ?_
    have hz := Option.some.inj hf
    subst hz
    exact hret _ _ _ _ dX11_why_22 hP hD hS
  · have hf := mb_if_f c_7 hf
    refine lv_iload_n hx hb dX11_why_7 rfl (lv_at hl 2 rfl) ?_
    obtain ⟨r_2, hz, hf⟩ := mb_bd1_s hf
    refine gc_i (r0 := r_2) (ws' := (wC_One k a0 P0 ++ (wC_Decrees k (a0 7) P1))) (wr := (wC_One k a0 P0 ++ (wC_Decrees k (a0 7) P1))) (va_runS (As := [.int x2]) (rest := []) ⟨hx, hb, hml, hown, hts⟩ (c_One_isDistrict l D k H.size x2 r_2 hz) (cwS 1 hts gX11_why_X11_isDistrict rfl rfl rfl (by decide +kernel) ⟨Nat.le_of_ble_eq_true rfl, Nat.le_of_ble_eq_true rfl⟩) (gp_S hP hD hK hN [] (by decide +kernel) rfl) rfl rfl hl.1 rfl (lv_room (Nat.le_of_ble_eq_true rfl)) dX11_why_8 ⟨Nat.zero_le _, Nat.zero_le _⟩) hP hD hS hA [] [0, 1, 2, 3, 4, 5, 6, 7, 8, 9] rfl rfl (by decide +kernel) (by decide +kernel) [0, 1, 2, 3, 4, 5, 6, 7, 8, 9] (by decide +kernel) rfl (fun H locs hP hD hS => ?_)
    clear hz
    refine lv_if_eq (tgt := 21) hx hb dX11_why_11 (by decide) (fun c_6 => ?_) (fun c_6 => ?_)
    · have hf := mb_if_t c_6 hf
      refine lv_iconst (v := (-1)) hx hb dX11_why_21 (by decide) ?_
      have hz := Option.some.inj hf
      subst hz
      exact hret _ _ _ _ dX11_why_22 hP hD hS
    · have hf := mb_if_f c_6 hf
      refine lv_iload_n hx hb dX11_why_14 rfl (lv_at hl 3 rfl) ?_
      obtain ⟨r_3, hz, hf⟩ := mb_bd1_s hf
      refine gc_i (r0 := r_3) (ws' := (wC_One k a0 P0 ++ (wC_Decrees k (a0 7) P1))) (wr := (wC_One k a0 P0 ++ (wC_Decrees k (a0 7) P1))) (va_runS (As := [.int x3]) (rest := []) ⟨hx, hb, hml, hown, hts⟩ (c_One_isDay l D k H.size x3 r_3 hz) (cwS 1 hts gX11_why_X11_isDay rfl rfl rfl (by decide +kernel) ⟨Nat.le_of_ble_eq_true rfl, Nat.le_of_ble_eq_true rfl⟩) (gp_S hP hD hK hN [] (by decide +kernel) rfl) rfl rfl hl.1 rfl (lv_room (Nat.le_of_ble_eq_true rfl)) dX11_why_15 ⟨Nat.zero_le _, Nat.zero_le _⟩) hP hD hS hA [] [0, 1, 2, 3, 4, 5, 6, 7, 8, 9] rfl rfl (by decide +kernel) (by decide +kernel) [0, 1, 2, 3, 4, 5, 6, 7, 8, 9] (by decide +kernel) rfl (fun H locs hP hD hS => ?_)
      clear hz
      refine lv_if_ne (tgt := 23) hx hb dX11_why_18 (by decide) (fun c_5 => ?_) (fun c_5 => ?_)
      · have hf := mb_if_f c_5 hf
        refine lv_aload_n hx hb dX11_why_23 rfl (lv_at hl 0 rfl) ?_
        refine va_get (D := D) (ci := 11) (v := .ref (a0 7 0)) (C := RX11) (T := TX11) (N := 16) hx hb hts iw_One hown hK hP 0 rfl rfl 6 (by decide) fl_54 (fun _ h9 => h9) rfl dX11_why_24 ?_
        refine lv_iload_n hx hb dX11_why_27 rfl (lv_at hl 1 rfl) ?_
        refine lv_iload_n hx hb dX11_why_28 rfl (lv_at hl 2 rfl) ?_
        refine lv_iload_n hx hb dX11_why_29 rfl (lv_at hl 3 rfl) ?_
        obtain ⟨r_4, hz, hf⟩ := mb_bd1_s hf
        refine gc_i (r0 := r_4) (ws' := (wC_One k a0 P0 ++ (wC_Decrees k (a0 7) P1))) (wr := (wC_One k a0 P0)) (va_runV (As := [.int x1, .int x2, .int x3]) (rest := []) ⟨hx, hb, hml, hown, hts⟩ (c_Decrees_ruling l D k H.size (a0 7) P1 x1 x2 x3 r_4 hz) (cwV 3 hts gX11_why_X0_ruling rfl rfl rfl (by decide +kernel) ⟨Nat.le_of_ble_eq_true rfl, Nat.le_of_ble_eq_true rfl⟩) (gp_V (ci := 0) (q0 := 0) (q := (RX0, TX0, 8)) hP hD hK hN [4, 5, 6, 7, 8, 9] (by decide +kernel) rfl rfl rfl) rfl rfl hl.1 rfl (lv_room (Nat.le_of_ble_eq_true rfl)) dX11_why_30 ⟨Nat.zero_le _, Nat.zero_le _⟩) hP hD hS hA [4, 5, 6, 7, 8, 9] [0, 1, 2, 3] rfl rfl (by decide +kernel) (by decide +kernel) [0, 1, 2, 3, 4, 5, 6, 7, 8, 9] (by decide +kernel) rfl (fun H locs hP hD hS => ?_)
        clear hz
        have hz := Option.some.inj hf
        subst hz
        exact hret _ _ _ _ dX11_why_33 hP hD hS
      · have hf := mb_if_t c_5 hf
        refine lv_iconst (v := (-1)) hx hb dX11_why_21 (by decide) ?_
        have hz := Option.some.inj hf
        subst hz
        exact hret _ _ _ _ dX11_why_22 hP hD hS
def f_Decrees_nextChange_8_b (P0 : PI) (x1 : Int32) (x2 : Int32) (x3 : Int32) (self_7 : Int32 → Int32 → Option (Int32)) (x4_5 : Int32) (x5_6 : Int32) : Option (Int32) := (if (P0 0 5) ≤ x5_6 then some x4_5 else mb_bd1 (f_Decrees_ofUse P0 x5_6 (97 : Int32) x1 x2) (fun (r_8 : Int32) => mb_jn (mb_chk x5_6 33 (mb_jn (fun (x4_12 : Int32) => mb_chk x5_6 33 ((if (P0 5 x5_6.toNatClampNeg) < x3 then mb_let (x5_6 + (1 : Int32)) (fun (x5_16 : Int32) => self_7 x4_12 x5_16) else mb_chk x5_6 33 (mb_let (if ((P0 5 x5_6.toNatClampNeg) + (1 : Int32)) < x4_12 then ((P0 5 x5_6.toNatClampNeg) + (1 : Int32)) else x4_12) (fun (v_18 : Int32) => mb_let v_18 (fun (x4_19 : Int32) => mb_let (x5_6 + (1 : Int32)) (fun (x5_20 : Int32) => self_7 x4_19 x5_20))))))) (fun J71_13 => (if (P0 4 x5_6.toNatClampNeg) ≤ x3 then J71_13 x4_5 else mb_chk x5_6 33 (mb_let (if (P0 4 x5_6.toNatClampNeg) < x4_5 then (P0 4 x5_6.toNatClampNeg) else x4_5) (fun (v_23 : Int32) => mb_let v_23 (fun (x4_24 : Int32) => J71_13 x4_24))))))) (fun J46_9 => (if r_8 = 0 then mb_bd1 (f_Decrees_ofUse P0 x5_6 (98 : Int32) x1 x2) (fun (r_26 : Int32) => (if r_26 = 0 then mb_let (x5_6 + (1 : Int32)) (fun (x5_27 : Int32) => self_7 x4_5 x5_27) else J46_9)) else J46_9))))
def f_Decrees_nextChange_8 (P0 : PI) (x1 : Int32) (x2 : Int32) (x3 : Int32) : Nat → Int32 → Int32 → Option (Int32)
  | 0, _, _ => none
  | n + 1, x4_5, x5_6 => f_Decrees_nextChange_8_b P0 x1 x2 x3 (f_Decrees_nextChange_8 P0 x1 x2 x3 n) x4_5 x5_6
def f_Decrees_nextChange (P0 : PI) (x1 : Int32) (x2 : Int32) (x3 : Int32) : Option (Int32) := mb_let (10000 : Int32) (fun (x4_1 : Int32) => mb_let (0 : Int32) (fun (x5_2 : Int32) => f_Decrees_nextChange_8 P0 x1 x2 x3 mb_fu x4_1 x5_2))
def rm_Decrees_nextChange : Room := { frames := 1, cells := 0, slots := 0, locals := 40 }
set_option maxHeartbeats 4000000 in
set_option maxRecDepth 100000 in
theorem c_Decrees_nextChange (l : Launch) (D : va_G) (k : Nat → ClassId) (sz : Nat) (b0 : Nat → Nat) (P0 : PI) (x1 : Int32) (x2 : Int32) (x3 : Int32) (z : Int32) (hf : f_Decrees_nextChange P0 x1 x2 x3 = some z) : Met l yX0_nextChange wsX0_nextChange rm_Decrees_nextChange (va_Pc [.ref (b0 0), .int x1, .int x2, .int x3] (gw_pre D vwCl (tyL k) (wC_Decrees k b0 P0) sz)) (va_Qi (fun (r : Int32) (_ : Unit) => r = z) (gw_b D vwCl (tyL k) (va_A (wC_Decrees k b0 P0) sz) (wC_Decrees k b0 P0)) (va_A (wC_Decrees k b0 P0) sz)) 0 0 (va_A (wC_Decrees k b0 P0) sz) := by
  refine gm_i (cc := cX0_nextChange) (maxL := 6) (by decide) rfl (Nat.le_of_ble_eq_true rfl) ?_
  intro p e s m args below meth c A Q ls H locs hx hb hml hown hts hK hN hA hP hD hS hl hret
  have hown : s.vm.findClass RX0 = some m.cls := hown
  have hl : lv_has ls 6 [(0, .ref (b0 0)), (1, .int x1), (2, .int x2), (3, .int x3)] := hl
  have iw_Decrees : ∀ w ∈ u_ws RX0 TX0 8, w ∈ wsX0_nextChange := by decide +kernel
  have fl_23 := hts (.fieldLink RX0 23 "OneMeasure$Decrees" "third" "[I") (by decide +kernel)
  have fl_26 := hts (.fieldLink RX0 26 "OneMeasure$Decrees" "fourth" "[I") (by decide +kernel)
  have fl_29 := hts (.fieldLink RX0 29 "OneMeasure$Decrees" "count" "I") (by decide +kernel)
  have ml_69 := hts (.methodLink RX0 69 Lib.Math.min.name) (by decide +kernel)
  have minI_st := hts (.static Lib.Math.min.name) (by decide +kernel)
  have ma_ini := hts (.initialized "java/lang/Math") (by decide +kernel)
  have minI_code := hts (.code Lib.Math.min.name Lib.Math.min.code 2 (some .int)) (by decide +kernel)
  unfold f_Decrees_nextChange at hf
  refine lv_sipush (v := 10000) hx hb dX0_nextChange_0 (by decide) ?_
  obtain ⟨x4_1, e_, hf⟩ := mb_let_s hf
  refine mb_topi e_ ?_
  clear e_
  refine lv_istore (lv' := [(4, .int x4_1), (0, .ref (b0 0)), (1, .int x1), (2, .int x2), (3, .int x3)]) hx hb dX0_nextChange_3 hl (by decide) rfl (fun ls hl => ?_)
  refine lv_iconst (v := 0) hx hb dX0_nextChange_5 (by decide) ?_
  obtain ⟨x5_2, e_, hf⟩ := mb_let_s hf
  refine mb_topi e_ ?_
  clear e_
  refine lv_istore (lv' := [(5, .int x5_2), (4, .int x4_1), (0, .ref (b0 0)), (1, .int x1), (2, .int x2), (3, .int x3)]) hx hb dX0_nextChange_6 hl (by decide) rfl (fun ls hl => ?_)
  have lp8_3 : ∀ (n : Nat) (x4_5 : Int32) (x5_6 : Int32) (H : Heap) (locs : List Loc) (ls : Array Slot), f_Decrees_nextChange_8 P0 x1 x2 x3 n x4_5 x5_6 = some z → va_P D vwCl (wC_Decrees k b0 P0) H → va_D A (wC_Decrees k b0 P0) → va_S A s.heap H locs → lv_has ls 6 [(0, .ref (b0 0)), (1, .int x1), (2, .int x2), (3, .int x3), (4, .int x4_5), (5, .int x5_6)] → W p l e rm_Decrees_nextChange s m args below meth c H locs 0 0 Q (F0 m 8 ls []) := by
    intro n
    induction n with
    | zero =>
      intro x4_5 x5_6 H locs ls hf
      exact nomatch (show (none : Option (Int32)) = some z from hf)
    | succ n ih_4 =>
      intro x4_5 x5_6 H locs ls hf hP hD hS hl
      have hf : f_Decrees_nextChange_8_b P0 x1 x2 x3 (f_Decrees_nextChange_8 P0 x1 x2 x3 n) x4_5 x5_6 = some z := hf
      unfold f_Decrees_nextChange_8_b at hf
      refine lv_iload hx hb dX0_nextChange_8 (lv_at hl 5 rfl) ?_
      refine lv_aload_n hx hb dX0_nextChange_10 rfl (lv_at hl 0 rfl) ?_
      refine va_get (D := D) (ci := 0) (v := .int (P0 0 5)) (C := RX0) (T := TX0) (N := 8) hx hb hts iw_Decrees hown hK hP 0 rfl rfl 5 (by decide) fl_29 (fun _ h9 => h9) rfl dX0_nextChange_11 ?_
      refine lv_icmp_ge (tgt := 104) hx hb dX0_nextChange_14 (by decide) (fun c_30 => ?_) (fun c_30 => ?_)
      · have hf := mb_if_t c_30 hf
        refine lv_iload hx hb dX0_nextChange_104 (lv_at hl 4 rfl) ?_
        have hz := Option.some.inj hf
        subst hz
        exact hret _ _ _ _ dX0_nextChange_106 hP hD hS
      · have hf := mb_if_f c_30 hf
        refine lv_aload_n hx hb dX0_nextChange_17 rfl (lv_at hl 0 rfl) ?_
        refine lv_iload hx hb dX0_nextChange_18 (lv_at hl 5 rfl) ?_
        refine lv_bipush (v := 97) hx hb dX0_nextChange_20 (by decide) ?_
        refine lv_iload_n hx hb dX0_nextChange_22 rfl (lv_at hl 1 rfl) ?_
        refine lv_iload_n hx hb dX0_nextChange_23 rfl (lv_at hl 2 rfl) ?_
        obtain ⟨r_8, hz, hf⟩ := mb_bd1_s hf
        refine gc_i (r0 := r_8) (ws' := (wC_Decrees k b0 P0)) (wr := ([] : va_W)) (va_runV (As := [.int x5_6, .int (97 : Int32), .int x1, .int x2]) (rest := []) ⟨hx, hb, hml, hown, hts⟩ (c_Decrees_ofUse l D k H.size b0 P0 x5_6 (97 : Int32) x1 x2 r_8 hz) (cwV 4 hts gX0_nextChange_X0_ofUse rfl rfl rfl (by decide +kernel) ⟨Nat.le_of_ble_eq_true rfl, Nat.le_of_ble_eq_true rfl⟩) (gp_V (ci := 0) (q0 := 0) (q := (RX0, TX0, 8)) hP hD hK hN [0, 1, 2, 3, 4, 5] (by decide +kernel) rfl rfl rfl) rfl rfl hl.1 rfl (lv_room (Nat.le_of_ble_eq_true rfl)) dX0_nextChange_24 ⟨Nat.zero_le _, Nat.zero_le _⟩) hP hD hS hA [0, 1, 2, 3, 4, 5] [] rfl rfl (by decide +kernel) (by decide +kernel) [0, 1, 2, 3, 4, 5] (by decide +kernel) rfl (fun H locs hP hD hS => ?_)
        clear hz
        obtain ⟨J46_9, eJ46_9, hf⟩ := mb_jn_s hf
        have j46_10 : ∀ (H : Heap) (locs : List Loc) (ls : Array Slot), J46_9 = some z → va_P D vwCl (wC_Decrees k b0 P0) H → va_D A (wC_Decrees k b0 P0) → va_S A s.heap H locs → lv_has ls 6 [(0, .ref (b0 0)), (1, .int x1), (2, .int x2), (3, .int x3), (4, .int x4_5), (5, .int x5_6)] → W p l e rm_Decrees_nextChange s m args below meth c H locs 0 0 Q (F0 m 46 ls []) := by
          intro  H locs ls hf hP hD hS hl
          have hf := mb_j0 eJ46_9 hf
          refine lv_aload_n hx hb dX0_nextChange_46 rfl (lv_at hl 0 rfl) ?_
          refine va_get (D := D) (ci := 0) (v := .ref (b0 4)) (C := RX0) (T := TX0) (N := 8) hx hb hts iw_Decrees hown hK hP 0 rfl rfl 3 (by decide) fl_23 (fun _ h9 => h9) rfl dX0_nextChange_47 ?_
          refine lv_iload hx hb dX0_nextChange_50 (lv_at hl 5 rfl) ?_
          obtain ⟨h_11, hf⟩ := mb_chk_s hf
          refine va_iald hx hb hK hP 4 0 rfl rfl h_11 dX0_nextChange_52 ?_
          refine lv_iload_n hx hb dX0_nextChange_53 rfl (lv_at hl 3 rfl) ?_
          obtain ⟨J71_13, eJ71_13, hf⟩ := mb_jn_s hf
          have j71_14 : ∀ (x4_12 : Int32) (H : Heap) (locs : List Loc) (ls : Array Slot), J71_13 x4_12 = some z → va_P D vwCl (wC_Decrees k b0 P0) H → va_D A (wC_Decrees k b0 P0) → va_S A s.heap H locs → lv_has ls 6 [(0, .ref (b0 0)), (1, .int x1), (2, .int x2), (3, .int x3), (4, .int x4_12), (5, .int x5_6)] → W p l e rm_Decrees_nextChange s m args below meth c H locs 0 0 Q (F0 m 71 ls []) := by
            intro x4_12 H locs ls hf hP hD hS hl
            have hf := mb_j1 eJ71_13 hf
            refine lv_aload_n hx hb dX0_nextChange_71 rfl (lv_at hl 0 rfl) ?_
            refine va_get (D := D) (ci := 0) (v := .ref (b0 5)) (C := RX0) (T := TX0) (N := 8) hx hb hts iw_Decrees hown hK hP 0 rfl rfl 4 (by decide) fl_26 (fun _ h9 => h9) rfl dX0_nextChange_72 ?_
            refine lv_iload hx hb dX0_nextChange_75 (lv_at hl 5 rfl) ?_
            obtain ⟨h_15, hf⟩ := mb_chk_s hf
            refine va_iald hx hb hK hP 5 0 rfl rfl h_15 dX0_nextChange_77 ?_
            refine lv_iload_n hx hb dX0_nextChange_78 rfl (lv_at hl 3 rfl) ?_
            refine lv_icmp_lt (tgt := 98) hx hb dX0_nextChange_79 (by decide) (fun c_21 => ?_) (fun c_21 => ?_)
            · have hf := mb_if_t c_21 hf
              obtain ⟨x5_16, e_, hf⟩ := mb_let_s hf
              refine lv_iinc (v := x5_16) (lv' := [(5, .int x5_16), (0, .ref (b0 0)), (1, .int x1), (2, .int x2), (3, .int x3), (4, .int x4_12)]) hx hb dX0_nextChange_98 hl (k := 5) rfl (by rw [e_]; rfl) (by decide) rfl (fun ls hl => ?_)
              clear e_
              refine lv_goto (tgt := 8) hx hb dX0_nextChange_101 (by decide) ?_
              exact ih_4 x4_12 x5_16 _ _ _ hf hP hD hS (lv_sub hl [1, 2, 3, 4, 5, 0] rfl)
            · have hf := mb_if_f c_21 hf
              refine lv_iload hx hb dX0_nextChange_82 (lv_at hl 4 rfl) ?_
              refine lv_aload_n hx hb dX0_nextChange_84 rfl (lv_at hl 0 rfl) ?_
              refine va_get (D := D) (ci := 0) (v := .ref (b0 5)) (C := RX0) (T := TX0) (N := 8) hx hb hts iw_Decrees hown hK hP 0 rfl rfl 4 (by decide) fl_26 (fun _ h9 => h9) rfl dX0_nextChange_85 ?_
              refine lv_iload hx hb dX0_nextChange_88 (lv_at hl 5 rfl) ?_
              obtain ⟨h_17, hf⟩ := mb_chk_s hf
              refine va_iald hx hb hK hP 5 0 rfl rfl h_17 dX0_nextChange_90 ?_
              refine lv_iconst (v := 1) hx hb dX0_nextChange_91 (by decide) ?_
              refine lv_iadd hx hb dX0_nextChange_92 ?_
              obtain ⟨v_18, e_, hf⟩ := mb_let_s hf
              refine va_mmin hx hb (hml.trans hl.1.symm) hown ml_69 minI_st ma_ini minI_code (Nat.le_of_ble_eq_true rfl) (Nat.le_of_ble_eq_true rfl) (Nat.zero_le _) (Nat.zero_le _) dX0_nextChange_93 ?_
              refine mb_topi e_ ?_
              clear e_
              obtain ⟨x4_19, e_, hf⟩ := mb_let_s hf
              refine mb_topi e_ ?_
              clear e_
              refine lv_istore (lv' := [(4, .int x4_19), (0, .ref (b0 0)), (1, .int x1), (2, .int x2), (3, .int x3), (5, .int x5_6)]) hx hb dX0_nextChange_96 hl (by decide) rfl (fun ls hl => ?_)
              obtain ⟨x5_20, e_, hf⟩ := mb_let_s hf
              refine lv_iinc (v := x5_20) (lv' := [(5, .int x5_20), (4, .int x4_19), (0, .ref (b0 0)), (1, .int x1), (2, .int x2), (3, .int x3)]) hx hb dX0_nextChange_98 hl (k := 5) rfl (by rw [e_]; rfl) (by decide) rfl (fun ls hl => ?_)
              clear e_
              refine lv_goto (tgt := 8) hx hb dX0_nextChange_101 (by decide) ?_
              exact ih_4 x4_19 x5_20 _ _ _ hf hP hD hS (lv_sub hl [2, 3, 4, 5, 1, 0] rfl)
          refine lv_icmp_le (tgt := 71) hx hb dX0_nextChange_54 (by decide) (fun c_25 => ?_) (fun c_25 => ?_)
          · have hf := mb_if_t c_25 hf
            exact j71_14 x4_5 _ _ _ hf hP hD hS (lv_sub hl [0, 1, 2, 3, 4, 5] rfl)
          · have hf := mb_if_f c_25 hf
            refine lv_iload hx hb dX0_nextChange_57 (lv_at hl 4 rfl) ?_
            refine lv_aload_n hx hb dX0_nextChange_59 rfl (lv_at hl 0 rfl) ?_
            refine va_get (D := D) (ci := 0) (v := .ref (b0 4)) (C := RX0) (T := TX0) (N := 8) hx hb hts iw_Decrees hown hK hP 0 rfl rfl 3 (by decide) fl_23 (fun _ h9 => h9) rfl dX0_nextChange_60 ?_
            refine lv_iload hx hb dX0_nextChange_63 (lv_at hl 5 rfl) ?_
            obtain ⟨h_22, hf⟩ := mb_chk_s hf
            refine va_iald hx hb hK hP 4 0 rfl rfl h_22 dX0_nextChange_65 ?_
            obtain ⟨v_23, e_, hf⟩ := mb_let_s hf
            refine va_mmin hx hb (hml.trans hl.1.symm) hown ml_69 minI_st ma_ini minI_code (Nat.le_of_ble_eq_true rfl) (Nat.le_of_ble_eq_true rfl) (Nat.zero_le _) (Nat.zero_le _) dX0_nextChange_66 ?_
            refine mb_topi e_ ?_
            clear e_
            obtain ⟨x4_24, e_, hf⟩ := mb_let_s hf
            refine mb_topi e_ ?_
            clear e_
            refine lv_istore (lv' := [(4, .int x4_24), (0, .ref (b0 0)), (1, .int x1), (2, .int x2), (3, .int x3), (5, .int x5_6)]) hx hb dX0_nextChange_69 hl (by decide) rfl (fun ls hl => ?_)
            exact j71_14 x4_24 _ _ _ hf hP hD hS (lv_sub hl [1, 2, 3, 4, 0, 5] rfl)
        refine lv_if_ne (tgt := 46) hx hb dX0_nextChange_27 (by decide) (fun c_29 => ?_) (fun c_29 => ?_)
        · have hf := mb_if_f c_29 hf
          exact j46_10  _ _ _ hf hP hD hS (lv_sub hl [0, 1, 2, 3, 4, 5] rfl)
        · have hf := mb_if_t c_29 hf
          refine lv_aload_n hx hb dX0_nextChange_30 rfl (lv_at hl 0 rfl) ?_
          refine lv_iload hx hb dX0_nextChange_31 (lv_at hl 5 rfl) ?_
          refine lv_bipush (v := 98) hx hb dX0_nextChange_33 (by decide) ?_
          refine lv_iload_n hx hb dX0_nextChange_35 rfl (lv_at hl 1 rfl) ?_
          refine lv_iload_n hx hb dX0_nextChange_36 rfl (lv_at hl 2 rfl) ?_
          obtain ⟨r_26, hz, hf⟩ := mb_bd1_s hf
          refine gc_i (r0 := r_26) (ws' := (wC_Decrees k b0 P0)) (wr := ([] : va_W)) (va_runV (As := [.int x5_6, .int (98 : Int32), .int x1, .int x2]) (rest := []) ⟨hx, hb, hml, hown, hts⟩ (c_Decrees_ofUse l D k H.size b0 P0 x5_6 (98 : Int32) x1 x2 r_26 hz) (cwV 4 hts gX0_nextChange_X0_ofUse rfl rfl rfl (by decide +kernel) ⟨Nat.le_of_ble_eq_true rfl, Nat.le_of_ble_eq_true rfl⟩) (gp_V (ci := 0) (q0 := 0) (q := (RX0, TX0, 8)) hP hD hK hN [0, 1, 2, 3, 4, 5] (by decide +kernel) rfl rfl rfl) rfl rfl hl.1 rfl (lv_room (Nat.le_of_ble_eq_true rfl)) dX0_nextChange_37 ⟨Nat.zero_le _, Nat.zero_le _⟩) hP hD hS hA [0, 1, 2, 3, 4, 5] [] rfl rfl (by decide +kernel) (by decide +kernel) [0, 1, 2, 3, 4, 5] (by decide +kernel) rfl (fun H locs hP hD hS => ?_)
          clear hz
          refine lv_if_ne (tgt := 46) hx hb dX0_nextChange_40 (by decide) (fun c_28 => ?_) (fun c_28 => ?_)
          · have hf := mb_if_f c_28 hf
            exact j46_10  _ _ _ hf hP hD hS (lv_sub hl [0, 1, 2, 3, 4, 5] rfl)
          · have hf := mb_if_t c_28 hf
            refine lv_goto (tgt := 98) hx hb dX0_nextChange_43 (by decide) ?_
            obtain ⟨x5_27, e_, hf⟩ := mb_let_s hf
            refine lv_iinc (v := x5_27) (lv' := [(5, .int x5_27), (0, .ref (b0 0)), (1, .int x1), (2, .int x2), (3, .int x3), (4, .int x4_5)]) hx hb dX0_nextChange_98 hl (k := 5) rfl (by rw [e_]; rfl) (by decide) rfl (fun ls hl => ?_)
            clear e_
            refine lv_goto (tgt := 8) hx hb dX0_nextChange_101 (by decide) ?_
            exact ih_4 x4_5 x5_27 _ _ _ hf hP hD hS (lv_sub hl [1, 2, 3, 4, 5, 0] rfl)
  exact lp8_3 mb_fu x4_1 x5_2 _ _ _ hf hP hD hS (lv_sub hl [2, 3, 4, 5, 1, 0] rfl)
def f_Decrees_tells_3_b (P0 : PI) (x1 : Int32) (x2 : Int32) (x3 : Int32) (x4 : Int32) (self_5 : Int32 → Option (Int32)) (x5_4 : Int32) : Option (Int32) := (if (P0 0 5) ≤ x5_4 then some (0 : Int32) else mb_bd1 (f_Decrees_ofUse P0 x5_4 x1 x2 x3) (fun (r_6 : Int32) => (if r_6 = 0 then mb_let (x5_4 + (1 : Int32)) (fun (x5_7 : Int32) => self_5 x5_7) else mb_bd1 (f_Decrees_onDay P0 x5_4 x4) (fun (r_8 : Int32) => (if r_8 = 0 then mb_let (x5_4 + (1 : Int32)) (fun (x5_9 : Int32) => self_5 x5_9) else some (1 : Int32))))))
def f_Decrees_tells_3 (P0 : PI) (x1 : Int32) (x2 : Int32) (x3 : Int32) (x4 : Int32) : Nat → Int32 → Option (Int32)
  | 0, _ => none
  | n + 1, x5_4 => f_Decrees_tells_3_b P0 x1 x2 x3 x4 (f_Decrees_tells_3 P0 x1 x2 x3 x4 n) x5_4
def f_Decrees_tells (P0 : PI) (x1 : Int32) (x2 : Int32) (x3 : Int32) (x4 : Int32) : Option (Int32) := mb_let (0 : Int32) (fun (x5_1 : Int32) => f_Decrees_tells_3 P0 x1 x2 x3 x4 mb_fu x5_1)
def rm_Decrees_tells : Room := { frames := 1, cells := 0, slots := 0, locals := 24 }
set_option maxHeartbeats 4000000 in
set_option maxRecDepth 100000 in
theorem c_Decrees_tells (l : Launch) (D : va_G) (k : Nat → ClassId) (sz : Nat) (b0 : Nat → Nat) (P0 : PI) (x1 : Int32) (x2 : Int32) (x3 : Int32) (x4 : Int32) (z : Int32) (hf : f_Decrees_tells P0 x1 x2 x3 x4 = some z) : Met l yX0_tells wsX0_tells rm_Decrees_tells (va_Pc [.ref (b0 0), .int x1, .int x2, .int x3, .int x4] (gw_pre D vwCl (tyL k) (wC_Decrees k b0 P0) sz)) (va_Qi (fun (r : Int32) (_ : Unit) => r = z) (gw_b D vwCl (tyL k) (va_A (wC_Decrees k b0 P0) sz) (wC_Decrees k b0 P0)) (va_A (wC_Decrees k b0 P0) sz)) 0 0 (va_A (wC_Decrees k b0 P0) sz) := by
  refine gm_z (cc := cX0_tells) (maxL := 6) (by decide) rfl (Nat.le_of_ble_eq_true rfl) ?_
  intro p e s m args below meth c A Q ls H locs hx hb hml hown hts hK hN hA hP hD hS hl hret
  have hown : s.vm.findClass RX0 = some m.cls := hown
  have hl : lv_has ls 6 [(0, .ref (b0 0)), (1, .int x1), (2, .int x2), (3, .int x3), (4, .int x4)] := hl
  have iw_Decrees : ∀ w ∈ u_ws RX0 TX0 8, w ∈ wsX0_tells := by decide +kernel
  have fl_29 := hts (.fieldLink RX0 29 "OneMeasure$Decrees" "count" "I") (by decide +kernel)
  unfold f_Decrees_tells at hf
  refine lv_iconst (v := 0) hx hb dX0_tells_0 (by decide) ?_
  obtain ⟨x5_1, e_, hf⟩ := mb_let_s hf
  refine mb_topi e_ ?_
  clear e_
  refine lv_istore (lv' := [(5, .int x5_1), (0, .ref (b0 0)), (1, .int x1), (2, .int x2), (3, .int x3), (4, .int x4)]) hx hb dX0_tells_1 hl (by decide) rfl (fun ls hl => ?_)
  have lp3_2 : ∀ (n : Nat) (x5_4 : Int32) (H : Heap) (locs : List Loc) (ls : Array Slot), f_Decrees_tells_3 P0 x1 x2 x3 x4 n x5_4 = some z → va_P D vwCl (wC_Decrees k b0 P0) H → va_D A (wC_Decrees k b0 P0) → va_S A s.heap H locs → lv_has ls 6 [(0, .ref (b0 0)), (1, .int x1), (2, .int x2), (3, .int x3), (4, .int x4), (5, .int x5_4)] → W p l e rm_Decrees_tells s m args below meth c H locs 0 0 Q (F0 m 3 ls []) := by
    intro n
    induction n with
    | zero =>
      intro x5_4 H locs ls hf
      exact nomatch (show (none : Option (Int32)) = some z from hf)
    | succ n ih_3 =>
      intro x5_4 H locs ls hf hP hD hS hl
      have hf : f_Decrees_tells_3_b P0 x1 x2 x3 x4 (f_Decrees_tells_3 P0 x1 x2 x3 x4 n) x5_4 = some z := hf
      unfold f_Decrees_tells_3_b at hf
      refine lv_iload hx hb dX0_tells_3 (lv_at hl 5 rfl) ?_
      refine lv_aload_n hx hb dX0_tells_5 rfl (lv_at hl 0 rfl) ?_
      refine va_get (D := D) (ci := 0) (v := .int (P0 0 5)) (C := RX0) (T := TX0) (N := 8) hx hb hts iw_Decrees hown hK hP 0 rfl rfl 5 (by decide) fl_29 (fun _ h9 => h9) rfl dX0_tells_6 ?_
      refine lv_icmp_ge (tgt := 43) hx hb dX0_tells_9 (by decide) (fun c_12 => ?_) (fun c_12 => ?_)
      · have hf := mb_if_t c_12 hf
        refine lv_iconst (v := 0) hx hb dX0_tells_43 (by decide) ?_
        have hz := Option.some.inj hf
        subst hz
        exact hret _ _ _ _ mb_n0 dX0_tells_44 hP hD hS
      · have hf := mb_if_f c_12 hf
        refine lv_aload_n hx hb dX0_tells_12 rfl (lv_at hl 0 rfl) ?_
        refine lv_iload hx hb dX0_tells_13 (lv_at hl 5 rfl) ?_
        refine lv_iload_n hx hb dX0_tells_15 rfl (lv_at hl 1 rfl) ?_
        refine lv_iload_n hx hb dX0_tells_16 rfl (lv_at hl 2 rfl) ?_
        refine lv_iload_n hx hb dX0_tells_17 rfl (lv_at hl 3 rfl) ?_
        obtain ⟨r_6, hz, hf⟩ := mb_bd1_s hf
        refine gc_i (r0 := r_6) (ws' := (wC_Decrees k b0 P0)) (wr := ([] : va_W)) (va_runV (As := [.int x5_4, .int x1, .int x2, .int x3]) (rest := []) ⟨hx, hb, hml, hown, hts⟩ (c_Decrees_ofUse l D k H.size b0 P0 x5_4 x1 x2 x3 r_6 hz) (cwV 4 hts gX0_tells_X0_ofUse rfl rfl rfl (by decide +kernel) ⟨Nat.le_of_ble_eq_true rfl, Nat.le_of_ble_eq_true rfl⟩) (gp_V (ci := 0) (q0 := 0) (q := (RX0, TX0, 8)) hP hD hK hN [0, 1, 2, 3, 4, 5] (by decide +kernel) rfl rfl rfl) rfl rfl hl.1 rfl (lv_room (Nat.le_of_ble_eq_true rfl)) dX0_tells_18 ⟨Nat.zero_le _, Nat.zero_le _⟩) hP hD hS hA [0, 1, 2, 3, 4, 5] [] rfl rfl (by decide +kernel) (by decide +kernel) [0, 1, 2, 3, 4, 5] (by decide +kernel) rfl (fun H locs hP hD hS => ?_)
        clear hz
        refine lv_if_eq (tgt := 37) hx hb dX0_tells_21 (by decide) (fun c_11 => ?_) (fun c_11 => ?_)
        · have hf := mb_if_t c_11 hf
          obtain ⟨x5_7, e_, hf⟩ := mb_let_s hf
          refine lv_iinc (v := x5_7) (lv' := [(5, .int x5_7), (0, .ref (b0 0)), (1, .int x1), (2, .int x2), (3, .int x3), (4, .int x4)]) hx hb dX0_tells_37 hl (k := 5) rfl (by rw [e_]; rfl) (by decide) rfl (fun ls hl => ?_)
          clear e_
          refine lv_goto (tgt := 3) hx hb dX0_tells_40 (by decide) ?_
          exact ih_3 x5_7 _ _ _ hf hP hD hS (lv_sub hl [1, 2, 3, 4, 5, 0] rfl)
        · have hf := mb_if_f c_11 hf
          refine lv_aload_n hx hb dX0_tells_24 rfl (lv_at hl 0 rfl) ?_
          refine lv_iload hx hb dX0_tells_25 (lv_at hl 5 rfl) ?_
          refine lv_iload hx hb dX0_tells_27 (lv_at hl 4 rfl) ?_
          obtain ⟨r_8, hz, hf⟩ := mb_bd1_s hf
          refine gc_i (r0 := r_8) (ws' := (wC_Decrees k b0 P0)) (wr := ([] : va_W)) (va_runV (As := [.int x5_4, .int x4]) (rest := []) ⟨hx, hb, hml, hown, hts⟩ (c_Decrees_onDay l D k H.size b0 P0 x5_4 x4 r_8 hz) (cwV 2 hts gX0_tells_X0_onDay rfl rfl rfl (by decide +kernel) ⟨Nat.le_of_ble_eq_true rfl, Nat.le_of_ble_eq_true rfl⟩) (gp_V (ci := 0) (q0 := 0) (q := (RX0, TX0, 8)) hP hD hK hN [0, 1, 2, 3, 4, 5] (by decide +kernel) rfl rfl rfl) rfl rfl hl.1 rfl (lv_room (Nat.le_of_ble_eq_true rfl)) dX0_tells_29 ⟨Nat.zero_le _, Nat.zero_le _⟩) hP hD hS hA [0, 1, 2, 3, 4, 5] [] rfl rfl (by decide +kernel) (by decide +kernel) [0, 1, 2, 3, 4, 5] (by decide +kernel) rfl (fun H locs hP hD hS => ?_)
          clear hz
          refine lv_if_eq (tgt := 37) hx hb dX0_tells_32 (by decide) (fun c_10 => ?_) (fun c_10 => ?_)
          · have hf := mb_if_t c_10 hf
            obtain ⟨x5_9, e_, hf⟩ := mb_let_s hf
            refine lv_iinc (v := x5_9) (lv' := [(5, .int x5_9), (0, .ref (b0 0)), (1, .int x1), (2, .int x2), (3, .int x3), (4, .int x4)]) hx hb dX0_tells_37 hl (k := 5) rfl (by rw [e_]; rfl) (by decide) rfl (fun ls hl => ?_)
            clear e_
            refine lv_goto (tgt := 3) hx hb dX0_tells_40 (by decide) ?_
            exact ih_3 x5_9 _ _ _ hf hP hD hS (lv_sub hl [1, 2, 3, 4, 5, 0] rfl)
          · have hf := mb_if_f c_10 hf
            refine lv_iconst (v := 1) hx hb dX0_tells_35 (by decide) ?_
            have hz := Option.some.inj hf
            subst hz
            exact hret _ _ _ _ mb_n1 dX0_tells_36 hP hD hS
  exact lp3_2 mb_fu x5_1 _ _ _ hf hP hD hS (lv_sub hl [1, 2, 3, 4, 5, 0] rfl)
def f_Decrees_findQuarrels_16_b (x1 : Int32) (x2 : Int32) (self_10 : Int32 → Int32 → PI → Option (PI)) (x3_7 : Int32) (x4_8 : Int32) (P0_9 : PI) : Option (PI) := (if (66 : Int32) < x4_8 then some P0_9 else (if (9999 : Int32) < x3_7 then some P0_9 else mb_bd1 (f_Decrees_nextChange P0_9 x1 x2 x3_7) (fun (r_11 : Int32) => mb_let r_11 (fun (x5_12 : Int32) => mb_bd1 (f_Decrees_tells P0_9 (97 : Int32) x1 x2 x3_7) (fun (r_13 : Int32) => mb_jn (fun (P0_14 : PI) => mb_let x5_12 (fun (x3_17 : Int32) => mb_let (x4_8 + (1 : Int32)) (fun (x4_18 : Int32) => self_10 x3_17 x4_18 P0_14))) (fun J90_15 => (if r_13 = 0 then J90_15 P0_9 else mb_bd1 (f_Decrees_tells P0_9 (98 : Int32) x1 x2 x3_7) (fun (r_19 : Int32) => (if r_19 = 0 then J90_15 P0_9 else mb_let (mb_uo P0_9 6 ((P0_9 0 6) + (x5_12 - x3_7))) (fun (P0_20 : PI) => (if (P0_20 0 7) = (-4 : Int32) then mb_let (mb_uo P0_20 7 x3_7) (fun (P0_21 : PI) => J90_15 P0_21) else J90_15 P0_20)))))))))))
def f_Decrees_findQuarrels_16 (x1 : Int32) (x2 : Int32) : Nat → Int32 → Int32 → PI → Option (PI)
  | 0, _, _, _ => none
  | n + 1, x3_7, x4_8, P0_9 => f_Decrees_findQuarrels_16_b x1 x2 (f_Decrees_findQuarrels_16 x1 x2 n) x3_7 x4_8 P0_9
def f_Decrees_findQuarrels (P0 : PI) (x1 : Int32) (x2 : Int32) : Option (PI) := mb_let (mb_uo P0 6 (0 : Int32)) (fun (P0_1 : PI) => mb_let (mb_uo P0_1 7 (-4 : Int32)) (fun (P0_2 : PI) => mb_let (0 : Int32) (fun (x3_3 : Int32) => mb_let (0 : Int32) (fun (x4_4 : Int32) => f_Decrees_findQuarrels_16 x1 x2 mb_fu x3_3 x4_4 P0_2))))
def rm_Decrees_findQuarrels : Room := { frames := 2, cells := 0, slots := 0, locals := 65 }
set_option maxHeartbeats 4000000 in
set_option maxRecDepth 100000 in
theorem c_Decrees_findQuarrels (l : Launch) (D : va_G) (k : Nat → ClassId) (sz : Nat) (b0 : Nat → Nat) (P0 : PI) (x1 : Int32) (x2 : Int32) (z : PI) (hf : f_Decrees_findQuarrels P0 x1 x2 = some z) : Met l yX0_findQuarrels wsX0_findQuarrels rm_Decrees_findQuarrels (va_Pc [.ref (b0 0), .int x1, .int x2] (gw_pre D vwCl (tyL k) (wC_Decrees k b0 P0) sz)) (va_Qv (fun (_ : Unit) => True) (gw_b D vwCl (tyL k) (va_A (wC_Decrees k b0 P0) sz) (wC_Decrees k b0 z)) (va_A (wC_Decrees k b0 P0) sz)) 0 0 (va_A (wC_Decrees k b0 P0) sz) := by
  refine gm_v (cc := cX0_findQuarrels) (maxL := 6) (by decide) rfl (Nat.le_of_ble_eq_true rfl) ?_
  intro p e s m args below meth c A Q ls H locs hx hb hml hown hts hK hN hA hP hD hS hl hret
  have hown : s.vm.findClass RX0 = some m.cls := hown
  have hl : lv_has ls 6 [(0, .ref (b0 0)), (1, .int x1), (2, .int x2)] := hl
  have iw_Decrees : ∀ w ∈ u_ws RX0 TX0 8, w ∈ wsX0_findQuarrels := by decide +kernel
  have fl_33 := hts (.fieldLink RX0 33 "OneMeasure$Decrees" "quarrelDays" "I") (by decide +kernel)
  have fl_36 := hts (.fieldLink RX0 36 "OneMeasure$Decrees" "firstQuarrel" "I") (by decide +kernel)
  unfold f_Decrees_findQuarrels at hf
  refine lv_aload_n hx hb dX0_findQuarrels_0 rfl (lv_at hl 0 rfl) ?_
  refine lv_iconst (v := 0) hx hb dX0_findQuarrels_1 (by decide) ?_
  obtain ⟨P0_1, e_, hf⟩ := mb_let_s hf
  refine va_put (D := D) (ci := 0) (v := .int (0 : Int32)) (ty := .int) (C := RX0) (T := TX0) (N := 8) hx hb hts iw_Decrees tyX0 tyX0_ok nmX0 hown hK hP hD hS 0 rfl rfl 6 (by decide) fl_33 (fun _ h9 => h9) rfl (by decide +kernel) rfl rfl (Nat.le_of_ble_eq_true rfl) dX0_findQuarrels_2 (fun H locs hP hD hS => ?_)
  have hP : va_P D vwCl (wC_Decrees k b0 P0_1) H := by rw [e_]; exact hP
  have hD : va_D A (wC_Decrees k b0 P0_1) := by rw [e_]; exact hD
  clear e_
  refine lv_aload_n hx hb dX0_findQuarrels_5 rfl (lv_at hl 0 rfl) ?_
  refine lv_bipush (v := (-4)) hx hb dX0_findQuarrels_6 (by decide) ?_
  obtain ⟨P0_2, e_, hf⟩ := mb_let_s hf
  refine va_put (D := D) (ci := 0) (v := .int (-4 : Int32)) (ty := .int) (C := RX0) (T := TX0) (N := 8) hx hb hts iw_Decrees tyX0 tyX0_ok nmX0 hown hK hP hD hS 0 rfl rfl 7 (by decide) fl_36 (fun _ h9 => h9) rfl (by decide +kernel) rfl rfl (Nat.le_of_ble_eq_true rfl) dX0_findQuarrels_8 (fun H locs hP hD hS => ?_)
  have hP : va_P D vwCl (wC_Decrees k b0 P0_2) H := by rw [e_]; exact hP
  have hD : va_D A (wC_Decrees k b0 P0_2) := by rw [e_]; exact hD
  clear e_
  refine lv_iconst (v := 0) hx hb dX0_findQuarrels_11 (by decide) ?_
  obtain ⟨x3_3, e_, hf⟩ := mb_let_s hf
  refine mb_topi e_ ?_
  clear e_
  refine lv_istore_n (lv' := [(3, .int x3_3), (0, .ref (b0 0)), (1, .int x1), (2, .int x2)]) hx hb dX0_findQuarrels_12 rfl hl (by decide) rfl (fun ls hl => ?_)
  refine lv_iconst (v := 0) hx hb dX0_findQuarrels_13 (by decide) ?_
  obtain ⟨x4_4, e_, hf⟩ := mb_let_s hf
  refine mb_topi e_ ?_
  clear e_
  refine lv_istore (lv' := [(4, .int x4_4), (3, .int x3_3), (0, .ref (b0 0)), (1, .int x1), (2, .int x2)]) hx hb dX0_findQuarrels_14 hl (by decide) rfl (fun ls hl => ?_)
  have lp16_5 : ∀ (n : Nat) (x3_7 : Int32) (x4_8 : Int32) (P0_9 : PI) (H : Heap) (locs : List Loc) (ls : Array Slot), f_Decrees_findQuarrels_16 x1 x2 n x3_7 x4_8 P0_9 = some z → va_P D vwCl (wC_Decrees k b0 P0_9) H → va_D A (wC_Decrees k b0 P0_9) → va_S A s.heap H locs → lv_has ls 6 [(0, .ref (b0 0)), (1, .int x1), (2, .int x2), (3, .int x3_7), (4, .int x4_8)] → W p l e rm_Decrees_findQuarrels s m args below meth c H locs 0 0 Q (F0 m 16 ls []) := by
    intro n
    induction n with
    | zero =>
      intro x3_7 x4_8 P0_9 H locs ls hf
      exact nomatch (show (none : Option (PI)) = some z from hf)
    | succ n ih_6 =>
      intro x3_7 x4_8 P0_9 H locs ls hf hP hD hS hl
      have hf : f_Decrees_findQuarrels_16_b x1 x2 (f_Decrees_findQuarrels_16 x1 x2 n) x3_7 x4_8 P0_9 = some z := hf
      unfold f_Decrees_findQuarrels_16_b at hf
      refine lv_iload hx hb dX0_findQuarrels_16 (lv_at hl 4 rfl) ?_
      refine lv_bipush (v := 66) hx hb dX0_findQuarrels_18 (by decide) ?_
      refine lv_icmp_gt (tgt := 99) hx hb dX0_findQuarrels_20 (by decide) (fun c_26 => ?_) (fun c_26 => ?_)
      · have hf := mb_if_t c_26 hf
        have hz := Option.some.inj hf
        subst hz
        exact hret _ _ _ _ dX0_findQuarrels_99 hP hD hS
      · have hf := mb_if_f c_26 hf
        refine lv_iload_n hx hb dX0_findQuarrels_23 rfl (lv_at hl 3 rfl) ?_
        refine lv_sipush (v := 9999) hx hb dX0_findQuarrels_24 (by decide) ?_
        refine lv_icmp_gt (tgt := 99) hx hb dX0_findQuarrels_27 (by decide) (fun c_25 => ?_) (fun c_25 => ?_)
        · have hf := mb_if_t c_25 hf
          have hz := Option.some.inj hf
          subst hz
          exact hret _ _ _ _ dX0_findQuarrels_99 hP hD hS
        · have hf := mb_if_f c_25 hf
          refine lv_aload_n hx hb dX0_findQuarrels_30 rfl (lv_at hl 0 rfl) ?_
          refine lv_iload_n hx hb dX0_findQuarrels_31 rfl (lv_at hl 1 rfl) ?_
          refine lv_iload_n hx hb dX0_findQuarrels_32 rfl (lv_at hl 2 rfl) ?_
          refine lv_iload_n hx hb dX0_findQuarrels_33 rfl (lv_at hl 3 rfl) ?_
          obtain ⟨r_11, hz, hf⟩ := mb_bd1_s hf
          refine gc_i (r0 := r_11) (ws' := (wC_Decrees k b0 P0_9)) (wr := ([] : va_W)) (va_runV (As := [.int x1, .int x2, .int x3_7]) (rest := []) ⟨hx, hb, hml, hown, hts⟩ (c_Decrees_nextChange l D k H.size b0 P0_9 x1 x2 x3_7 r_11 hz) (cwV 3 hts gX0_findQuarrels_X0_nextChange rfl rfl rfl (by decide +kernel) ⟨Nat.le_of_ble_eq_true rfl, Nat.le_of_ble_eq_true rfl⟩) (gp_V (ci := 0) (q0 := 0) (q := (RX0, TX0, 8)) hP hD hK hN [0, 1, 2, 3, 4, 5] (by decide +kernel) rfl rfl rfl) rfl rfl hl.1 rfl (lv_room (Nat.le_of_ble_eq_true rfl)) dX0_findQuarrels_34 ⟨Nat.zero_le _, Nat.zero_le _⟩) hP hD hS hA [0, 1, 2, 3, 4, 5] [] rfl rfl (by decide +kernel) (by decide +kernel) [0, 1, 2, 3, 4, 5] (by decide +kernel) rfl (fun H locs hP hD hS => ?_)
          clear hz
          obtain ⟨x5_12, e_, hf⟩ := mb_let_s hf
          refine mb_topi e_ ?_
          clear e_
          refine lv_istore (lv' := [(5, .int x5_12), (0, .ref (b0 0)), (1, .int x1), (2, .int x2), (3, .int x3_7), (4, .int x4_8)]) hx hb dX0_findQuarrels_37 hl (by decide) rfl (fun ls hl => ?_)
          refine lv_aload_n hx hb dX0_findQuarrels_39 rfl (lv_at hl 1 rfl) ?_
          refine lv_bipush (v := 97) hx hb dX0_findQuarrels_40 (by decide) ?_
          refine lv_iload_n hx hb dX0_findQuarrels_42 rfl (lv_at hl 2 rfl) ?_
          refine lv_iload_n hx hb dX0_findQuarrels_43 rfl (lv_at hl 3 rfl) ?_
          refine lv_iload_n hx hb dX0_findQuarrels_44 rfl (lv_at hl 4 rfl) ?_
          obtain ⟨r_13, hz, hf⟩ := mb_bd1_s hf
          refine gc_i (r0 := r_13) (ws' := (wC_Decrees k b0 P0_9)) (wr := ([] : va_W)) (va_runV (As := [.int (97 : Int32), .int x1, .int x2, .int x3_7]) (rest := []) ⟨hx, hb, hml, hown, hts⟩ (c_Decrees_tells l D k H.size b0 P0_9 (97 : Int32) x1 x2 x3_7 r_13 hz) (cwV 4 hts gX0_findQuarrels_X0_tells rfl rfl rfl (by decide +kernel) ⟨Nat.le_of_ble_eq_true rfl, Nat.le_of_ble_eq_true rfl⟩) (gp_V (ci := 0) (q0 := 0) (q := (RX0, TX0, 8)) hP hD hK hN [0, 1, 2, 3, 4, 5] (by decide +kernel) rfl rfl rfl) rfl rfl hl.1 rfl (lv_room (Nat.le_of_ble_eq_true rfl)) dX0_findQuarrels_45 ⟨Nat.zero_le _, Nat.zero_le _⟩) hP hD hS hA [0, 1, 2, 3, 4, 5] [] rfl rfl (by decide +kernel) (by decide +kernel) [0, 1, 2, 3, 4, 5] (by decide +kernel) rfl (fun H locs hP hD hS => ?_)
          clear hz
          obtain ⟨J90_15, eJ90_15, hf⟩ := mb_jn_s hf
          have j90_16 : ∀ (P0_14 : PI) (H : Heap) (locs : List Loc) (ls : Array Slot), J90_15 P0_14 = some z → va_P D vwCl (wC_Decrees k b0 P0_14) H → va_D A (wC_Decrees k b0 P0_14) → va_S A s.heap H locs → lv_has ls 6 [(0, .ref (b0 0)), (1, .int x1), (2, .int x2), (4, .int x4_8), (5, .int x5_12)] → W p l e rm_Decrees_findQuarrels s m args below meth c H locs 0 0 Q (F0 m 90 ls []) := by
            intro P0_14 H locs ls hf hP hD hS hl
            have hf := mb_j1 eJ90_15 hf
            refine lv_iload hx hb dX0_findQuarrels_90 (lv_at hl 4 rfl) ?_
            obtain ⟨x3_17, e_, hf⟩ := mb_let_s hf
            refine mb_topi e_ ?_
            clear e_
            refine lv_istore_n (lv' := [(3, .int x3_17), (0, .ref (b0 0)), (1, .int x1), (2, .int x2), (4, .int x4_8), (5, .int x5_12)]) hx hb dX0_findQuarrels_92 rfl hl (by decide) rfl (fun ls hl => ?_)
            obtain ⟨x4_18, e_, hf⟩ := mb_let_s hf
            refine lv_iinc (v := x4_18) (lv' := [(4, .int x4_18), (3, .int x3_17), (0, .ref (b0 0)), (1, .int x1), (2, .int x2), (5, .int x5_12)]) hx hb dX0_findQuarrels_93 hl (k := 4) rfl (by rw [e_]; rfl) (by decide) rfl (fun ls hl => ?_)
            clear e_
            refine lv_goto (tgt := 16) hx hb dX0_findQuarrels_96 (by decide) ?_
            exact ih_6 x3_17 x4_18 P0_14 _ _ _ hf hP hD hS (lv_sub hl [2, 3, 4, 1, 0] rfl)
          refine lv_if_eq (tgt := 90) hx hb dX0_findQuarrels_48 (by decide) (fun c_24 => ?_) (fun c_24 => ?_)
          · have hf := mb_if_t c_24 hf
            exact j90_16 P0_9 _ _ _ hf hP hD hS (lv_sub hl [1, 2, 3, 5, 0] rfl)
          · have hf := mb_if_f c_24 hf
            refine lv_aload_n hx hb dX0_findQuarrels_51 rfl (lv_at hl 1 rfl) ?_
            refine lv_bipush (v := 98) hx hb dX0_findQuarrels_52 (by decide) ?_
            refine lv_iload_n hx hb dX0_findQuarrels_54 rfl (lv_at hl 2 rfl) ?_
            refine lv_iload_n hx hb dX0_findQuarrels_55 rfl (lv_at hl 3 rfl) ?_
            refine lv_iload_n hx hb dX0_findQuarrels_56 rfl (lv_at hl 4 rfl) ?_
            obtain ⟨r_19, hz, hf⟩ := mb_bd1_s hf
            refine gc_i (r0 := r_19) (ws' := (wC_Decrees k b0 P0_9)) (wr := ([] : va_W)) (va_runV (As := [.int (98 : Int32), .int x1, .int x2, .int x3_7]) (rest := []) ⟨hx, hb, hml, hown, hts⟩ (c_Decrees_tells l D k H.size b0 P0_9 (98 : Int32) x1 x2 x3_7 r_19 hz) (cwV 4 hts gX0_findQuarrels_X0_tells rfl rfl rfl (by decide +kernel) ⟨Nat.le_of_ble_eq_true rfl, Nat.le_of_ble_eq_true rfl⟩) (gp_V (ci := 0) (q0 := 0) (q := (RX0, TX0, 8)) hP hD hK hN [0, 1, 2, 3, 4, 5] (by decide +kernel) rfl rfl rfl) rfl rfl hl.1 rfl (lv_room (Nat.le_of_ble_eq_true rfl)) dX0_findQuarrels_57 ⟨Nat.zero_le _, Nat.zero_le _⟩) hP hD hS hA [0, 1, 2, 3, 4, 5] [] rfl rfl (by decide +kernel) (by decide +kernel) [0, 1, 2, 3, 4, 5] (by decide +kernel) rfl (fun H locs hP hD hS => ?_)
            clear hz
            refine lv_if_eq (tgt := 90) hx hb dX0_findQuarrels_60 (by decide) (fun c_23 => ?_) (fun c_23 => ?_)
            · have hf := mb_if_t c_23 hf
              exact j90_16 P0_9 _ _ _ hf hP hD hS (lv_sub hl [1, 2, 3, 5, 0] rfl)
            · have hf := mb_if_f c_23 hf
              refine lv_aload_n hx hb dX0_findQuarrels_63 rfl (lv_at hl 1 rfl) ?_
              refine lv_dup hx hb dX0_findQuarrels_64 rfl ?_
              refine va_get (D := D) (ci := 0) (v := .int (P0_9 0 6)) (C := RX0) (T := TX0) (N := 8) hx hb hts iw_Decrees hown hK hP 0 rfl rfl 6 (by decide) fl_33 (fun _ h9 => h9) rfl dX0_findQuarrels_65 ?_
              refine lv_iload hx hb dX0_findQuarrels_68 (lv_at hl 0 rfl) ?_
              refine lv_iload_n hx hb dX0_findQuarrels_70 rfl (lv_at hl 4 rfl) ?_
              refine lv_isub hx hb dX0_findQuarrels_71 ?_
              refine lv_iadd hx hb dX0_findQuarrels_72 ?_
              obtain ⟨P0_20, e_, hf⟩ := mb_let_s hf
              refine va_put (D := D) (ci := 0) (v := .int ((P0_9 0 6) + (x5_12 - x3_7))) (ty := .int) (C := RX0) (T := TX0) (N := 8) hx hb hts iw_Decrees tyX0 tyX0_ok nmX0 hown hK hP hD hS 0 rfl rfl 6 (by decide) fl_33 (fun _ h9 => h9) rfl (by decide +kernel) rfl rfl (Nat.le_of_ble_eq_true rfl) dX0_findQuarrels_73 (fun H locs hP hD hS => ?_)
              have hP : va_P D vwCl (wC_Decrees k b0 P0_20) H := by rw [e_]; exact hP
              have hD : va_D A (wC_Decrees k b0 P0_20) := by rw [e_]; exact hD
              clear e_
              refine lv_aload_n hx hb dX0_findQuarrels_76 rfl (lv_at hl 1 rfl) ?_
              refine va_get (D := D) (ci := 0) (v := .int (P0_20 0 7)) (C := RX0) (T := TX0) (N := 8) hx hb hts iw_Decrees hown hK hP 0 rfl rfl 7 (by decide) fl_36 (fun _ h9 => h9) rfl dX0_findQuarrels_77 ?_
              refine lv_bipush (v := (-4)) hx hb dX0_findQuarrels_80 (by decide) ?_
              refine lv_icmp_ne (tgt := 90) hx hb dX0_findQuarrels_82 (by decide) (fun c_22 => ?_) (fun c_22 => ?_)
              · have hf := mb_if_f c_22 hf
                exact j90_16 P0_20 _ _ _ hf hP hD hS (lv_sub hl [1, 2, 3, 5, 0] rfl)
              · have hf := mb_if_t c_22 hf
                refine lv_aload_n hx hb dX0_findQuarrels_85 rfl (lv_at hl 1 rfl) ?_
                refine lv_iload_n hx hb dX0_findQuarrels_86 rfl (lv_at hl 4 rfl) ?_
                obtain ⟨P0_21, e_, hf⟩ := mb_let_s hf
                refine va_put (D := D) (ci := 0) (v := .int x3_7) (ty := .int) (C := RX0) (T := TX0) (N := 8) hx hb hts iw_Decrees tyX0 tyX0_ok nmX0 hown hK hP hD hS 0 rfl rfl 7 (by decide) fl_36 (fun _ h9 => h9) rfl (by decide +kernel) rfl rfl (Nat.le_of_ble_eq_true rfl) dX0_findQuarrels_87 (fun H locs hP hD hS => ?_)
                have hP : va_P D vwCl (wC_Decrees k b0 P0_21) H := by rw [e_]; exact hP
                have hD : va_D A (wC_Decrees k b0 P0_21) := by rw [e_]; exact hD
                clear e_
                exact j90_16 P0_21 _ _ _ hf hP hD hS (lv_sub hl [1, 2, 3, 5, 0] rfl)
  exact lp16_5 mb_fu x3_3 x4_4 P0_2 _ _ _ hf hP hD hS (lv_sub hl [2, 3, 4, 1, 0] rfl)
def f_One_quarrels (P1 : PI) (x1 : Int32) (x2 : Int32) (x3 : Int32) : Option (Int32 × PI) := mb_bd1 (f_One_isUnitNumber x1) (fun (r_1 : Int32) => (if r_1 = 0 then some ((-1 : Int32), P1) else mb_bd1 (f_One_isDistrict x2) (fun (r_2 : Int32) => (if r_2 = 0 then some ((-1 : Int32), P1) else mb_bd1 (f_One_within x3 (0 : Int32) (1 : Int32)) (fun (r_3 : Int32) => (if r_3 = 0 then some ((-1 : Int32), P1) else mb_bd1 (f_Decrees_findQuarrels P1 x1 x2) (fun (P1_4 : PI) => (if x3 = 0 then some ((P1_4 0 6), P1_4) else some ((P1_4 0 7), P1_4)))))))))
def rm_One_quarrels : Room := { frames := 3, cells := 0, slots := 0, locals := 90 }
set_option maxHeartbeats 4000000 in
set_option maxRecDepth 100000 in
theorem c_One_quarrels (l : Launch) (D : va_G) (k : Nat → ClassId) (sz : Nat) (a0 : Nat → Nat → Nat) (P0 : PI) (P1 : PI) (x1 : Int32) (x2 : Int32) (x3 : Int32) (z : Int32 × PI) (hf : f_One_quarrels P1 x1 x2 x3 = some z) : Met l yX11_quarrels wsX11_quarrels rm_One_quarrels (va_Pc [.ref (a0 0 0), .int x1, .int x2, .int x3] (gw_pre D vwCl (tyL k) (wC_One k a0 P0 ++ (wC_Decrees k (a0 7) P1)) sz)) (va_Qi (fun (r : Int32) (_ : Unit) => r = z.1) (gw_b D vwCl (tyL k) (va_A (wC_One k a0 P0 ++ (wC_Decrees k (a0 7) P1)) sz) (wC_One k a0 P0 ++ (wC_Decrees k (a0 7) z.2))) (va_A (wC_One k a0 P0 ++ (wC_Decrees k (a0 7) P1)) sz)) 0 0 (va_A (wC_One k a0 P0 ++ (wC_Decrees k (a0 7) P1)) sz) := by
  refine gm_i (cc := cX11_quarrels) (maxL := 4) (by decide) rfl (Nat.le_of_ble_eq_true rfl) ?_
  intro p e s m args below meth c A Q ls H locs hx hb hml hown hts hK hN hA hP hD hS hl hret
  have hown : s.vm.findClass RX11 = some m.cls := hown
  have hl : lv_has ls 4 [(0, .ref (a0 0 0)), (1, .int x1), (2, .int x2), (3, .int x3)] := hl
  have iw_One : ∀ w ∈ u_ws RX11 TX11 16, w ∈ wsX11_quarrels := by decide +kernel
  have iw_Decrees : ∀ w ∈ u_ws RX0 TX0 8, w ∈ wsX11_quarrels := by decide +kernel
  have fl_54 := hts (.fieldLink RX11 54 "OneMeasure" "decrees" "LOneMeasure$Decrees;") (by decide +kernel)
  have fl_230 := hts (.fieldLink RX11 230 "OneMeasure$Decrees" "quarrelDays" "I") (by decide +kernel)
  have fl_233 := hts (.fieldLink RX11 233 "OneMeasure$Decrees" "firstQuarrel" "I") (by decide +kernel)
  unfold f_One_quarrels at hf
  refine lv_iload_n hx hb dX11_quarrels_0 rfl (lv_at hl 1 rfl) ?_
  obtain ⟨r_1, hz, hf⟩ := mb_bd1_s hf
  refine gc_i (r0 := r_1) (ws' := (wC_One k a0 P0 ++ (wC_Decrees k (a0 7) P1))) (wr := (wC_One k a0 P0 ++ (wC_Decrees k (a0 7) P1))) (va_runS (As := [.int x1]) (rest := []) ⟨hx, hb, hml, hown, hts⟩ (c_One_isUnitNumber l D k H.size x1 r_1 hz) (cwS 1 hts gX11_quarrels_X11_isUnitNumber rfl rfl rfl (by decide +kernel) ⟨Nat.le_of_ble_eq_true rfl, Nat.le_of_ble_eq_true rfl⟩) (gp_S hP hD hK hN [] (by decide +kernel) rfl) rfl rfl hl.1 rfl (lv_room (Nat.le_of_ble_eq_true rfl)) dX11_quarrels_1 ⟨Nat.zero_le _, Nat.zero_le _⟩) hP hD hS hA [] [0, 1, 2, 3, 4, 5, 6, 7, 8, 9] rfl rfl (by decide +kernel) (by decide +kernel) [0, 1, 2, 3, 4, 5, 6, 7, 8, 9] (by decide +kernel) rfl (fun H locs hP hD hS => ?_)
  clear hz
  refine lv_if_eq (tgt := 23) hx hb dX11_quarrels_4 (by decide) (fun c_8 => ?_) (fun c_8 => ?_)
  · have hf := mb_if_t c_8 hf
    refine lv_iconst (v := (-1)) hx hb dX11_quarrels_23 (by decide) ?_
    have hz := Option.some.inj hf
    subst hz
    exact hret _ _ _ _ dX11_quarrels_24 hP hD hS
  · have hf := mb_if_f c_8 hf
    refine lv_iload_n hx hb dX11_quarrels_7 rfl (lv_at hl 2 rfl) ?_
    obtain ⟨r_2, hz, hf⟩ := mb_bd1_s hf
    refine gc_i (r0 := r_2) (ws' := (wC_One k a0 P0 ++ (wC_Decrees k (a0 7) P1))) (wr := (wC_One k a0 P0 ++ (wC_Decrees k (a0 7) P1))) (va_runS (As := [.int x2]) (rest := []) ⟨hx, hb, hml, hown, hts⟩ (c_One_isDistrict l D k H.size x2 r_2 hz) (cwS 1 hts gX11_quarrels_X11_isDistrict rfl rfl rfl (by decide +kernel) ⟨Nat.le_of_ble_eq_true rfl, Nat.le_of_ble_eq_true rfl⟩) (gp_S hP hD hK hN [] (by decide +kernel) rfl) rfl rfl hl.1 rfl (lv_room (Nat.le_of_ble_eq_true rfl)) dX11_quarrels_8 ⟨Nat.zero_le _, Nat.zero_le _⟩) hP hD hS hA [] [0, 1, 2, 3, 4, 5, 6, 7, 8, 9] rfl rfl (by decide +kernel) (by decide +kernel) [0, 1, 2, 3, 4, 5, 6, 7, 8, 9] (by decide +kernel) rfl (fun H locs hP hD hS => ?_)
    clear hz
    refine lv_if_eq (tgt := 23) hx hb dX11_quarrels_11 (by decide) (fun c_7 => ?_) (fun c_7 => ?_)
    · have hf := mb_if_t c_7 hf
      refine lv_iconst (v := (-1)) hx hb dX11_quarrels_23 (by decide) ?_
      have hz := Option.some.inj hf
      subst hz
      exact hret _ _ _ _ dX11_quarrels_24 hP hD hS
    · have hf := mb_if_f c_7 hf
      refine lv_iload_n hx hb dX11_quarrels_14 rfl (lv_at hl 3 rfl) ?_
      refine lv_iconst (v := 0) hx hb dX11_quarrels_15 (by decide) ?_
      refine lv_iconst (v := 1) hx hb dX11_quarrels_16 (by decide) ?_
      obtain ⟨r_3, hz, hf⟩ := mb_bd1_s hf
      refine gc_i (r0 := r_3) (ws' := (wC_One k a0 P0 ++ (wC_Decrees k (a0 7) P1))) (wr := (wC_One k a0 P0 ++ (wC_Decrees k (a0 7) P1))) (va_runS (As := [.int x3, .int (0 : Int32), .int (1 : Int32)]) (rest := []) ⟨hx, hb, hml, hown, hts⟩ (c_One_within l D k H.size x3 (0 : Int32) (1 : Int32) r_3 hz) (cwS 3 hts gX11_quarrels_X11_within rfl rfl rfl (by decide +kernel) ⟨Nat.le_of_ble_eq_true rfl, Nat.le_of_ble_eq_true rfl⟩) (gp_S hP hD hK hN [] (by decide +kernel) rfl) rfl rfl hl.1 rfl (lv_room (Nat.le_of_ble_eq_true rfl)) dX11_quarrels_17 ⟨Nat.zero_le _, Nat.zero_le _⟩) hP hD hS hA [] [0, 1, 2, 3, 4, 5, 6, 7, 8, 9] rfl rfl (by decide +kernel) (by decide +kernel) [0, 1, 2, 3, 4, 5, 6, 7, 8, 9] (by decide +kernel) rfl (fun H locs hP hD hS => ?_)
      clear hz
      refine lv_if_ne (tgt := 25) hx hb dX11_quarrels_20 (by decide) (fun c_6 => ?_) (fun c_6 => ?_)
      · have hf := mb_if_f c_6 hf
        refine lv_aload_n hx hb dX11_quarrels_25 rfl (lv_at hl 0 rfl) ?_
        refine va_get (D := D) (ci := 11) (v := .ref (a0 7 0)) (C := RX11) (T := TX11) (N := 16) hx hb hts iw_One hown hK hP 0 rfl rfl 6 (by decide) fl_54 (fun _ h9 => h9) rfl dX11_quarrels_26 ?_
        refine lv_iload_n hx hb dX11_quarrels_29 rfl (lv_at hl 1 rfl) ?_
        refine lv_iload_n hx hb dX11_quarrels_30 rfl (lv_at hl 2 rfl) ?_
        obtain ⟨P1_4, hz, hf⟩ := mb_bd1_s hf
        refine gc_v (ws' := (wC_One k a0 P0 ++ (wC_Decrees k (a0 7) P1_4))) (wr := (wC_One k a0 P0)) (va_runV (As := [.int x1, .int x2]) (rest := []) ⟨hx, hb, hml, hown, hts⟩ (c_Decrees_findQuarrels l D k H.size (a0 7) P1 x1 x2 P1_4 hz) (cwV 2 hts gX11_quarrels_X0_findQuarrels rfl rfl rfl (by decide +kernel) ⟨Nat.le_of_ble_eq_true rfl, Nat.le_of_ble_eq_true rfl⟩) (gp_V (ci := 0) (q0 := 0) (q := (RX0, TX0, 8)) hP hD hK hN [4, 5, 6, 7, 8, 9] (by decide +kernel) rfl rfl rfl) rfl rfl hl.1 rfl (lv_room (Nat.le_of_ble_eq_true rfl)) dX11_quarrels_31 ⟨Nat.zero_le _, Nat.zero_le _⟩) hP hD hS hA [4, 5, 6, 7, 8, 9] [0, 1, 2, 3] rfl rfl (by decide +kernel) (by decide +kernel) [0, 1, 2, 3, 4, 5, 6, 7, 8, 9] (by decide +kernel) rfl (fun H locs hP hD hS => ?_)
        clear hz
        refine lv_iload_n hx hb dX11_quarrels_34 rfl (lv_at hl 3 rfl) ?_
        refine lv_if_ne (tgt := 48) hx hb dX11_quarrels_35 (by decide) (fun c_5 => ?_) (fun c_5 => ?_)
        · have hf := mb_if_f c_5 hf
          refine lv_aload_n hx hb dX11_quarrels_48 rfl (lv_at hl 0 rfl) ?_
          refine va_get (D := D) (ci := 11) (v := .ref (a0 7 0)) (C := RX11) (T := TX11) (N := 16) hx hb hts iw_One hown hK hP 0 rfl rfl 6 (by decide) fl_54 (fun _ h9 => h9) rfl dX11_quarrels_49 ?_
          refine va_get (D := D) (ci := 0) (v := .int (P1_4 0 7)) (C := RX0) (T := TX0) (N := 8) hx hb hts iw_Decrees hown hK hP 4 rfl rfl 7 (by decide) fl_233 (fun _ h9 => h9) rfl dX11_quarrels_52 ?_
          have hz := Option.some.inj hf
          subst hz
          exact hret _ _ _ _ dX11_quarrels_55 hP hD hS
        · have hf := mb_if_t c_5 hf
          refine lv_aload_n hx hb dX11_quarrels_38 rfl (lv_at hl 0 rfl) ?_
          refine va_get (D := D) (ci := 11) (v := .ref (a0 7 0)) (C := RX11) (T := TX11) (N := 16) hx hb hts iw_One hown hK hP 0 rfl rfl 6 (by decide) fl_54 (fun _ h9 => h9) rfl dX11_quarrels_39 ?_
          refine va_get (D := D) (ci := 0) (v := .int (P1_4 0 6)) (C := RX0) (T := TX0) (N := 8) hx hb hts iw_Decrees hown hK hP 4 rfl rfl 6 (by decide) fl_230 (fun _ h9 => h9) rfl dX11_quarrels_42 ?_
          refine lv_goto (tgt := 55) hx hb dX11_quarrels_45 (by decide) ?_
          have hz := Option.some.inj hf
          subst hz
          exact hret _ _ _ _ dX11_quarrels_55 hP hD hS
      · have hf := mb_if_t c_6 hf
        refine lv_iconst (v := (-1)) hx hb dX11_quarrels_23 (by decide) ?_
        have hz := Option.some.inj hf
        subst hz
        exact hret _ _ _ _ dX11_quarrels_24 hP hD hS
def f_Decrees_ofWord (P0 : PI) (x1 : Int32) (x2 : Int32) (x3 : Int32) (x4 : Int32) : Option (Int32) := mb_chk x1 33 ((if (P0 1 x1.toNatClampNeg) = (110 : Int32) then mb_chk x1 33 ((if (P0 2 x1.toNatClampNeg) = x2 then mb_chk x1 33 ((if (P0 4 x1.toNatClampNeg) = x3 then mb_chk x1 33 ((if x4 < (P0 5 x1.toNatClampNeg) then some (0 : Int32) else some (1 : Int32))) else some (0 : Int32))) else some (0 : Int32))) else some (0 : Int32)))
def rm_Decrees_ofWord : Room := { frames := 0, cells := 0, slots := 0, locals := 0 }
set_option maxHeartbeats 4000000 in
set_option maxRecDepth 100000 in
theorem c_Decrees_ofWord (l : Launch) (D : va_G) (k : Nat → ClassId) (sz : Nat) (b0 : Nat → Nat) (P0 : PI) (x1 : Int32) (x2 : Int32) (x3 : Int32) (x4 : Int32) (z : Int32) (hf : f_Decrees_ofWord P0 x1 x2 x3 x4 = some z) : Met l yX0_ofWord wsX0_ofWord rm_Decrees_ofWord (va_Pc [.ref (b0 0), .int x1, .int x2, .int x3, .int x4] (gw_pre D vwCl (tyL k) (wC_Decrees k b0 P0) sz)) (va_Qi (fun (r : Int32) (_ : Unit) => r = z) (gw_b D vwCl (tyL k) (va_A (wC_Decrees k b0 P0) sz) (wC_Decrees k b0 P0)) (va_A (wC_Decrees k b0 P0) sz)) 0 0 (va_A (wC_Decrees k b0 P0) sz) := by
  refine gm_z (cc := cX0_ofWord) (maxL := 5) (by decide) rfl (Nat.le_of_ble_eq_true rfl) ?_
  intro p e s m args below meth c A Q ls H locs hx hb hml hown hts hK hN hA hP hD hS hl hret
  have hown : s.vm.findClass RX0 = some m.cls := hown
  have hl : lv_has ls 5 [(0, .ref (b0 0)), (1, .int x1), (2, .int x2), (3, .int x3), (4, .int x4)] := hl
  have iw_Decrees : ∀ w ∈ u_ws RX0 TX0 8, w ∈ wsX0_ofWord := by decide +kernel
  have fl_13 := hts (.fieldLink RX0 13 "OneMeasure$Decrees" "letter" "[I") (by decide +kernel)
  have fl_17 := hts (.fieldLink RX0 17 "OneMeasure$Decrees" "first" "[I") (by decide +kernel)
  have fl_23 := hts (.fieldLink RX0 23 "OneMeasure$Decrees" "third" "[I") (by decide +kernel)
  have fl_26 := hts (.fieldLink RX0 26 "OneMeasure$Decrees" "fourth" "[I") (by decide +kernel)
  unfold f_Decrees_ofWord at hf
  refine lv_aload_n hx hb dX0_ofWord_0 rfl (lv_at hl 0 rfl) ?_
  refine va_get (D := D) (ci := 0) (v := .ref (b0 1)) (C := RX0) (T := TX0) (N := 8) hx hb hts iw_Decrees hown hK hP 0 rfl rfl 0 (by decide) fl_13 (fun _ h9 => h9) rfl dX0_ofWord_1 ?_
  refine lv_iload_n hx hb dX0_ofWord_4 rfl (lv_at hl 1 rfl) ?_
  obtain ⟨h_1, hf⟩ := mb_chk_s hf
  refine va_iald hx hb hK hP 1 0 rfl rfl h_1 dX0_ofWord_5 ?_
  refine lv_bipush (v := 110) hx hb dX0_ofWord_6 (by decide) ?_
  refine lv_icmp_ne (tgt := 46) hx hb dX0_ofWord_8 (by decide) (fun c_8 => ?_) (fun c_8 => ?_)
  · have hf := mb_if_f c_8 hf
    refine lv_iconst (v := 0) hx hb dX0_ofWord_46 (by decide) ?_
    have hz := Option.some.inj hf
    subst hz
    exact hret _ _ _ _ mb_n0 dX0_ofWord_47 hP hD hS
  · have hf := mb_if_t c_8 hf
    refine lv_aload_n hx hb dX0_ofWord_11 rfl (lv_at hl 0 rfl) ?_
    refine va_get (D := D) (ci := 0) (v := .ref (b0 2)) (C := RX0) (T := TX0) (N := 8) hx hb hts iw_Decrees hown hK hP 0 rfl rfl 1 (by decide) fl_17 (fun _ h9 => h9) rfl dX0_ofWord_12 ?_
    refine lv_iload_n hx hb dX0_ofWord_15 rfl (lv_at hl 1 rfl) ?_
    obtain ⟨h_2, hf⟩ := mb_chk_s hf
    refine va_iald hx hb hK hP 2 0 rfl rfl h_2 dX0_ofWord_16 ?_
    refine lv_iload_n hx hb dX0_ofWord_17 rfl (lv_at hl 2 rfl) ?_
    refine lv_icmp_ne (tgt := 46) hx hb dX0_ofWord_18 (by decide) (fun c_7 => ?_) (fun c_7 => ?_)
    · have hf := mb_if_f c_7 hf
      refine lv_iconst (v := 0) hx hb dX0_ofWord_46 (by decide) ?_
      have hz := Option.some.inj hf
      subst hz
      exact hret _ _ _ _ mb_n0 dX0_ofWord_47 hP hD hS
    · have hf := mb_if_t c_7 hf
      refine lv_aload_n hx hb dX0_ofWord_21 rfl (lv_at hl 0 rfl) ?_
      refine va_get (D := D) (ci := 0) (v := .ref (b0 4)) (C := RX0) (T := TX0) (N := 8) hx hb hts iw_Decrees hown hK hP 0 rfl rfl 3 (by decide) fl_23 (fun _ h9 => h9) rfl dX0_ofWord_22 ?_
      refine lv_iload_n hx hb dX0_ofWord_25 rfl (lv_at hl 1 rfl) ?_
      obtain ⟨h_3, hf⟩ := mb_chk_s hf
      refine va_iald hx hb hK hP 4 0 rfl rfl h_3 dX0_ofWord_26 ?_
      refine lv_iload_n hx hb dX0_ofWord_27 rfl (lv_at hl 3 rfl) ?_
      refine lv_icmp_ne (tgt := 46) hx hb dX0_ofWord_28 (by decide) (fun c_6 => ?_) (fun c_6 => ?_)
      · have hf := mb_if_f c_6 hf
        refine lv_iconst (v := 0) hx hb dX0_ofWord_46 (by decide) ?_
        have hz := Option.some.inj hf
        subst hz
        exact hret _ _ _ _ mb_n0 dX0_ofWord_47 hP hD hS
      · have hf := mb_if_t c_6 hf
        refine lv_aload_n hx hb dX0_ofWord_31 rfl (lv_at hl 0 rfl) ?_
        refine va_get (D := D) (ci := 0) (v := .ref (b0 5)) (C := RX0) (T := TX0) (N := 8) hx hb hts iw_Decrees hown hK hP 0 rfl rfl 4 (by decide) fl_26 (fun _ h9 => h9) rfl dX0_ofWord_32 ?_
        refine lv_iload_n hx hb dX0_ofWord_35 rfl (lv_at hl 1 rfl) ?_
        obtain ⟨h_4, hf⟩ := mb_chk_s hf
        refine va_iald hx hb hK hP 5 0 rfl rfl h_4 dX0_ofWord_36 ?_
        refine lv_iload hx hb dX0_ofWord_37 (lv_at hl 4 rfl) ?_
        refine lv_icmp_gt (tgt := 46) hx hb dX0_ofWord_39 (by decide) (fun c_5 => ?_) (fun c_5 => ?_)
        · have hf := mb_if_t c_5 hf
          refine lv_iconst (v := 0) hx hb dX0_ofWord_46 (by decide) ?_
          have hz := Option.some.inj hf
          subst hz
          exact hret _ _ _ _ mb_n0 dX0_ofWord_47 hP hD hS
        · have hf := mb_if_f c_5 hf
          refine lv_iconst (v := 1) hx hb dX0_ofWord_42 (by decide) ?_
          refine lv_goto (tgt := 47) hx hb dX0_ofWord_43 (by decide) ?_
          have hz := Option.some.inj hf
          subst hz
          exact hret _ _ _ _ mb_n1 dX0_ofWord_47 hP hD hS
def f_Decrees_meanings_6_b (P0 : PI) (x1 : Int32) (x2 : Int32) (x3 : Int32) (self_7 : Int32 → Int32 → Option (Int32)) (x4_5 : Int32) (x5_6 : Int32) : Option (Int32) := (if (P0 0 5) ≤ x5_6 then some x4_5 else mb_bd1 (f_Decrees_ofWord P0 x5_6 x1 x2 x3) (fun (r_8 : Int32) => (if r_8 = 0 then mb_let (x5_6 + (1 : Int32)) (fun (x5_9 : Int32) => self_7 x4_5 x5_9) else mb_chk x5_6 33 (mb_let (x4_5 ||| ((1 : Int32) <<< ((P0 3 x5_6.toNatClampNeg) &&& 31))) (fun (x4_11 : Int32) => mb_let (x5_6 + (1 : Int32)) (fun (x5_12 : Int32) => self_7 x4_11 x5_12))))))
def f_Decrees_meanings_6 (P0 : PI) (x1 : Int32) (x2 : Int32) (x3 : Int32) : Nat → Int32 → Int32 → Option (Int32)
  | 0, _, _ => none
  | n + 1, x4_5, x5_6 => f_Decrees_meanings_6_b P0 x1 x2 x3 (f_Decrees_meanings_6 P0 x1 x2 x3 n) x4_5 x5_6
def f_Decrees_meanings (P0 : PI) (x1 : Int32) (x2 : Int32) (x3 : Int32) : Option (Int32) := mb_let (0 : Int32) (fun (x4_1 : Int32) => mb_let (0 : Int32) (fun (x5_2 : Int32) => f_Decrees_meanings_6 P0 x1 x2 x3 mb_fu x4_1 x5_2))
def rm_Decrees_meanings : Room := { frames := 1, cells := 0, slots := 0, locals := 24 }
set_option maxHeartbeats 4000000 in
set_option maxRecDepth 100000 in
theorem c_Decrees_meanings (l : Launch) (D : va_G) (k : Nat → ClassId) (sz : Nat) (b0 : Nat → Nat) (P0 : PI) (x1 : Int32) (x2 : Int32) (x3 : Int32) (z : Int32) (hf : f_Decrees_meanings P0 x1 x2 x3 = some z) : Met l yX0_meanings wsX0_meanings rm_Decrees_meanings (va_Pc [.ref (b0 0), .int x1, .int x2, .int x3] (gw_pre D vwCl (tyL k) (wC_Decrees k b0 P0) sz)) (va_Qi (fun (r : Int32) (_ : Unit) => r = z) (gw_b D vwCl (tyL k) (va_A (wC_Decrees k b0 P0) sz) (wC_Decrees k b0 P0)) (va_A (wC_Decrees k b0 P0) sz)) 0 0 (va_A (wC_Decrees k b0 P0) sz) := by
  refine gm_i (cc := cX0_meanings) (maxL := 6) (by decide) rfl (Nat.le_of_ble_eq_true rfl) ?_
  intro p e s m args below meth c A Q ls H locs hx hb hml hown hts hK hN hA hP hD hS hl hret
  have hown : s.vm.findClass RX0 = some m.cls := hown
  have hl : lv_has ls 6 [(0, .ref (b0 0)), (1, .int x1), (2, .int x2), (3, .int x3)] := hl
  have iw_Decrees : ∀ w ∈ u_ws RX0 TX0 8, w ∈ wsX0_meanings := by decide +kernel
  have fl_20 := hts (.fieldLink RX0 20 "OneMeasure$Decrees" "second" "[I") (by decide +kernel)
  have fl_29 := hts (.fieldLink RX0 29 "OneMeasure$Decrees" "count" "I") (by decide +kernel)
  unfold f_Decrees_meanings at hf
  refine lv_iconst (v := 0) hx hb dX0_meanings_0 (by decide) ?_
  obtain ⟨x4_1, e_, hf⟩ := mb_let_s hf
  refine mb_topi e_ ?_
  clear e_
  refine lv_istore (lv' := [(4, .int x4_1), (0, .ref (b0 0)), (1, .int x1), (2, .int x2), (3, .int x3)]) hx hb dX0_meanings_1 hl (by decide) rfl (fun ls hl => ?_)
  refine lv_iconst (v := 0) hx hb dX0_meanings_3 (by decide) ?_
  obtain ⟨x5_2, e_, hf⟩ := mb_let_s hf
  refine mb_topi e_ ?_
  clear e_
  refine lv_istore (lv' := [(5, .int x5_2), (4, .int x4_1), (0, .ref (b0 0)), (1, .int x1), (2, .int x2), (3, .int x3)]) hx hb dX0_meanings_4 hl (by decide) rfl (fun ls hl => ?_)
  have lp6_3 : ∀ (n : Nat) (x4_5 : Int32) (x5_6 : Int32) (H : Heap) (locs : List Loc) (ls : Array Slot), f_Decrees_meanings_6 P0 x1 x2 x3 n x4_5 x5_6 = some z → va_P D vwCl (wC_Decrees k b0 P0) H → va_D A (wC_Decrees k b0 P0) → va_S A s.heap H locs → lv_has ls 6 [(0, .ref (b0 0)), (1, .int x1), (2, .int x2), (3, .int x3), (4, .int x4_5), (5, .int x5_6)] → W p l e rm_Decrees_meanings s m args below meth c H locs 0 0 Q (F0 m 6 ls []) := by
    intro n
    induction n with
    | zero =>
      intro x4_5 x5_6 H locs ls hf
      exact nomatch (show (none : Option (Int32)) = some z from hf)
    | succ n ih_4 =>
      intro x4_5 x5_6 H locs ls hf hP hD hS hl
      have hf : f_Decrees_meanings_6_b P0 x1 x2 x3 (f_Decrees_meanings_6 P0 x1 x2 x3 n) x4_5 x5_6 = some z := hf
      unfold f_Decrees_meanings_6_b at hf
      refine lv_iload hx hb dX0_meanings_6 (lv_at hl 5 rfl) ?_
      refine lv_aload_n hx hb dX0_meanings_8 rfl (lv_at hl 0 rfl) ?_
      refine va_get (D := D) (ci := 0) (v := .int (P0 0 5)) (C := RX0) (T := TX0) (N := 8) hx hb hts iw_Decrees hown hK hP 0 rfl rfl 5 (by decide) fl_29 (fun _ h9 => h9) rfl dX0_meanings_9 ?_
      refine lv_icmp_ge (tgt := 47) hx hb dX0_meanings_12 (by decide) (fun c_14 => ?_) (fun c_14 => ?_)
      · have hf := mb_if_t c_14 hf
        refine lv_iload hx hb dX0_meanings_47 (lv_at hl 4 rfl) ?_
        have hz := Option.some.inj hf
        subst hz
        exact hret _ _ _ _ dX0_meanings_49 hP hD hS
      · have hf := mb_if_f c_14 hf
        refine lv_aload_n hx hb dX0_meanings_15 rfl (lv_at hl 0 rfl) ?_
        refine lv_iload hx hb dX0_meanings_16 (lv_at hl 5 rfl) ?_
        refine lv_iload_n hx hb dX0_meanings_18 rfl (lv_at hl 1 rfl) ?_
        refine lv_iload_n hx hb dX0_meanings_19 rfl (lv_at hl 2 rfl) ?_
        refine lv_iload_n hx hb dX0_meanings_20 rfl (lv_at hl 3 rfl) ?_
        obtain ⟨r_8, hz, hf⟩ := mb_bd1_s hf
        refine gc_i (r0 := r_8) (ws' := (wC_Decrees k b0 P0)) (wr := ([] : va_W)) (va_runV (As := [.int x5_6, .int x1, .int x2, .int x3]) (rest := []) ⟨hx, hb, hml, hown, hts⟩ (c_Decrees_ofWord l D k H.size b0 P0 x5_6 x1 x2 x3 r_8 hz) (cwV 4 hts gX0_meanings_X0_ofWord rfl rfl rfl (by decide +kernel) ⟨Nat.le_of_ble_eq_true rfl, Nat.le_of_ble_eq_true rfl⟩) (gp_V (ci := 0) (q0 := 0) (q := (RX0, TX0, 8)) hP hD hK hN [0, 1, 2, 3, 4, 5] (by decide +kernel) rfl rfl rfl) rfl rfl hl.1 rfl (lv_room (Nat.le_of_ble_eq_true rfl)) dX0_meanings_21 ⟨Nat.zero_le _, Nat.zero_le _⟩) hP hD hS hA [0, 1, 2, 3, 4, 5] [] rfl rfl (by decide +kernel) (by decide +kernel) [0, 1, 2, 3, 4, 5] (by decide +kernel) rfl (fun H locs hP hD hS => ?_)
        clear hz
        refine lv_if_eq (tgt := 41) hx hb dX0_meanings_24 (by decide) (fun c_13 => ?_) (fun c_13 => ?_)
        · have hf := mb_if_t c_13 hf
          obtain ⟨x5_9, e_, hf⟩ := mb_let_s hf
          refine lv_iinc (v := x5_9) (lv' := [(5, .int x5_9), (0, .ref (b0 0)), (1, .int x1), (2, .int x2), (3, .int x3), (4, .int x4_5)]) hx hb dX0_meanings_41 hl (k := 5) rfl (by rw [e_]; rfl) (by decide) rfl (fun ls hl => ?_)
          clear e_
          refine lv_goto (tgt := 6) hx hb dX0_meanings_44 (by decide) ?_
          exact ih_4 x4_5 x5_9 _ _ _ hf hP hD hS (lv_sub hl [1, 2, 3, 4, 5, 0] rfl)
        · have hf := mb_if_f c_13 hf
          refine lv_iload hx hb dX0_meanings_27 (lv_at hl 4 rfl) ?_
          refine lv_iconst (v := 1) hx hb dX0_meanings_29 (by decide) ?_
          refine lv_aload_n hx hb dX0_meanings_30 rfl (lv_at hl 0 rfl) ?_
          refine va_get (D := D) (ci := 0) (v := .ref (b0 3)) (C := RX0) (T := TX0) (N := 8) hx hb hts iw_Decrees hown hK hP 0 rfl rfl 2 (by decide) fl_20 (fun _ h9 => h9) rfl dX0_meanings_31 ?_
          refine lv_iload hx hb dX0_meanings_34 (lv_at hl 5 rfl) ?_
          obtain ⟨h_10, hf⟩ := mb_chk_s hf
          refine va_iald hx hb hK hP 3 0 rfl rfl h_10 dX0_meanings_36 ?_
          refine lv_ishl hx hb dX0_meanings_37 ?_
          refine lv_ior hx hb dX0_meanings_38 ?_
          obtain ⟨x4_11, e_, hf⟩ := mb_let_s hf
          refine mb_topi e_ ?_
          clear e_
          refine lv_istore (lv' := [(4, .int x4_11), (0, .ref (b0 0)), (1, .int x1), (2, .int x2), (3, .int x3), (5, .int x5_6)]) hx hb dX0_meanings_39 hl (by decide) rfl (fun ls hl => ?_)
          obtain ⟨x5_12, e_, hf⟩ := mb_let_s hf
          refine lv_iinc (v := x5_12) (lv' := [(5, .int x5_12), (4, .int x4_11), (0, .ref (b0 0)), (1, .int x1), (2, .int x2), (3, .int x3)]) hx hb dX0_meanings_41 hl (k := 5) rfl (by rw [e_]; rfl) (by decide) rfl (fun ls hl => ?_)
          clear e_
          refine lv_goto (tgt := 6) hx hb dX0_meanings_44 (by decide) ?_
          exact ih_4 x4_11 x5_12 _ _ _ hf hP hD hS (lv_sub hl [2, 3, 4, 5, 1, 0] rfl)
  exact lp6_3 mb_fu x4_1 x5_2 _ _ _ hf hP hD hS (lv_sub hl [2, 3, 4, 5, 1, 0] rfl)
def f_Decrees_latestOf_7_b (P0 : PI) (x1 : Int32) (x2 : Int32) (x3 : Int32) (self_7 : Int32 → Int32 → Option (Int32)) (x4_5 : Int32) (x5_6 : Int32) : Option (Int32) := (if (P0 0 5) ≤ x5_6 then some x4_5 else mb_bd1 (f_Decrees_ofWord P0 x5_6 x1 x2 x3) (fun (r_8 : Int32) => (if r_8 = 0 then mb_let (x5_6 + (1 : Int32)) (fun (x5_18 : Int32) => self_7 x4_5 x5_18) else mb_jn (mb_let x5_6 (fun (x4_11 : Int32) => mb_let (x5_6 + (1 : Int32)) (fun (x5_12 : Int32) => self_7 x4_11 x5_12))) (fun J53_9 => (if x4_5 < 0 then J53_9 else mb_chk x5_6 33 (mb_chk x4_5 33 ((if (P0 5 x5_6.toNatClampNeg) < (P0 5 x4_5.toNatClampNeg) then mb_let (x5_6 + (1 : Int32)) (fun (x5_15 : Int32) => self_7 x4_5 x5_15) else J53_9))))))))
def f_Decrees_latestOf_7 (P0 : PI) (x1 : Int32) (x2 : Int32) (x3 : Int32) : Nat → Int32 → Int32 → Option (Int32)
  | 0, _, _ => none
  | n + 1, x4_5, x5_6 => f_Decrees_latestOf_7_b P0 x1 x2 x3 (f_Decrees_latestOf_7 P0 x1 x2 x3 n) x4_5 x5_6
def f_Decrees_latestOf (P0 : PI) (x1 : Int32) (x2 : Int32) (x3 : Int32) : Option (Int32) := mb_let (-4 : Int32) (fun (x4_1 : Int32) => mb_let (0 : Int32) (fun (x5_2 : Int32) => f_Decrees_latestOf_7 P0 x1 x2 x3 mb_fu x4_1 x5_2))
def rm_Decrees_latestOf : Room := { frames := 1, cells := 0, slots := 0, locals := 24 }
set_option maxHeartbeats 4000000 in
set_option maxRecDepth 100000 in
theorem c_Decrees_latestOf (l : Launch) (D : va_G) (k : Nat → ClassId) (sz : Nat) (b0 : Nat → Nat) (P0 : PI) (x1 : Int32) (x2 : Int32) (x3 : Int32) (z : Int32) (hf : f_Decrees_latestOf P0 x1 x2 x3 = some z) : Met l yX0_latestOf wsX0_latestOf rm_Decrees_latestOf (va_Pc [.ref (b0 0), .int x1, .int x2, .int x3] (gw_pre D vwCl (tyL k) (wC_Decrees k b0 P0) sz)) (va_Qi (fun (r : Int32) (_ : Unit) => r = z) (gw_b D vwCl (tyL k) (va_A (wC_Decrees k b0 P0) sz) (wC_Decrees k b0 P0)) (va_A (wC_Decrees k b0 P0) sz)) 0 0 (va_A (wC_Decrees k b0 P0) sz) := by
  refine gm_i (cc := cX0_latestOf) (maxL := 6) (by decide) rfl (Nat.le_of_ble_eq_true rfl) ?_
  intro p e s m args below meth c A Q ls H locs hx hb hml hown hts hK hN hA hP hD hS hl hret
  have hown : s.vm.findClass RX0 = some m.cls := hown
  have hl : lv_has ls 6 [(0, .ref (b0 0)), (1, .int x1), (2, .int x2), (3, .int x3)] := hl
  have iw_Decrees : ∀ w ∈ u_ws RX0 TX0 8, w ∈ wsX0_latestOf := by decide +kernel
  have fl_26 := hts (.fieldLink RX0 26 "OneMeasure$Decrees" "fourth" "[I") (by decide +kernel)
  have fl_29 := hts (.fieldLink RX0 29 "OneMeasure$Decrees" "count" "I") (by decide +kernel)
  unfold f_Decrees_latestOf at hf
  refine lv_bipush (v := (-4)) hx hb dX0_latestOf_0 (by decide) ?_
  obtain ⟨x4_1, e_, hf⟩ := mb_let_s hf
  refine mb_topi e_ ?_
  clear e_
  refine lv_istore (lv' := [(4, .int x4_1), (0, .ref (b0 0)), (1, .int x1), (2, .int x2), (3, .int x3)]) hx hb dX0_latestOf_2 hl (by decide) rfl (fun ls hl => ?_)
  refine lv_iconst (v := 0) hx hb dX0_latestOf_4 (by decide) ?_
  obtain ⟨x5_2, e_, hf⟩ := mb_let_s hf
  refine mb_topi e_ ?_
  clear e_
  refine lv_istore (lv' := [(5, .int x5_2), (4, .int x4_1), (0, .ref (b0 0)), (1, .int x1), (2, .int x2), (3, .int x3)]) hx hb dX0_latestOf_5 hl (by decide) rfl (fun ls hl => ?_)
  have lp7_3 : ∀ (n : Nat) (x4_5 : Int32) (x5_6 : Int32) (H : Heap) (locs : List Loc) (ls : Array Slot), f_Decrees_latestOf_7 P0 x1 x2 x3 n x4_5 x5_6 = some z → va_P D vwCl (wC_Decrees k b0 P0) H → va_D A (wC_Decrees k b0 P0) → va_S A s.heap H locs → lv_has ls 6 [(0, .ref (b0 0)), (1, .int x1), (2, .int x2), (3, .int x3), (4, .int x4_5), (5, .int x5_6)] → W p l e rm_Decrees_latestOf s m args below meth c H locs 0 0 Q (F0 m 7 ls []) := by
    intro n
    induction n with
    | zero =>
      intro x4_5 x5_6 H locs ls hf
      exact nomatch (show (none : Option (Int32)) = some z from hf)
    | succ n ih_4 =>
      intro x4_5 x5_6 H locs ls hf hP hD hS hl
      have hf : f_Decrees_latestOf_7_b P0 x1 x2 x3 (f_Decrees_latestOf_7 P0 x1 x2 x3 n) x4_5 x5_6 = some z := hf
      unfold f_Decrees_latestOf_7_b at hf
      refine lv_iload hx hb dX0_latestOf_7 (lv_at hl 5 rfl) ?_
      refine lv_aload_n hx hb dX0_latestOf_9 rfl (lv_at hl 0 rfl) ?_
      refine va_get (D := D) (ci := 0) (v := .int (P0 0 5)) (C := RX0) (T := TX0) (N := 8) hx hb hts iw_Decrees hown hK hP 0 rfl rfl 5 (by decide) fl_29 (fun _ h9 => h9) rfl dX0_latestOf_10 ?_
      refine lv_icmp_ge (tgt := 63) hx hb dX0_latestOf_13 (by decide) (fun c_20 => ?_) (fun c_20 => ?_)
      · have hf := mb_if_t c_20 hf
        refine lv_iload hx hb dX0_latestOf_63 (lv_at hl 4 rfl) ?_
        have hz := Option.some.inj hf
        subst hz
        exact hret _ _ _ _ dX0_latestOf_65 hP hD hS
      · have hf := mb_if_f c_20 hf
        refine lv_aload_n hx hb dX0_latestOf_16 rfl (lv_at hl 0 rfl) ?_
        refine lv_iload hx hb dX0_latestOf_17 (lv_at hl 5 rfl) ?_
        refine lv_iload_n hx hb dX0_latestOf_19 rfl (lv_at hl 1 rfl) ?_
        refine lv_iload_n hx hb dX0_latestOf_20 rfl (lv_at hl 2 rfl) ?_
        refine lv_iload_n hx hb dX0_latestOf_21 rfl (lv_at hl 3 rfl) ?_
        obtain ⟨r_8, hz, hf⟩ := mb_bd1_s hf
        refine gc_i (r0 := r_8) (ws' := (wC_Decrees k b0 P0)) (wr := ([] : va_W)) (va_runV (As := [.int x5_6, .int x1, .int x2, .int x3]) (rest := []) ⟨hx, hb, hml, hown, hts⟩ (c_Decrees_ofWord l D k H.size b0 P0 x5_6 x1 x2 x3 r_8 hz) (cwV 4 hts gX0_latestOf_X0_ofWord rfl rfl rfl (by decide +kernel) ⟨Nat.le_of_ble_eq_true rfl, Nat.le_of_ble_eq_true rfl⟩) (gp_V (ci := 0) (q0 := 0) (q := (RX0, TX0, 8)) hP hD hK hN [0, 1, 2, 3, 4, 5] (by decide +kernel) rfl rfl rfl) rfl rfl hl.1 rfl (lv_room (Nat.le_of_ble_eq_true rfl)) dX0_latestOf_22 ⟨Nat.zero_le _, Nat.zero_le _⟩) hP hD hS hA [0, 1, 2, 3, 4, 5] [] rfl rfl (by decide +kernel) (by decide +kernel) [0, 1, 2, 3, 4, 5] (by decide +kernel) rfl (fun H locs hP hD hS => ?_)
        clear hz
        refine lv_if_ne (tgt := 31) hx hb dX0_latestOf_25 (by decide) (fun c_19 => ?_) (fun c_19 => ?_)
        · have hf := mb_if_f c_19 hf
          refine lv_iload hx hb dX0_latestOf_31 (lv_at hl 4 rfl) ?_
          obtain ⟨J53_9, eJ53_9, hf⟩ := mb_jn_s hf
          have j53_10 : ∀ (H : Heap) (locs : List Loc) (ls : Array Slot), J53_9 = some z → va_P D vwCl (wC_Decrees k b0 P0) H → va_D A (wC_Decrees k b0 P0) → va_S A s.heap H locs → lv_has ls 6 [(0, .ref (b0 0)), (1, .int x1), (2, .int x2), (3, .int x3), (5, .int x5_6)] → W p l e rm_Decrees_latestOf s m args below meth c H locs 0 0 Q (F0 m 53 ls []) := by
            intro  H locs ls hf hP hD hS hl
            have hf := mb_j0 eJ53_9 hf
            refine lv_iload hx hb dX0_latestOf_53 (lv_at hl 4 rfl) ?_
            obtain ⟨x4_11, e_, hf⟩ := mb_let_s hf
            refine mb_topi e_ ?_
            clear e_
            refine lv_istore (lv' := [(4, .int x4_11), (0, .ref (b0 0)), (1, .int x1), (2, .int x2), (3, .int x3), (5, .int x5_6)]) hx hb dX0_latestOf_55 hl (by decide) rfl (fun ls hl => ?_)
            obtain ⟨x5_12, e_, hf⟩ := mb_let_s hf
            refine lv_iinc (v := x5_12) (lv' := [(5, .int x5_12), (4, .int x4_11), (0, .ref (b0 0)), (1, .int x1), (2, .int x2), (3, .int x3)]) hx hb dX0_latestOf_57 hl (k := 5) rfl (by rw [e_]; rfl) (by decide) rfl (fun ls hl => ?_)
            clear e_
            refine lv_goto (tgt := 7) hx hb dX0_latestOf_60 (by decide) ?_
            exact ih_4 x4_11 x5_12 _ _ _ hf hP hD hS (lv_sub hl [2, 3, 4, 5, 1, 0] rfl)
          refine lv_if_lt (tgt := 53) hx hb dX0_latestOf_33 (by decide) (fun c_17 => ?_) (fun c_17 => ?_)
          · have hf := mb_if_t c_17 hf
            exact j53_10  _ _ _ hf hP hD hS (lv_sub hl [0, 1, 2, 3, 5] rfl)
          · have hf := mb_if_f c_17 hf
            refine lv_aload_n hx hb dX0_latestOf_36 rfl (lv_at hl 0 rfl) ?_
            refine va_get (D := D) (ci := 0) (v := .ref (b0 5)) (C := RX0) (T := TX0) (N := 8) hx hb hts iw_Decrees hown hK hP 0 rfl rfl 4 (by decide) fl_26 (fun _ h9 => h9) rfl dX0_latestOf_37 ?_
            refine lv_iload hx hb dX0_latestOf_40 (lv_at hl 5 rfl) ?_
            obtain ⟨h_13, hf⟩ := mb_chk_s hf
            refine va_iald hx hb hK hP 5 0 rfl rfl h_13 dX0_latestOf_42 ?_
            refine lv_aload_n hx hb dX0_latestOf_43 rfl (lv_at hl 0 rfl) ?_
            refine va_get (D := D) (ci := 0) (v := .ref (b0 5)) (C := RX0) (T := TX0) (N := 8) hx hb hts iw_Decrees hown hK hP 0 rfl rfl 4 (by decide) fl_26 (fun _ h9 => h9) rfl dX0_latestOf_44 ?_
            refine lv_iload hx hb dX0_latestOf_47 (lv_at hl 4 rfl) ?_
            obtain ⟨h_14, hf⟩ := mb_chk_s hf
            refine va_iald hx hb hK hP 5 0 rfl rfl h_14 dX0_latestOf_49 ?_
            refine lv_icmp_lt (tgt := 57) hx hb dX0_latestOf_50 (by decide) (fun c_16 => ?_) (fun c_16 => ?_)
            · have hf := mb_if_t c_16 hf
              obtain ⟨x5_15, e_, hf⟩ := mb_let_s hf
              refine lv_iinc (v := x5_15) (lv' := [(5, .int x5_15), (0, .ref (b0 0)), (1, .int x1), (2, .int x2), (3, .int x3), (4, .int x4_5)]) hx hb dX0_latestOf_57 hl (k := 5) rfl (by rw [e_]; rfl) (by decide) rfl (fun ls hl => ?_)
              clear e_
              refine lv_goto (tgt := 7) hx hb dX0_latestOf_60 (by decide) ?_
              exact ih_4 x4_5 x5_15 _ _ _ hf hP hD hS (lv_sub hl [1, 2, 3, 4, 5, 0] rfl)
            · have hf := mb_if_f c_16 hf
              exact j53_10  _ _ _ hf hP hD hS (lv_sub hl [0, 1, 2, 3, 5] rfl)
        · have hf := mb_if_t c_19 hf
          refine lv_goto (tgt := 57) hx hb dX0_latestOf_28 (by decide) ?_
          obtain ⟨x5_18, e_, hf⟩ := mb_let_s hf
          refine lv_iinc (v := x5_18) (lv' := [(5, .int x5_18), (0, .ref (b0 0)), (1, .int x1), (2, .int x2), (3, .int x3), (4, .int x4_5)]) hx hb dX0_latestOf_57 hl (k := 5) rfl (by rw [e_]; rfl) (by decide) rfl (fun ls hl => ?_)
          clear e_
          refine lv_goto (tgt := 7) hx hb dX0_latestOf_60 (by decide) ?_
          exact ih_4 x4_5 x5_18 _ _ _ hf hP hD hS (lv_sub hl [1, 2, 3, 4, 5, 0] rfl)
  exact lp7_3 mb_fu x4_1 x5_2 _ _ _ hf hP hD hS (lv_sub hl [2, 3, 4, 5, 1, 0] rfl)
