def f_One_people (P1 : PI) (x1 : Int32) (x2 : Int32) (x3 : Int32) (x4 : Int32) (x5 : Int32) : Option (Int32 × PI) := mb_bd1 (f_One_isDistrict x1) (fun (r_1 : Int32) => (if r_1 = 0 then some ((-1 : Int32), P1) else mb_bd1 (f_One_within x2 (0 : Int32) (100000 : Int32)) (fun (r_2 : Int32) => (if r_2 = 0 then some ((-1 : Int32), P1) else mb_bd1 (f_One_within x3 (0 : Int32) (100000 : Int32)) (fun (r_3 : Int32) => (if r_3 = 0 then some ((-1 : Int32), P1) else (if (x2 + x3) ≤ (100000 : Int32) then mb_bd1 (f_One_within x4 (0 : Int32) (500 : Int32)) (fun (r_4 : Int32) => (if r_4 = 0 then some ((-1 : Int32), P1) else mb_bd1 (f_One_within x5 (0 : Int32) (500 : Int32)) (fun (r_5 : Int32) => (if r_5 = 0 then some ((-1 : Int32), P1) else mb_bd1 (f_Folk_put P1 x1 x2 x3 x4 x5) (fun (P1_6 : PI) => some ((0 : Int32), P1_6)))))) else some ((-1 : Int32), P1))))))))
def rm_One_people : Room := { frames := 2, cells := 0, slots := 0, locals := 42 }
set_option maxHeartbeats 4000000 in
set_option maxRecDepth 100000 in
theorem c_One_people (l : Launch) (D : va_G) (k : Nat → ClassId) (sz : Nat) (a0 : Nat → Nat → Nat) (P0 : PI) (P1 : PI) (x1 : Int32) (x2 : Int32) (x3 : Int32) (x4 : Int32) (x5 : Int32) (z : Int32 × PI) (hf : f_One_people P1 x1 x2 x3 x4 x5 = some z) : Met l yX11_people wsX11_people rm_One_people (va_Pc [.ref (a0 0 0), .int x1, .int x2, .int x3, .int x4, .int x5] (gw_pre D vwCl (tyL k) (wC_One k a0 P0 ++ (wC_Folk k (a0 11) P1)) sz)) (va_Qi (fun (r : Int32) (_ : Unit) => r = z.1) (gw_b D vwCl (tyL k) (va_A (wC_One k a0 P0 ++ (wC_Folk k (a0 11) P1)) sz) (wC_One k a0 P0 ++ (wC_Folk k (a0 11) z.2))) (va_A (wC_One k a0 P0 ++ (wC_Folk k (a0 11) P1)) sz)) 0 0 (va_A (wC_One k a0 P0 ++ (wC_Folk k (a0 11) P1)) sz) := by
  refine gm_i (cc := cX11_people) (maxL := 6) (by decide) rfl (Nat.le_of_ble_eq_true rfl) ?_
  intro p e s m args below meth c A Q ls H locs hx hb hml hown hts hK hN hA hP hD hS hl hret
  have hown : s.vm.findClass RX11 = some m.cls := hown
  have hl : lv_has ls 6 [(0, .ref (a0 0 0)), (1, .int x1), (2, .int x2), (3, .int x3), (4, .int x4), (5, .int x5)] := hl
  have iw_One : ∀ w ∈ u_ws RX11 TX11 16, w ∈ wsX11_people := by decide +kernel
  have fl_82 := hts (.fieldLink RX11 82 "OneMeasure" "folk" "LOneMeasure$Folk;") (by decide +kernel)
  have lc_306 := hts (.constant RX11 306 (100000)) (by decide +kernel)
  unfold f_One_people at hf
  refine lv_iload_n hx hb dX11_people_0 rfl (lv_at hl 1 rfl) ?_
  obtain ⟨r_1, hz, hf⟩ := mb_bd1_s hf
  refine gc_i (r0 := r_1) (ws' := (wC_One k a0 P0 ++ (wC_Folk k (a0 11) P1))) (wr := (wC_One k a0 P0 ++ (wC_Folk k (a0 11) P1))) (va_runS (As := [.int x1]) (rest := []) ⟨hx, hb, hml, hown, hts⟩ (c_One_isDistrict l D k H.size x1 r_1 hz) (cwS 1 hts gX11_people_X11_isDistrict rfl rfl rfl (by decide +kernel) ⟨Nat.le_of_ble_eq_true rfl, Nat.le_of_ble_eq_true rfl⟩) (gp_S hP hD hK hN [] (by decide +kernel) rfl) rfl rfl hl.1 rfl (lv_room (Nat.le_of_ble_eq_true rfl)) dX11_people_1 ⟨Nat.zero_le _, Nat.zero_le _⟩) hP hD hS hA [] [0, 1, 2, 3, 4, 5, 6, 7, 8] rfl rfl (by decide +kernel) (by decide +kernel) [0, 1, 2, 3, 4, 5, 6, 7, 8] (by decide +kernel) rfl (fun H locs hP hD hS => ?_)
  clear hz
  refine lv_if_ne (tgt := 9) hx hb dX11_people_4 (by decide) (fun c_12 => ?_) (fun c_12 => ?_)
  · have hf := mb_if_f c_12 hf
    refine lv_iload_n hx hb dX11_people_9 rfl (lv_at hl 2 rfl) ?_
    refine lv_iconst (v := 0) hx hb dX11_people_10 (by decide) ?_
    refine lv_ldcw (v := (100000)) hx hb hown lc_306 dX11_people_11 ?_
    obtain ⟨r_2, hz, hf⟩ := mb_bd1_s hf
    refine gc_i (r0 := r_2) (ws' := (wC_One k a0 P0 ++ (wC_Folk k (a0 11) P1))) (wr := (wC_One k a0 P0 ++ (wC_Folk k (a0 11) P1))) (va_runS (As := [.int x2, .int (0 : Int32), .int (100000 : Int32)]) (rest := []) ⟨hx, hb, hml, hown, hts⟩ (c_One_within l D k H.size x2 (0 : Int32) (100000 : Int32) r_2 hz) (cwS 3 hts gX11_people_X11_within rfl rfl rfl (by decide +kernel) ⟨Nat.le_of_ble_eq_true rfl, Nat.le_of_ble_eq_true rfl⟩) (gp_S hP hD hK hN [] (by decide +kernel) rfl) rfl rfl hl.1 rfl (lv_room (Nat.le_of_ble_eq_true rfl)) dX11_people_14 ⟨Nat.zero_le _, Nat.zero_le _⟩) hP hD hS hA [] [0, 1, 2, 3, 4, 5, 6, 7, 8] rfl rfl (by decide +kernel) (by decide +kernel) [0, 1, 2, 3, 4, 5, 6, 7, 8] (by decide +kernel) rfl (fun H locs hP hD hS => ?_)
    clear hz
    refine lv_if_eq (tgt := 31) hx hb dX11_people_17 (by decide) (fun c_11 => ?_) (fun c_11 => ?_)
    · have hf := mb_if_t c_11 hf
      refine lv_iconst (v := (-1)) hx hb dX11_people_31 (by decide) ?_
      have hz := Option.some.inj hf
      subst hz
      exact hret _ _ _ _ dX11_people_32 hP hD hS
    · have hf := mb_if_f c_11 hf
      refine lv_iload_n hx hb dX11_people_20 rfl (lv_at hl 3 rfl) ?_
      refine lv_iconst (v := 0) hx hb dX11_people_21 (by decide) ?_
      refine lv_ldcw (v := (100000)) hx hb hown lc_306 dX11_people_22 ?_
      obtain ⟨r_3, hz, hf⟩ := mb_bd1_s hf
      refine gc_i (r0 := r_3) (ws' := (wC_One k a0 P0 ++ (wC_Folk k (a0 11) P1))) (wr := (wC_One k a0 P0 ++ (wC_Folk k (a0 11) P1))) (va_runS (As := [.int x3, .int (0 : Int32), .int (100000 : Int32)]) (rest := []) ⟨hx, hb, hml, hown, hts⟩ (c_One_within l D k H.size x3 (0 : Int32) (100000 : Int32) r_3 hz) (cwS 3 hts gX11_people_X11_within rfl rfl rfl (by decide +kernel) ⟨Nat.le_of_ble_eq_true rfl, Nat.le_of_ble_eq_true rfl⟩) (gp_S hP hD hK hN [] (by decide +kernel) rfl) rfl rfl hl.1 rfl (lv_room (Nat.le_of_ble_eq_true rfl)) dX11_people_25 ⟨Nat.zero_le _, Nat.zero_le _⟩) hP hD hS hA [] [0, 1, 2, 3, 4, 5, 6, 7, 8] rfl rfl (by decide +kernel) (by decide +kernel) [0, 1, 2, 3, 4, 5, 6, 7, 8] (by decide +kernel) rfl (fun H locs hP hD hS => ?_)
      clear hz
      refine lv_if_ne (tgt := 33) hx hb dX11_people_28 (by decide) (fun c_10 => ?_) (fun c_10 => ?_)
      · have hf := mb_if_f c_10 hf
        refine lv_iload_n hx hb dX11_people_33 rfl (lv_at hl 2 rfl) ?_
        refine lv_iload_n hx hb dX11_people_34 rfl (lv_at hl 3 rfl) ?_
        refine lv_iadd hx hb dX11_people_35 ?_
        refine lv_ldcw (v := (100000)) hx hb hown lc_306 dX11_people_36 ?_
        refine lv_icmp_le (tgt := 44) hx hb dX11_people_39 (by decide) (fun c_9 => ?_) (fun c_9 => ?_)
        · have hf := mb_if_t c_9 hf
          refine lv_iload hx hb dX11_people_44 (lv_at hl 4 rfl) ?_
          refine lv_iconst (v := 0) hx hb dX11_people_46 (by decide) ?_
          refine lv_sipush (v := 500) hx hb dX11_people_47 (by decide) ?_
          obtain ⟨r_4, hz, hf⟩ := mb_bd1_s hf
          refine gc_i (r0 := r_4) (ws' := (wC_One k a0 P0 ++ (wC_Folk k (a0 11) P1))) (wr := (wC_One k a0 P0 ++ (wC_Folk k (a0 11) P1))) (va_runS (As := [.int x4, .int (0 : Int32), .int (500 : Int32)]) (rest := []) ⟨hx, hb, hml, hown, hts⟩ (c_One_within l D k H.size x4 (0 : Int32) (500 : Int32) r_4 hz) (cwS 3 hts gX11_people_X11_within rfl rfl rfl (by decide +kernel) ⟨Nat.le_of_ble_eq_true rfl, Nat.le_of_ble_eq_true rfl⟩) (gp_S hP hD hK hN [] (by decide +kernel) rfl) rfl rfl hl.1 rfl (lv_room (Nat.le_of_ble_eq_true rfl)) dX11_people_50 ⟨Nat.zero_le _, Nat.zero_le _⟩) hP hD hS hA [] [0, 1, 2, 3, 4, 5, 6, 7, 8] rfl rfl (by decide +kernel) (by decide +kernel) [0, 1, 2, 3, 4, 5, 6, 7, 8] (by decide +kernel) rfl (fun H locs hP hD hS => ?_)
          clear hz
          refine lv_if_eq (tgt := 68) hx hb dX11_people_53 (by decide) (fun c_8 => ?_) (fun c_8 => ?_)
          · have hf := mb_if_t c_8 hf
            refine lv_iconst (v := (-1)) hx hb dX11_people_68 (by decide) ?_
            have hz := Option.some.inj hf
            subst hz
            exact hret _ _ _ _ dX11_people_69 hP hD hS
          · have hf := mb_if_f c_8 hf
            refine lv_iload hx hb dX11_people_56 (lv_at hl 5 rfl) ?_
            refine lv_iconst (v := 0) hx hb dX11_people_58 (by decide) ?_
            refine lv_sipush (v := 500) hx hb dX11_people_59 (by decide) ?_
            obtain ⟨r_5, hz, hf⟩ := mb_bd1_s hf
            refine gc_i (r0 := r_5) (ws' := (wC_One k a0 P0 ++ (wC_Folk k (a0 11) P1))) (wr := (wC_One k a0 P0 ++ (wC_Folk k (a0 11) P1))) (va_runS (As := [.int x5, .int (0 : Int32), .int (500 : Int32)]) (rest := []) ⟨hx, hb, hml, hown, hts⟩ (c_One_within l D k H.size x5 (0 : Int32) (500 : Int32) r_5 hz) (cwS 3 hts gX11_people_X11_within rfl rfl rfl (by decide +kernel) ⟨Nat.le_of_ble_eq_true rfl, Nat.le_of_ble_eq_true rfl⟩) (gp_S hP hD hK hN [] (by decide +kernel) rfl) rfl rfl hl.1 rfl (lv_room (Nat.le_of_ble_eq_true rfl)) dX11_people_62 ⟨Nat.zero_le _, Nat.zero_le _⟩) hP hD hS hA [] [0, 1, 2, 3, 4, 5, 6, 7, 8] rfl rfl (by decide +kernel) (by decide +kernel) [0, 1, 2, 3, 4, 5, 6, 7, 8] (by decide +kernel) rfl (fun H locs hP hD hS => ?_)
            clear hz
            refine lv_if_ne (tgt := 70) hx hb dX11_people_65 (by decide) (fun c_7 => ?_) (fun c_7 => ?_)
            · have hf := mb_if_f c_7 hf
              refine lv_aload_n hx hb dX11_people_70 rfl (lv_at hl 0 rfl) ?_
              refine va_get (D := D) (ci := 11) (v := .ref (a0 11 0)) (C := RX11) (T := TX11) (N := 16) hx hb hts iw_One hown hK hP 0 rfl rfl 10 (by decide) fl_82 (fun _ h9 => h9) rfl dX11_people_71 ?_
              refine lv_iload_n hx hb dX11_people_74 rfl (lv_at hl 1 rfl) ?_
              refine lv_iload_n hx hb dX11_people_75 rfl (lv_at hl 2 rfl) ?_
              refine lv_iload_n hx hb dX11_people_76 rfl (lv_at hl 3 rfl) ?_
              refine lv_iload hx hb dX11_people_77 (lv_at hl 4 rfl) ?_
              refine lv_iload hx hb dX11_people_79 (lv_at hl 5 rfl) ?_
              obtain ⟨P1_6, hz, hf⟩ := mb_bd1_s hf
              refine gc_v (ws' := (wC_One k a0 P0 ++ (wC_Folk k (a0 11) P1_6))) (wr := (wC_One k a0 P0)) (va_runV (As := [.int x1, .int x2, .int x3, .int x4, .int x5]) (rest := []) ⟨hx, hb, hml, hown, hts⟩ (c_Folk_put l D k H.size (a0 11) P1 x1 x2 x3 x4 x5 P1_6 hz) (cwV 5 hts gX11_people_X1_put rfl rfl rfl (by decide +kernel) ⟨Nat.le_of_ble_eq_true rfl, Nat.le_of_ble_eq_true rfl⟩) (gp_V (ci := 1) (q0 := 0) (q := (RX1, TX1, 4)) hP hD hK hN [4, 5, 6, 7, 8] (by decide +kernel) rfl rfl rfl) rfl rfl hl.1 rfl (lv_room (Nat.le_of_ble_eq_true rfl)) dX11_people_81 ⟨Nat.zero_le _, Nat.zero_le _⟩) hP hD hS hA [4, 5, 6, 7, 8] [0, 1, 2, 3] rfl rfl (by decide +kernel) (by decide +kernel) [0, 1, 2, 3, 4, 5, 6, 7, 8] (by decide +kernel) rfl (fun H locs hP hD hS => ?_)
              clear hz
              refine lv_iconst (v := 0) hx hb dX11_people_84 (by decide) ?_
              have hz := Option.some.inj hf
              subst hz
              exact hret _ _ _ _ dX11_people_85 hP hD hS
            · have hf := mb_if_t c_7 hf
              refine lv_iconst (v := (-1)) hx hb dX11_people_68 (by decide) ?_
              have hz := Option.some.inj hf
              subst hz
              exact hret _ _ _ _ dX11_people_69 hP hD hS
        · have hf := mb_if_f c_9 hf
          refine lv_iconst (v := (-1)) hx hb dX11_people_42 (by decide) ?_
          have hz := Option.some.inj hf
          subst hz
          exact hret _ _ _ _ dX11_people_43 hP hD hS
      · have hf := mb_if_t c_10 hf
        refine lv_iconst (v := (-1)) hx hb dX11_people_31 (by decide) ?_
        have hz := Option.some.inj hf
        subst hz
        exact hret _ _ _ _ dX11_people_32 hP hD hS
  · have hf := mb_if_t c_12 hf
    refine lv_iconst (v := (-1)) hx hb dX11_people_7 (by decide) ?_
    have hz := Option.some.inj hf
    subst hz
    exact hret _ _ _ _ dX11_people_8 hP hD hS
def f_Folk_changeOf (P0 : PI) (x1 : Int32) (x2 : Int32) (x3 : Int32) : Option (Int32) := mb_chk x1 6 (mb_chk x1 6 (mb_dvi (1000 : Int32) (mb_let ((x2 * ((P0 3 x1.toNatClampNeg) + (P0 4 x1.toNatClampNeg))) / (1000 : Int32)) (fun (x4_4 : Int32) => mb_let (x3 + x4_4) (fun (x5_5 : Int32) => mb_jn (fun (y_6 : Int32) => mb_let y_6 (fun (x6_9 : Int32) => some (x4_4 - x6_9))) (fun J48_7 => (if (x2 - x4_4) ≤ x5_5 then J48_7 (0 : Int32) else mb_dvi (1000 : Int32) (J48_7 ((x5_5 * (5 : Int32)) / (1000 : Int32))))))))))
def rm_Folk_changeOf : Room := { frames := 0, cells := 0, slots := 0, locals := 0 }
set_option maxHeartbeats 4000000 in
set_option maxRecDepth 100000 in
theorem c_Folk_changeOf (l : Launch) (D : va_G) (k : Nat → ClassId) (sz : Nat) (b0 : Nat → Nat) (P0 : PI) (x1 : Int32) (x2 : Int32) (x3 : Int32) (z : Int32) (hf : f_Folk_changeOf P0 x1 x2 x3 = some z) : Met l yX1_changeOf wsX1_changeOf rm_Folk_changeOf (va_Pc [.ref (b0 0), .int x1, .int x2, .int x3] (gw_pre D vwCl (tyL k) (wC_Folk k b0 P0) sz)) (va_Qi (fun (r : Int32) (_ : Unit) => r = z) (gw_b D vwCl (tyL k) (va_A (wC_Folk k b0 P0) sz) (wC_Folk k b0 P0)) (va_A (wC_Folk k b0 P0) sz)) 0 0 (va_A (wC_Folk k b0 P0) sz) := by
  refine gm_i (cc := cX1_changeOf) (maxL := 7) (by decide) rfl (Nat.le_of_ble_eq_true rfl) ?_
  intro p e s m args below meth c A Q ls H locs hx hb hml hown hts hK hN hA hP hD hS hl hret
  have hown : s.vm.findClass RX1 = some m.cls := hown
  have hl : lv_has ls 7 [(0, .ref (b0 0)), (1, .int x1), (2, .int x2), (3, .int x3)] := hl
  have iw_Folk : ∀ w ∈ u_ws RX1 TX1 4, w ∈ wsX1_changeOf := by decide +kernel
  have fl_18 := hts (.fieldLink RX1 18 "OneMeasure$Folk" "school" "[I") (by decide +kernel)
  have fl_21 := hts (.fieldLink RX1 21 "OneMeasure$Folk" "trust" "[I") (by decide +kernel)
  unfold f_Folk_changeOf at hf
  refine lv_iload_n hx hb dX1_changeOf_0 rfl (lv_at hl 2 rfl) ?_
  refine lv_aload_n hx hb dX1_changeOf_1 rfl (lv_at hl 0 rfl) ?_
  refine va_get (D := D) (ci := 1) (v := .ref (b0 3)) (C := RX1) (T := TX1) (N := 4) hx hb hts iw_Folk hown hK hP 0 rfl rfl 2 (by decide) fl_18 (fun _ h9 => h9) rfl dX1_changeOf_2 ?_
  refine lv_iload_n hx hb dX1_changeOf_5 rfl (lv_at hl 1 rfl) ?_
  obtain ⟨h_1, hf⟩ := mb_chk_s hf
  refine va_iald hx hb hK hP 3 0 rfl rfl h_1 dX1_changeOf_6 ?_
  refine lv_aload_n hx hb dX1_changeOf_7 rfl (lv_at hl 0 rfl) ?_
  refine va_get (D := D) (ci := 1) (v := .ref (b0 4)) (C := RX1) (T := TX1) (N := 4) hx hb hts iw_Folk hown hK hP 0 rfl rfl 3 (by decide) fl_21 (fun _ h9 => h9) rfl dX1_changeOf_8 ?_
  refine lv_iload_n hx hb dX1_changeOf_11 rfl (lv_at hl 1 rfl) ?_
  obtain ⟨h_2, hf⟩ := mb_chk_s hf
  refine va_iald hx hb hK hP 4 0 rfl rfl h_2 dX1_changeOf_12 ?_
  refine lv_iadd hx hb dX1_changeOf_13 ?_
  refine lv_imul hx hb dX1_changeOf_14 ?_
  refine lv_sipush (v := 1000) hx hb dX1_changeOf_15 (by decide) ?_
  obtain ⟨h_3, hf⟩ := mb_dvi_s hf
  refine lv_idiv hx hb dX1_changeOf_18 h_3 ?_
  obtain ⟨x4_4, e_, hf⟩ := mb_let_s hf
  refine mb_topi e_ ?_
  clear e_
  refine lv_istore (lv' := [(4, .int x4_4), (0, .ref (b0 0)), (1, .int x1), (2, .int x2), (3, .int x3)]) hx hb dX1_changeOf_19 hl (by decide) rfl (fun ls hl => ?_)
  refine lv_iload_n hx hb dX1_changeOf_21 rfl (lv_at hl 4 rfl) ?_
  refine lv_iload hx hb dX1_changeOf_22 (lv_at hl 0 rfl) ?_
  refine lv_iadd hx hb dX1_changeOf_24 ?_
  obtain ⟨x5_5, e_, hf⟩ := mb_let_s hf
  refine mb_topi e_ ?_
  clear e_
  refine lv_istore (lv' := [(5, .int x5_5), (4, .int x4_4), (0, .ref (b0 0)), (1, .int x1), (2, .int x2), (3, .int x3)]) hx hb dX1_changeOf_25 hl (by decide) rfl (fun ls hl => ?_)
  refine lv_iload hx hb dX1_changeOf_27 (lv_at hl 0 rfl) ?_
  refine lv_iload_n hx hb dX1_changeOf_29 rfl (lv_at hl 4 rfl) ?_
  refine lv_iload hx hb dX1_changeOf_30 (lv_at hl 1 rfl) ?_
  refine lv_isub hx hb dX1_changeOf_32 ?_
  obtain ⟨J48_7, eJ48_7, hf⟩ := mb_jn_s hf
  have j48_8 : ∀ (y_6 : Int32) (H : Heap) (locs : List Loc) (ls : Array Slot), J48_7 y_6 = some z → va_P D vwCl (wC_Folk k b0 P0) H → va_D A (wC_Folk k b0 P0) → va_S A s.heap H locs → lv_has ls 7 [(4, .int x4_4)] → W p l e rm_Folk_changeOf s m args below meth c H locs 0 0 Q (F0 m 48 ls [.int y_6]) := by
    intro y_6 H locs ls hf hP hD hS hl
    have hf := mb_j1 eJ48_7 hf
    obtain ⟨x6_9, e_, hf⟩ := mb_let_s hf
    refine mb_topi e_ ?_
    clear e_
    refine lv_istore (lv' := [(6, .int x6_9), (4, .int x4_4)]) hx hb dX1_changeOf_48 hl (by decide) rfl (fun ls hl => ?_)
    refine lv_iload hx hb dX1_changeOf_50 (lv_at hl 1 rfl) ?_
    refine lv_iload hx hb dX1_changeOf_52 (lv_at hl 0 rfl) ?_
    refine lv_isub hx hb dX1_changeOf_54 ?_
    have hz := Option.some.inj hf
    subst hz
    exact hret _ _ _ _ dX1_changeOf_55 hP hD hS
  refine lv_icmp_ge (tgt := 47) hx hb dX1_changeOf_33 (by decide) (fun c_11 => ?_) (fun c_11 => ?_)
  · have hf := mb_if_t c_11 hf
    refine lv_iconst (v := 0) hx hb dX1_changeOf_47 (by decide) ?_
    exact j48_8 (0 : Int32) _ _ _ hf hP hD hS (lv_sub hl [1] rfl)
  · have hf := mb_if_f c_11 hf
    refine lv_iload hx hb dX1_changeOf_36 (lv_at hl 0 rfl) ?_
    refine lv_iconst (v := 5) hx hb dX1_changeOf_38 (by decide) ?_
    refine lv_imul hx hb dX1_changeOf_39 ?_
    refine lv_sipush (v := 1000) hx hb dX1_changeOf_40 (by decide) ?_
    obtain ⟨h_10, hf⟩ := mb_dvi_s hf
    refine lv_idiv hx hb dX1_changeOf_43 h_10 ?_
    refine lv_goto (tgt := 48) hx hb dX1_changeOf_44 (by decide) ?_
    exact j48_8 ((x5_5 * (5 : Int32)) / (1000 : Int32)) _ _ _ hf hP hD hS (lv_sub hl [1] rfl)
def f_Folk_passSeason_2_b (self_6 : Int32 → PI → Option (PI)) (x1_4 : Int32) (P0_5 : PI) : Option (PI) := (if (6 : Int32) ≤ x1_4 then some P0_5 else mb_chk x1_4 6 (mb_chk x1_4 6 (mb_bd1 (f_Folk_changeOf P0_5 x1_4 (P0_5 1 x1_4.toNatClampNeg) (P0_5 2 x1_4.toNatClampNeg)) (fun (r_9 : Int32) => mb_let r_9 (fun (x2_10 : Int32) => mb_chk x1_4 6 (mb_chk x1_4 6 (mb_let (mb_u2 P0_5 1 x1_4.toNatClampNeg ((P0_5 1 x1_4.toNatClampNeg) - x2_10)) (fun (P0_12 : PI) => mb_chk x1_4 6 (mb_chk x1_4 6 (mb_let (mb_u2 P0_12 2 x1_4.toNatClampNeg ((P0_12 2 x1_4.toNatClampNeg) + x2_10)) (fun (P0_15 : PI) => mb_let (x1_4 + (1 : Int32)) (fun (x1_17 : Int32) => self_6 x1_17 P0_15))))))))))))
def f_Folk_passSeason_2 : Nat → Int32 → PI → Option (PI)
  | 0, _, _ => none
  | n + 1, x1_4, P0_5 => f_Folk_passSeason_2_b  (f_Folk_passSeason_2  n) x1_4 P0_5
def f_Folk_passSeason (P0 : PI) : Option (PI) := mb_let (0 : Int32) (fun (x1_1 : Int32) => f_Folk_passSeason_2  mb_fu x1_1 P0)
def rm_Folk_passSeason : Room := { frames := 1, cells := 0, slots := 0, locals := 26 }
set_option maxHeartbeats 4000000 in
set_option maxRecDepth 100000 in
theorem c_Folk_passSeason (l : Launch) (D : va_G) (k : Nat → ClassId) (sz : Nat) (b0 : Nat → Nat) (P0 : PI) (z : PI) (hf : f_Folk_passSeason P0 = some z) : Met l yX1_passSeason wsX1_passSeason rm_Folk_passSeason (va_Pc [.ref (b0 0)] (gw_pre D vwCl (tyL k) (wC_Folk k b0 P0) sz)) (va_Qv (fun (_ : Unit) => True) (gw_b D vwCl (tyL k) (va_A (wC_Folk k b0 P0) sz) (wC_Folk k b0 z)) (va_A (wC_Folk k b0 P0) sz)) 0 0 (va_A (wC_Folk k b0 P0) sz) := by
  refine gm_v (cc := cX1_passSeason) (maxL := 3) (by decide) rfl (Nat.le_of_ble_eq_true rfl) ?_
  intro p e s m args below meth c A Q ls H locs hx hb hml hown hts hK hN hA hP hD hS hl hret
  have hown : s.vm.findClass RX1 = some m.cls := hown
  have hl : lv_has ls 3 [(0, .ref (b0 0))] := hl
  have iw_Folk : ∀ w ∈ u_ws RX1 TX1 4, w ∈ wsX1_passSeason := by decide +kernel
  have fl_9 := hts (.fieldLink RX1 9 "OneMeasure$Folk" "oldUsers" "[I") (by decide +kernel)
  have fl_15 := hts (.fieldLink RX1 15 "OneMeasure$Folk" "newUsers" "[I") (by decide +kernel)
  unfold f_Folk_passSeason at hf
  refine lv_iconst (v := 0) hx hb dX1_passSeason_0 (by decide) ?_
  obtain ⟨x1_1, e_, hf⟩ := mb_let_s hf
  refine mb_topi e_ ?_
  clear e_
  refine lv_istore_n (lv' := [(1, .int x1_1), (0, .ref (b0 0))]) hx hb dX1_passSeason_1 rfl hl (by decide) rfl (fun ls hl => ?_)
  have lp2_2 : ∀ (n : Nat) (x1_4 : Int32) (P0_5 : PI) (H : Heap) (locs : List Loc) (ls : Array Slot), f_Folk_passSeason_2  n x1_4 P0_5 = some z → va_P D vwCl (wC_Folk k b0 P0_5) H → va_D A (wC_Folk k b0 P0_5) → va_S A s.heap H locs → lv_has ls 3 [(0, .ref (b0 0)), (1, .int x1_4)] → W p l e rm_Folk_passSeason s m args below meth c H locs 0 0 Q (F0 m 2 ls []) := by
    intro n
    induction n with
    | zero =>
      intro x1_4 P0_5 H locs ls hf
      exact nomatch (show (none : Option (PI)) = some z from hf)
    | succ n ih_3 =>
      intro x1_4 P0_5 H locs ls hf hP hD hS hl
      have hf : f_Folk_passSeason_2_b  (f_Folk_passSeason_2  n) x1_4 P0_5 = some z := hf
      unfold f_Folk_passSeason_2_b at hf
      refine lv_iload_n hx hb dX1_passSeason_2 rfl (lv_at hl 1 rfl) ?_
      refine lv_bipush (v := 6) hx hb dX1_passSeason_3 (by decide) ?_
      refine lv_icmp_ge (tgt := 52) hx hb dX1_passSeason_5 (by decide) (fun c_18 => ?_) (fun c_18 => ?_)
      · have hf := mb_if_t c_18 hf
        have hz := Option.some.inj hf
        subst hz
        exact hret _ _ _ _ dX1_passSeason_52 hP hD hS
      · have hf := mb_if_f c_18 hf
        refine lv_aload_n hx hb dX1_passSeason_8 rfl (lv_at hl 0 rfl) ?_
        refine lv_iload_n hx hb dX1_passSeason_9 rfl (lv_at hl 1 rfl) ?_
        refine lv_aload_n hx hb dX1_passSeason_10 rfl (lv_at hl 0 rfl) ?_
        refine va_get (D := D) (ci := 1) (v := .ref (b0 1)) (C := RX1) (T := TX1) (N := 4) hx hb hts iw_Folk hown hK hP 0 rfl rfl 0 (by decide) fl_9 (fun _ h9 => h9) rfl dX1_passSeason_11 ?_
        refine lv_iload_n hx hb dX1_passSeason_14 rfl (lv_at hl 1 rfl) ?_
        obtain ⟨h_7, hf⟩ := mb_chk_s hf
        refine va_iald hx hb hK hP 1 0 rfl rfl h_7 dX1_passSeason_15 ?_
        refine lv_aload_n hx hb dX1_passSeason_16 rfl (lv_at hl 0 rfl) ?_
        refine va_get (D := D) (ci := 1) (v := .ref (b0 2)) (C := RX1) (T := TX1) (N := 4) hx hb hts iw_Folk hown hK hP 0 rfl rfl 1 (by decide) fl_15 (fun _ h9 => h9) rfl dX1_passSeason_17 ?_
        refine lv_iload_n hx hb dX1_passSeason_20 rfl (lv_at hl 1 rfl) ?_
        obtain ⟨h_8, hf⟩ := mb_chk_s hf
        refine va_iald hx hb hK hP 2 0 rfl rfl h_8 dX1_passSeason_21 ?_
        obtain ⟨r_9, hz, hf⟩ := mb_bd1_s hf
        refine gc_i (r0 := r_9) (ws' := (wC_Folk k b0 P0_5)) (wr := ([] : va_W)) (va_runV (As := [.int x1_4, .int (P0_5 1 x1_4.toNatClampNeg), .int (P0_5 2 x1_4.toNatClampNeg)]) (rest := []) ⟨hx, hb, hml, hown, hts⟩ (c_Folk_changeOf l D k H.size b0 P0_5 x1_4 (P0_5 1 x1_4.toNatClampNeg) (P0_5 2 x1_4.toNatClampNeg) r_9 hz) (cwV 3 hts gX1_passSeason_X1_changeOf rfl rfl rfl (by decide +kernel) ⟨Nat.le_of_ble_eq_true rfl, Nat.le_of_ble_eq_true rfl⟩) (gp_V (ci := 1) (q0 := 0) (q := (RX1, TX1, 4)) hP hD hK hN [0, 1, 2, 3, 4] (by decide +kernel) rfl rfl rfl) rfl rfl hl.1 rfl (lv_room (Nat.le_of_ble_eq_true rfl)) dX1_passSeason_22 ⟨Nat.zero_le _, Nat.zero_le _⟩) hP hD hS hA [0, 1, 2, 3, 4] [] rfl rfl (by decide +kernel) (by decide +kernel) [0, 1, 2, 3, 4] (by decide +kernel) rfl (fun H locs hP hD hS => ?_)
        clear hz
        obtain ⟨x2_10, e_, hf⟩ := mb_let_s hf
        refine mb_topi e_ ?_
        clear e_
        refine lv_istore_n (lv' := [(2, .int x2_10), (0, .ref (b0 0)), (1, .int x1_4)]) hx hb dX1_passSeason_25 rfl hl (by decide) rfl (fun ls hl => ?_)
        refine lv_aload_n hx hb dX1_passSeason_26 rfl (lv_at hl 1 rfl) ?_
        refine va_get (D := D) (ci := 1) (v := .ref (b0 1)) (C := RX1) (T := TX1) (N := 4) hx hb hts iw_Folk hown hK hP 0 rfl rfl 0 (by decide) fl_9 (fun _ h9 => h9) rfl dX1_passSeason_27 ?_
        refine lv_iload_n hx hb dX1_passSeason_30 rfl (lv_at hl 2 rfl) ?_
        refine lv_dup2_11 hx hb dX1_passSeason_31 rfl rfl ?_
        obtain ⟨h_11, hf⟩ := mb_chk_s hf
        refine va_iald hx hb hK hP 1 0 rfl rfl h_11 dX1_passSeason_32 ?_
        refine lv_iload_n hx hb dX1_passSeason_33 rfl (lv_at hl 0 rfl) ?_
        refine lv_isub hx hb dX1_passSeason_34 ?_
        obtain ⟨h_13, hf⟩ := mb_chk_s hf
        obtain ⟨P0_12, e_, hf⟩ := mb_let_s hf
        refine va_iast hx hb hK hP hD hS 1 0 rfl rfl h_13 dX1_passSeason_35 (fun H locs hP hD hS => ?_)
        have hP : va_P D vwCl (wC_Folk k b0 P0_12) H := by rw [e_]; exact hP
        have hD : va_D A (wC_Folk k b0 P0_12) := by rw [e_]; exact hD
        clear e_
        refine lv_aload_n hx hb dX1_passSeason_36 rfl (lv_at hl 1 rfl) ?_
        refine va_get (D := D) (ci := 1) (v := .ref (b0 2)) (C := RX1) (T := TX1) (N := 4) hx hb hts iw_Folk hown hK hP 0 rfl rfl 1 (by decide) fl_15 (fun _ h9 => h9) rfl dX1_passSeason_37 ?_
        refine lv_iload_n hx hb dX1_passSeason_40 rfl (lv_at hl 2 rfl) ?_
        refine lv_dup2_11 hx hb dX1_passSeason_41 rfl rfl ?_
        obtain ⟨h_14, hf⟩ := mb_chk_s hf
        refine va_iald hx hb hK hP 2 0 rfl rfl h_14 dX1_passSeason_42 ?_
        refine lv_iload_n hx hb dX1_passSeason_43 rfl (lv_at hl 0 rfl) ?_
        refine lv_iadd hx hb dX1_passSeason_44 ?_
        obtain ⟨h_16, hf⟩ := mb_chk_s hf
        obtain ⟨P0_15, e_, hf⟩ := mb_let_s hf
        refine va_iast hx hb hK hP hD hS 2 0 rfl rfl h_16 dX1_passSeason_45 (fun H locs hP hD hS => ?_)
        have hP : va_P D vwCl (wC_Folk k b0 P0_15) H := by rw [e_]; exact hP
        have hD : va_D A (wC_Folk k b0 P0_15) := by rw [e_]; exact hD
        clear e_
        obtain ⟨x1_17, e_, hf⟩ := mb_let_s hf
        refine lv_iinc (v := x1_17) (lv' := [(1, .int x1_17), (2, .int x2_10), (0, .ref (b0 0))]) hx hb dX1_passSeason_46 hl (k := 2) rfl (by rw [e_]; rfl) (by decide) rfl (fun ls hl => ?_)
        clear e_
        refine lv_goto (tgt := 2) hx hb dX1_passSeason_49 (by decide) ?_
        exact ih_3 x1_17 P0_15 _ _ _ hf hP hD hS (lv_sub hl [2, 0] rfl)
  exact lp2_2 mb_fu x1_1 P0 _ _ _ hf hP hD hS (lv_sub hl [1, 0] rfl)
def f_Folk_allNew_4_b (P0 : PI) (self_7 : Int32 → Int32 → Option (Int32)) (x1_5 : Int32) (x2_6 : Int32) : Option (Int32) := (if (6 : Int32) ≤ x2_6 then some x1_5 else mb_chk x2_6 6 (mb_let (x1_5 + (P0 2 x2_6.toNatClampNeg)) (fun (x1_9 : Int32) => mb_let (x2_6 + (1 : Int32)) (fun (x2_10 : Int32) => self_7 x1_9 x2_10))))
def f_Folk_allNew_4 (P0 : PI) : Nat → Int32 → Int32 → Option (Int32)
  | 0, _, _ => none
  | n + 1, x1_5, x2_6 => f_Folk_allNew_4_b P0 (f_Folk_allNew_4 P0 n) x1_5 x2_6
def f_Folk_allNew (P0 : PI) : Option (Int32) := mb_let (0 : Int32) (fun (x1_1 : Int32) => mb_let (0 : Int32) (fun (x2_2 : Int32) => f_Folk_allNew_4 P0 mb_fu x1_1 x2_2))
def rm_Folk_allNew : Room := { frames := 0, cells := 0, slots := 0, locals := 0 }
set_option maxHeartbeats 4000000 in
set_option maxRecDepth 100000 in
theorem c_Folk_allNew (l : Launch) (D : va_G) (k : Nat → ClassId) (sz : Nat) (b0 : Nat → Nat) (P0 : PI) (z : Int32) (hf : f_Folk_allNew P0 = some z) : Met l yX1_allNew wsX1_allNew rm_Folk_allNew (va_Pc [.ref (b0 0)] (gw_pre D vwCl (tyL k) (wC_Folk k b0 P0) sz)) (va_Qi (fun (r : Int32) (_ : Unit) => r = z) (gw_b D vwCl (tyL k) (va_A (wC_Folk k b0 P0) sz) (wC_Folk k b0 P0)) (va_A (wC_Folk k b0 P0) sz)) 0 0 (va_A (wC_Folk k b0 P0) sz) := by
  refine gm_i (cc := cX1_allNew) (maxL := 3) (by decide) rfl (Nat.le_of_ble_eq_true rfl) ?_
  intro p e s m args below meth c A Q ls H locs hx hb hml hown hts hK hN hA hP hD hS hl hret
  have hown : s.vm.findClass RX1 = some m.cls := hown
  have hl : lv_has ls 3 [(0, .ref (b0 0))] := hl
  have iw_Folk : ∀ w ∈ u_ws RX1 TX1 4, w ∈ wsX1_allNew := by decide +kernel
  have fl_15 := hts (.fieldLink RX1 15 "OneMeasure$Folk" "newUsers" "[I") (by decide +kernel)
  unfold f_Folk_allNew at hf
  refine lv_iconst (v := 0) hx hb dX1_allNew_0 (by decide) ?_
  obtain ⟨x1_1, e_, hf⟩ := mb_let_s hf
  refine mb_topi e_ ?_
  clear e_
  refine lv_istore_n (lv' := [(1, .int x1_1), (0, .ref (b0 0))]) hx hb dX1_allNew_1 rfl hl (by decide) rfl (fun ls hl => ?_)
  refine lv_iconst (v := 0) hx hb dX1_allNew_2 (by decide) ?_
  obtain ⟨x2_2, e_, hf⟩ := mb_let_s hf
  refine mb_topi e_ ?_
  clear e_
  refine lv_istore_n (lv' := [(2, .int x2_2), (1, .int x1_1), (0, .ref (b0 0))]) hx hb dX1_allNew_3 rfl hl (by decide) rfl (fun ls hl => ?_)
  have lp4_3 : ∀ (n : Nat) (x1_5 : Int32) (x2_6 : Int32) (H : Heap) (locs : List Loc) (ls : Array Slot), f_Folk_allNew_4 P0 n x1_5 x2_6 = some z → va_P D vwCl (wC_Folk k b0 P0) H → va_D A (wC_Folk k b0 P0) → va_S A s.heap H locs → lv_has ls 3 [(0, .ref (b0 0)), (1, .int x1_5), (2, .int x2_6)] → W p l e rm_Folk_allNew s m args below meth c H locs 0 0 Q (F0 m 4 ls []) := by
    intro n
    induction n with
    | zero =>
      intro x1_5 x2_6 H locs ls hf
      exact nomatch (show (none : Option (Int32)) = some z from hf)
    | succ n ih_4 =>
      intro x1_5 x2_6 H locs ls hf hP hD hS hl
      have hf : f_Folk_allNew_4_b P0 (f_Folk_allNew_4 P0 n) x1_5 x2_6 = some z := hf
      unfold f_Folk_allNew_4_b at hf
      refine lv_iload_n hx hb dX1_allNew_4 rfl (lv_at hl 2 rfl) ?_
      refine lv_bipush (v := 6) hx hb dX1_allNew_5 (by decide) ?_
      refine lv_icmp_ge (tgt := 25) hx hb dX1_allNew_7 (by decide) (fun c_11 => ?_) (fun c_11 => ?_)
      · have hf := mb_if_t c_11 hf
        refine lv_iload_n hx hb dX1_allNew_25 rfl (lv_at hl 1 rfl) ?_
        have hz := Option.some.inj hf
        subst hz
        exact hret _ _ _ _ dX1_allNew_26 hP hD hS
      · have hf := mb_if_f c_11 hf
        refine lv_iload_n hx hb dX1_allNew_10 rfl (lv_at hl 1 rfl) ?_
        refine lv_aload_n hx hb dX1_allNew_11 rfl (lv_at hl 0 rfl) ?_
        refine va_get (D := D) (ci := 1) (v := .ref (b0 2)) (C := RX1) (T := TX1) (N := 4) hx hb hts iw_Folk hown hK hP 0 rfl rfl 1 (by decide) fl_15 (fun _ h9 => h9) rfl dX1_allNew_12 ?_
        refine lv_iload_n hx hb dX1_allNew_15 rfl (lv_at hl 2 rfl) ?_
        obtain ⟨h_8, hf⟩ := mb_chk_s hf
        refine va_iald hx hb hK hP 2 0 rfl rfl h_8 dX1_allNew_16 ?_
        refine lv_iadd hx hb dX1_allNew_17 ?_
        obtain ⟨x1_9, e_, hf⟩ := mb_let_s hf
        refine mb_topi e_ ?_
        clear e_
        refine lv_istore_n (lv' := [(1, .int x1_9), (0, .ref (b0 0)), (2, .int x2_6)]) hx hb dX1_allNew_18 rfl hl (by decide) rfl (fun ls hl => ?_)
        obtain ⟨x2_10, e_, hf⟩ := mb_let_s hf
        refine lv_iinc (v := x2_10) (lv' := [(2, .int x2_10), (1, .int x1_9), (0, .ref (b0 0))]) hx hb dX1_allNew_19 hl (k := 2) rfl (by rw [e_]; rfl) (by decide) rfl (fun ls hl => ?_)
        clear e_
        refine lv_goto (tgt := 4) hx hb dX1_allNew_22 (by decide) ?_
        exact ih_4 x1_9 x2_10 _ _ _ hf hP hD hS (lv_sub hl [2, 1, 0] rfl)
  exact lp4_3 mb_fu x1_1 x2_2 _ _ _ hf hP hD hS (lv_sub hl [2, 1, 0] rfl)
def f_One_seasons_14_b (x1 : Int32) (K32_4 : PI → Option (Int32 × PI)) (self_11 : Int32 → PI → Option (Int32 × PI)) (x2_9 : Int32) (P1_10 : PI) : Option (Int32 × PI) := (if x1 ≤ x2_9 then K32_4 P1_10 else mb_bd1 (f_Folk_passSeason P1_10) (fun (P1_12 : PI) => mb_let (x2_9 + (1 : Int32)) (fun (x2_13 : Int32) => self_11 x2_13 P1_12)))
def f_One_seasons_14 (x1 : Int32) (K32_4 : PI → Option (Int32 × PI)) : Nat → Int32 → PI → Option (Int32 × PI)
  | 0, _, _ => none
  | n + 1, x2_9, P1_10 => f_One_seasons_14_b x1 K32_4 (f_One_seasons_14 x1 K32_4 n) x2_9 P1_10
def f_One_seasons (P1 : PI) (x1 : Int32) : Option (Int32 × PI) := mb_bd1 (f_One_within x1 (1 : Int32) (100 : Int32)) (fun (r_1 : Int32) => (if r_1 = 0 then some ((-1 : Int32), P1) else mb_let (0 : Int32) (fun (x2_2 : Int32) => mb_jn (fun (P1_3 : PI) => mb_bd1 (f_Folk_allNew P1_3) (fun (r_6 : Int32) => some (r_6, P1_3))) (fun K32_4 => f_One_seasons_14 x1 K32_4 mb_fu x2_2 P1))))
def rm_One_seasons : Room := { frames := 2, cells := 0, slots := 0, locals := 48 }
set_option maxHeartbeats 4000000 in
set_option maxRecDepth 100000 in
theorem c_One_seasons (l : Launch) (D : va_G) (k : Nat → ClassId) (sz : Nat) (a0 : Nat → Nat → Nat) (P0 : PI) (P1 : PI) (x1 : Int32) (z : Int32 × PI) (hf : f_One_seasons P1 x1 = some z) : Met l yX11_seasons wsX11_seasons rm_One_seasons (va_Pc [.ref (a0 0 0), .int x1] (gw_pre D vwCl (tyL k) (wC_One k a0 P0 ++ (wC_Folk k (a0 11) P1)) sz)) (va_Qi (fun (r : Int32) (_ : Unit) => r = z.1) (gw_b D vwCl (tyL k) (va_A (wC_One k a0 P0 ++ (wC_Folk k (a0 11) P1)) sz) (wC_One k a0 P0 ++ (wC_Folk k (a0 11) z.2))) (va_A (wC_One k a0 P0 ++ (wC_Folk k (a0 11) P1)) sz)) 0 0 (va_A (wC_One k a0 P0 ++ (wC_Folk k (a0 11) P1)) sz) := by
  refine gm_i (cc := cX11_seasons) (maxL := 3) (by decide) rfl (Nat.le_of_ble_eq_true rfl) ?_
  intro p e s m args below meth c A Q ls H locs hx hb hml hown hts hK hN hA hP hD hS hl hret
  have hown : s.vm.findClass RX11 = some m.cls := hown
  have hl : lv_has ls 3 [(0, .ref (a0 0 0)), (1, .int x1)] := hl
  have iw_One : ∀ w ∈ u_ws RX11 TX11 16, w ∈ wsX11_seasons := by decide +kernel
  have fl_82 := hts (.fieldLink RX11 82 "OneMeasure" "folk" "LOneMeasure$Folk;") (by decide +kernel)
  unfold f_One_seasons at hf
  refine lv_iload_n hx hb dX11_seasons_0 rfl (lv_at hl 1 rfl) ?_
  refine lv_iconst (v := 1) hx hb dX11_seasons_1 (by decide) ?_
  refine lv_bipush (v := 100) hx hb dX11_seasons_2 (by decide) ?_
  obtain ⟨r_1, hz, hf⟩ := mb_bd1_s hf
  refine gc_i (r0 := r_1) (ws' := (wC_One k a0 P0 ++ (wC_Folk k (a0 11) P1))) (wr := (wC_One k a0 P0 ++ (wC_Folk k (a0 11) P1))) (va_runS (As := [.int x1, .int (1 : Int32), .int (100 : Int32)]) (rest := []) ⟨hx, hb, hml, hown, hts⟩ (c_One_within l D k H.size x1 (1 : Int32) (100 : Int32) r_1 hz) (cwS 3 hts gX11_seasons_X11_within rfl rfl rfl (by decide +kernel) ⟨Nat.le_of_ble_eq_true rfl, Nat.le_of_ble_eq_true rfl⟩) (gp_S hP hD hK hN [] (by decide +kernel) rfl) rfl rfl hl.1 rfl (lv_room (Nat.le_of_ble_eq_true rfl)) dX11_seasons_4 ⟨Nat.zero_le _, Nat.zero_le _⟩) hP hD hS hA [] [0, 1, 2, 3, 4, 5, 6, 7, 8] rfl rfl (by decide +kernel) (by decide +kernel) [0, 1, 2, 3, 4, 5, 6, 7, 8] (by decide +kernel) rfl (fun H locs hP hD hS => ?_)
  clear hz
  refine lv_if_ne (tgt := 12) hx hb dX11_seasons_7 (by decide) (fun c_15 => ?_) (fun c_15 => ?_)
  · have hf := mb_if_f c_15 hf
    refine lv_iconst (v := 0) hx hb dX11_seasons_12 (by decide) ?_
    obtain ⟨x2_2, e_, hf⟩ := mb_let_s hf
    refine mb_topi e_ ?_
    clear e_
    refine lv_istore_n (lv' := [(2, .int x2_2), (0, .ref (a0 0 0)), (1, .int x1)]) hx hb dX11_seasons_13 rfl hl (by decide) rfl (fun ls hl => ?_)
    obtain ⟨K32_4, eK32_4, hf⟩ := mb_jn_s hf
    have k32_5 : ∀ (P1_3 : PI) (H : Heap) (locs : List Loc) (ls : Array Slot), K32_4 P1_3 = some z → va_P D vwCl (wC_One k a0 P0 ++ (wC_Folk k (a0 11) P1_3)) H → va_D A (wC_One k a0 P0 ++ (wC_Folk k (a0 11) P1_3)) → va_S A s.heap H locs → lv_has ls 3 [(0, .ref (a0 0 0))] → W p l e rm_One_seasons s m args below meth c H locs 0 0 Q (F0 m 32 ls []) := by
      intro P1_3 H locs ls hf hP hD hS hl
      have hf := mb_j1 eK32_4 hf
      refine lv_aload_n hx hb dX11_seasons_32 rfl (lv_at hl 0 rfl) ?_
      refine va_get (D := D) (ci := 11) (v := .ref (a0 11 0)) (C := RX11) (T := TX11) (N := 16) hx hb hts iw_One hown hK hP 0 rfl rfl 10 (by decide) fl_82 (fun _ h9 => h9) rfl dX11_seasons_33 ?_
      obtain ⟨r_6, hz, hf⟩ := mb_bd1_s hf
      refine gc_i (r0 := r_6) (ws' := (wC_One k a0 P0 ++ (wC_Folk k (a0 11) P1_3))) (wr := (wC_One k a0 P0)) (va_runV (As := []) (rest := []) ⟨hx, hb, hml, hown, hts⟩ (c_Folk_allNew l D k H.size (a0 11) P1_3 r_6 hz) (cwV 0 hts gX11_seasons_X1_allNew rfl rfl rfl (by decide +kernel) ⟨Nat.le_of_ble_eq_true rfl, Nat.le_of_ble_eq_true rfl⟩) (gp_V (ci := 1) (q0 := 0) (q := (RX1, TX1, 4)) hP hD hK hN [4, 5, 6, 7, 8] (by decide +kernel) rfl rfl rfl) rfl rfl hl.1 rfl (lv_room (Nat.le_of_ble_eq_true rfl)) dX11_seasons_36 ⟨Nat.zero_le _, Nat.zero_le _⟩) hP hD hS hA [4, 5, 6, 7, 8] [0, 1, 2, 3] rfl rfl (by decide +kernel) (by decide +kernel) [0, 1, 2, 3, 4, 5, 6, 7, 8] (by decide +kernel) rfl (fun H locs hP hD hS => ?_)
      clear hz
      have hz := Option.some.inj hf
      subst hz
      exact hret _ _ _ _ dX11_seasons_39 hP hD hS
    have lp14_7 : ∀ (n : Nat) (x2_9 : Int32) (P1_10 : PI) (H : Heap) (locs : List Loc) (ls : Array Slot), f_One_seasons_14 x1 K32_4 n x2_9 P1_10 = some z → va_P D vwCl (wC_One k a0 P0 ++ (wC_Folk k (a0 11) P1_10)) H → va_D A (wC_One k a0 P0 ++ (wC_Folk k (a0 11) P1_10)) → va_S A s.heap H locs → lv_has ls 3 [(0, .ref (a0 0 0)), (1, .int x1), (2, .int x2_9)] → W p l e rm_One_seasons s m args below meth c H locs 0 0 Q (F0 m 14 ls []) := by
      intro n
      induction n with
      | zero =>
        intro x2_9 P1_10 H locs ls hf
        exact nomatch (show (none : Option (Int32 × PI)) = some z from hf)
      | succ n ih_8 =>
        intro x2_9 P1_10 H locs ls hf hP hD hS hl
        have hf : f_One_seasons_14_b x1 K32_4 (f_One_seasons_14 x1 K32_4 n) x2_9 P1_10 = some z := hf
        unfold f_One_seasons_14_b at hf
        refine lv_iload_n hx hb dX11_seasons_14 rfl (lv_at hl 2 rfl) ?_
        refine lv_iload_n hx hb dX11_seasons_15 rfl (lv_at hl 1 rfl) ?_
        refine lv_icmp_ge (tgt := 32) hx hb dX11_seasons_16 (by decide) (fun c_14 => ?_) (fun c_14 => ?_)
        · have hf := mb_if_t c_14 hf
          exact k32_5 P1_10 _ _ _ hf hP hD hS (lv_sub hl [0] rfl)
        · have hf := mb_if_f c_14 hf
          refine lv_aload_n hx hb dX11_seasons_19 rfl (lv_at hl 0 rfl) ?_
          refine va_get (D := D) (ci := 11) (v := .ref (a0 11 0)) (C := RX11) (T := TX11) (N := 16) hx hb hts iw_One hown hK hP 0 rfl rfl 10 (by decide) fl_82 (fun _ h9 => h9) rfl dX11_seasons_20 ?_
          obtain ⟨P1_12, hz, hf⟩ := mb_bd1_s hf
          refine gc_v (ws' := (wC_One k a0 P0 ++ (wC_Folk k (a0 11) P1_12))) (wr := (wC_One k a0 P0)) (va_runV (As := []) (rest := []) ⟨hx, hb, hml, hown, hts⟩ (c_Folk_passSeason l D k H.size (a0 11) P1_10 P1_12 hz) (cwV 0 hts gX11_seasons_X1_passSeason rfl rfl rfl (by decide +kernel) ⟨Nat.le_of_ble_eq_true rfl, Nat.le_of_ble_eq_true rfl⟩) (gp_V (ci := 1) (q0 := 0) (q := (RX1, TX1, 4)) hP hD hK hN [4, 5, 6, 7, 8] (by decide +kernel) rfl rfl rfl) rfl rfl hl.1 rfl (lv_room (Nat.le_of_ble_eq_true rfl)) dX11_seasons_23 ⟨Nat.zero_le _, Nat.zero_le _⟩) hP hD hS hA [4, 5, 6, 7, 8] [0, 1, 2, 3] rfl rfl (by decide +kernel) (by decide +kernel) [0, 1, 2, 3, 4, 5, 6, 7, 8] (by decide +kernel) rfl (fun H locs hP hD hS => ?_)
          clear hz
          obtain ⟨x2_13, e_, hf⟩ := mb_let_s hf
          refine lv_iinc (v := x2_13) (lv' := [(2, .int x2_13), (0, .ref (a0 0 0)), (1, .int x1)]) hx hb dX11_seasons_26 hl (k := 2) rfl (by rw [e_]; rfl) (by decide) rfl (fun ls hl => ?_)
          clear e_
          refine lv_goto (tgt := 14) hx hb dX11_seasons_29 (by decide) ?_
          exact ih_8 x2_13 P1_12 _ _ _ hf hP hD hS (lv_sub hl [1, 2, 0] rfl)
    exact lp14_7 mb_fu x2_2 P1 _ _ _ hf hP hD hS (lv_sub hl [1, 2, 0] rfl)
  · have hf := mb_if_t c_15 hf
    refine lv_iconst (v := (-1)) hx hb dX11_seasons_10 (by decide) ?_
    have hz := Option.some.inj hf
    subst hz
    exact hret _ _ _ _ dX11_seasons_11 hP hD hS
def f_Folk_seasonsTillHalf_17_b (P0 : PI) (x1 : Int32) (self_11 : Int32 → Int32 → Int32 → Option (Int32)) (x2_8 : Int32) (x3_9 : Int32) (x4_10 : Int32) : Option (Int32) := (if (400 : Int32) < x4_10 then some (-4 : Int32) else (if x3_9 < x2_8 then mb_bd1 (f_Folk_changeOf P0 x1 x2_8 x3_9) (fun (r_12 : Int32) => mb_let r_12 (fun (x5_13 : Int32) => mb_let (x2_8 - x5_13) (fun (x2_14 : Int32) => mb_let (x3_9 + x5_13) (fun (x3_15 : Int32) => mb_let (x4_10 + (1 : Int32)) (fun (x4_16 : Int32) => self_11 x2_14 x3_15 x4_16))))) else some x4_10))
def f_Folk_seasonsTillHalf_17 (P0 : PI) (x1 : Int32) : Nat → Int32 → Int32 → Int32 → Option (Int32)
  | 0, _, _, _ => none
  | n + 1, x2_8, x3_9, x4_10 => f_Folk_seasonsTillHalf_17_b P0 x1 (f_Folk_seasonsTillHalf_17 P0 x1 n) x2_8 x3_9 x4_10
def f_Folk_seasonsTillHalf (P0 : PI) (x1 : Int32) : Option (Int32) := mb_chk x1 6 (mb_let (P0 1 x1.toNatClampNeg) (fun (x2_2 : Int32) => mb_chk x1 6 (mb_let (P0 2 x1.toNatClampNeg) (fun (x3_4 : Int32) => mb_let (0 : Int32) (fun (x4_5 : Int32) => f_Folk_seasonsTillHalf_17 P0 x1 mb_fu x2_2 x3_4 x4_5)))))
def rm_Folk_seasonsTillHalf : Room := { frames := 1, cells := 0, slots := 0, locals := 26 }
set_option maxHeartbeats 4000000 in
set_option maxRecDepth 100000 in
theorem c_Folk_seasonsTillHalf (l : Launch) (D : va_G) (k : Nat → ClassId) (sz : Nat) (b0 : Nat → Nat) (P0 : PI) (x1 : Int32) (z : Int32) (hf : f_Folk_seasonsTillHalf P0 x1 = some z) : Met l yX1_seasonsTillHalf wsX1_seasonsTillHalf rm_Folk_seasonsTillHalf (va_Pc [.ref (b0 0), .int x1] (gw_pre D vwCl (tyL k) (wC_Folk k b0 P0) sz)) (va_Qi (fun (r : Int32) (_ : Unit) => r = z) (gw_b D vwCl (tyL k) (va_A (wC_Folk k b0 P0) sz) (wC_Folk k b0 P0)) (va_A (wC_Folk k b0 P0) sz)) 0 0 (va_A (wC_Folk k b0 P0) sz) := by
  refine gm_i (cc := cX1_seasonsTillHalf) (maxL := 6) (by decide) rfl (Nat.le_of_ble_eq_true rfl) ?_
  intro p e s m args below meth c A Q ls H locs hx hb hml hown hts hK hN hA hP hD hS hl hret
  have hown : s.vm.findClass RX1 = some m.cls := hown
  have hl : lv_has ls 6 [(0, .ref (b0 0)), (1, .int x1)] := hl
  have iw_Folk : ∀ w ∈ u_ws RX1 TX1 4, w ∈ wsX1_seasonsTillHalf := by decide +kernel
  have fl_9 := hts (.fieldLink RX1 9 "OneMeasure$Folk" "oldUsers" "[I") (by decide +kernel)
  have fl_15 := hts (.fieldLink RX1 15 "OneMeasure$Folk" "newUsers" "[I") (by decide +kernel)
  unfold f_Folk_seasonsTillHalf at hf
  refine lv_aload_n hx hb dX1_seasonsTillHalf_0 rfl (lv_at hl 0 rfl) ?_
  refine va_get (D := D) (ci := 1) (v := .ref (b0 1)) (C := RX1) (T := TX1) (N := 4) hx hb hts iw_Folk hown hK hP 0 rfl rfl 0 (by decide) fl_9 (fun _ h9 => h9) rfl dX1_seasonsTillHalf_1 ?_
  refine lv_iload_n hx hb dX1_seasonsTillHalf_4 rfl (lv_at hl 1 rfl) ?_
  obtain ⟨h_1, hf⟩ := mb_chk_s hf
  refine va_iald hx hb hK hP 1 0 rfl rfl h_1 dX1_seasonsTillHalf_5 ?_
  obtain ⟨x2_2, e_, hf⟩ := mb_let_s hf
  refine mb_topi e_ ?_
  clear e_
  refine lv_istore_n (lv' := [(2, .int x2_2), (0, .ref (b0 0)), (1, .int x1)]) hx hb dX1_seasonsTillHalf_6 rfl hl (by decide) rfl (fun ls hl => ?_)
  refine lv_aload_n hx hb dX1_seasonsTillHalf_7 rfl (lv_at hl 1 rfl) ?_
  refine va_get (D := D) (ci := 1) (v := .ref (b0 2)) (C := RX1) (T := TX1) (N := 4) hx hb hts iw_Folk hown hK hP 0 rfl rfl 1 (by decide) fl_15 (fun _ h9 => h9) rfl dX1_seasonsTillHalf_8 ?_
  refine lv_iload_n hx hb dX1_seasonsTillHalf_11 rfl (lv_at hl 2 rfl) ?_
  obtain ⟨h_3, hf⟩ := mb_chk_s hf
  refine va_iald hx hb hK hP 2 0 rfl rfl h_3 dX1_seasonsTillHalf_12 ?_
  obtain ⟨x3_4, e_, hf⟩ := mb_let_s hf
  refine mb_topi e_ ?_
  clear e_
  refine lv_istore_n (lv' := [(3, .int x3_4), (2, .int x2_2), (0, .ref (b0 0)), (1, .int x1)]) hx hb dX1_seasonsTillHalf_13 rfl hl (by decide) rfl (fun ls hl => ?_)
  refine lv_iconst (v := 0) hx hb dX1_seasonsTillHalf_14 (by decide) ?_
  obtain ⟨x4_5, e_, hf⟩ := mb_let_s hf
  refine mb_topi e_ ?_
  clear e_
  refine lv_istore (lv' := [(4, .int x4_5), (3, .int x3_4), (2, .int x2_2), (0, .ref (b0 0)), (1, .int x1)]) hx hb dX1_seasonsTillHalf_15 hl (by decide) rfl (fun ls hl => ?_)
  have lp17_6 : ∀ (n : Nat) (x2_8 : Int32) (x3_9 : Int32) (x4_10 : Int32) (H : Heap) (locs : List Loc) (ls : Array Slot), f_Folk_seasonsTillHalf_17 P0 x1 n x2_8 x3_9 x4_10 = some z → va_P D vwCl (wC_Folk k b0 P0) H → va_D A (wC_Folk k b0 P0) → va_S A s.heap H locs → lv_has ls 6 [(0, .ref (b0 0)), (1, .int x1), (2, .int x2_8), (3, .int x3_9), (4, .int x4_10)] → W p l e rm_Folk_seasonsTillHalf s m args below meth c H locs 0 0 Q (F0 m 17 ls []) := by
    intro n
    induction n with
    | zero =>
      intro x2_8 x3_9 x4_10 H locs ls hf
      exact nomatch (show (none : Option (Int32)) = some z from hf)
    | succ n ih_7 =>
      intro x2_8 x3_9 x4_10 H locs ls hf hP hD hS hl
      have hf : f_Folk_seasonsTillHalf_17_b P0 x1 (f_Folk_seasonsTillHalf_17 P0 x1 n) x2_8 x3_9 x4_10 = some z := hf
      unfold f_Folk_seasonsTillHalf_17_b at hf
      refine lv_iload hx hb dX1_seasonsTillHalf_17 (lv_at hl 4 rfl) ?_
      refine lv_sipush (v := 400) hx hb dX1_seasonsTillHalf_19 (by decide) ?_
      refine lv_icmp_gt (tgt := 58) hx hb dX1_seasonsTillHalf_22 (by decide) (fun c_18 => ?_) (fun c_18 => ?_)
      · have hf := mb_if_t c_18 hf
        refine lv_bipush (v := (-4)) hx hb dX1_seasonsTillHalf_58 (by decide) ?_
        have hz := Option.some.inj hf
        subst hz
        exact hret _ _ _ _ dX1_seasonsTillHalf_60 hP hD hS
      · have hf := mb_if_f c_18 hf
        refine lv_iload_n hx hb dX1_seasonsTillHalf_25 rfl (lv_at hl 3 rfl) ?_
        refine lv_iload_n hx hb dX1_seasonsTillHalf_26 rfl (lv_at hl 2 rfl) ?_
        refine lv_icmp_lt (tgt := 33) hx hb dX1_seasonsTillHalf_27 (by decide) (fun c_17 => ?_) (fun c_17 => ?_)
        · have hf := mb_if_t c_17 hf
          refine lv_aload_n hx hb dX1_seasonsTillHalf_33 rfl (lv_at hl 0 rfl) ?_
          refine lv_iload_n hx hb dX1_seasonsTillHalf_34 rfl (lv_at hl 1 rfl) ?_
          refine lv_iload_n hx hb dX1_seasonsTillHalf_35 rfl (lv_at hl 2 rfl) ?_
          refine lv_iload_n hx hb dX1_seasonsTillHalf_36 rfl (lv_at hl 3 rfl) ?_
          obtain ⟨r_12, hz, hf⟩ := mb_bd1_s hf
          refine gc_i (r0 := r_12) (ws' := (wC_Folk k b0 P0)) (wr := ([] : va_W)) (va_runV (As := [.int x1, .int x2_8, .int x3_9]) (rest := []) ⟨hx, hb, hml, hown, hts⟩ (c_Folk_changeOf l D k H.size b0 P0 x1 x2_8 x3_9 r_12 hz) (cwV 3 hts gX1_seasonsTillHalf_X1_changeOf rfl rfl rfl (by decide +kernel) ⟨Nat.le_of_ble_eq_true rfl, Nat.le_of_ble_eq_true rfl⟩) (gp_V (ci := 1) (q0 := 0) (q := (RX1, TX1, 4)) hP hD hK hN [0, 1, 2, 3, 4] (by decide +kernel) rfl rfl rfl) rfl rfl hl.1 rfl (lv_room (Nat.le_of_ble_eq_true rfl)) dX1_seasonsTillHalf_37 ⟨Nat.zero_le _, Nat.zero_le _⟩) hP hD hS hA [0, 1, 2, 3, 4] [] rfl rfl (by decide +kernel) (by decide +kernel) [0, 1, 2, 3, 4] (by decide +kernel) rfl (fun H locs hP hD hS => ?_)
          clear hz
          obtain ⟨x5_13, e_, hf⟩ := mb_let_s hf
          refine mb_topi e_ ?_
          clear e_
          refine lv_istore (lv' := [(5, .int x5_13), (0, .ref (b0 0)), (1, .int x1), (2, .int x2_8), (3, .int x3_9), (4, .int x4_10)]) hx hb dX1_seasonsTillHalf_40 hl (by decide) rfl (fun ls hl => ?_)
          refine lv_iload_n hx hb dX1_seasonsTillHalf_42 rfl (lv_at hl 3 rfl) ?_
          refine lv_iload hx hb dX1_seasonsTillHalf_43 (lv_at hl 0 rfl) ?_
          refine lv_isub hx hb dX1_seasonsTillHalf_45 ?_
          obtain ⟨x2_14, e_, hf⟩ := mb_let_s hf
          refine mb_topi e_ ?_
          clear e_
          refine lv_istore_n (lv' := [(2, .int x2_14), (5, .int x5_13), (0, .ref (b0 0)), (1, .int x1), (3, .int x3_9), (4, .int x4_10)]) hx hb dX1_seasonsTillHalf_46 rfl hl (by decide) rfl (fun ls hl => ?_)
          refine lv_iload_n hx hb dX1_seasonsTillHalf_47 rfl (lv_at hl 4 rfl) ?_
          refine lv_iload hx hb dX1_seasonsTillHalf_48 (lv_at hl 1 rfl) ?_
          refine lv_iadd hx hb dX1_seasonsTillHalf_50 ?_
          obtain ⟨x3_15, e_, hf⟩ := mb_let_s hf
          refine mb_topi e_ ?_
          clear e_
          refine lv_istore_n (lv' := [(3, .int x3_15), (2, .int x2_14), (5, .int x5_13), (0, .ref (b0 0)), (1, .int x1), (4, .int x4_10)]) hx hb dX1_seasonsTillHalf_51 rfl hl (by decide) rfl (fun ls hl => ?_)
          obtain ⟨x4_16, e_, hf⟩ := mb_let_s hf
          refine lv_iinc (v := x4_16) (lv' := [(4, .int x4_16), (3, .int x3_15), (2, .int x2_14), (5, .int x5_13), (0, .ref (b0 0)), (1, .int x1)]) hx hb dX1_seasonsTillHalf_52 hl (k := 5) rfl (by rw [e_]; rfl) (by decide) rfl (fun ls hl => ?_)
          clear e_
          refine lv_goto (tgt := 17) hx hb dX1_seasonsTillHalf_55 (by decide) ?_
          exact ih_7 x2_14 x3_15 x4_16 _ _ _ hf hP hD hS (lv_sub hl [4, 5, 2, 1, 0] rfl)
        · have hf := mb_if_f c_17 hf
          refine lv_iload hx hb dX1_seasonsTillHalf_30 (lv_at hl 4 rfl) ?_
          have hz := Option.some.inj hf
          subst hz
          exact hret _ _ _ _ dX1_seasonsTillHalf_32 hP hD hS
  exact lp17_6 mb_fu x2_2 x3_4 x4_5 _ _ _ hf hP hD hS (lv_sub hl [3, 4, 2, 1, 0] rfl)
def f_One_uses (P1 : PI) (x1 : Int32) (x2 : Int32) : Option (Int32) := mb_bd1 (f_One_isDistrict x1) (fun (r_1 : Int32) => (if r_1 = 0 then some (-1 : Int32) else mb_bd1 (f_One_within x2 (0 : Int32) (2 : Int32)) (fun (r_2 : Int32) => (if r_2 = 0 then some (-1 : Int32) else (if x2 = 0 then mb_chk x1 6 (some (P1 1 x1.toNatClampNeg)) else (if x2 = (1 : Int32) then mb_chk x1 6 (some (P1 2 x1.toNatClampNeg)) else mb_bd1 (f_Folk_seasonsTillHalf P1 x1) (fun (r_3 : Int32) => some r_3)))))))
def rm_One_uses : Room := { frames := 2, cells := 0, slots := 0, locals := 51 }
set_option maxHeartbeats 4000000 in
set_option maxRecDepth 100000 in
theorem c_One_uses (l : Launch) (D : va_G) (k : Nat → ClassId) (sz : Nat) (a0 : Nat → Nat → Nat) (P0 : PI) (P1 : PI) (x1 : Int32) (x2 : Int32) (z : Int32) (hf : f_One_uses P1 x1 x2 = some z) : Met l yX11_uses wsX11_uses rm_One_uses (va_Pc [.ref (a0 0 0), .int x1, .int x2] (gw_pre D vwCl (tyL k) (wC_One k a0 P0 ++ (wC_Folk k (a0 11) P1)) sz)) (va_Qi (fun (r : Int32) (_ : Unit) => r = z) (gw_b D vwCl (tyL k) (va_A (wC_One k a0 P0 ++ (wC_Folk k (a0 11) P1)) sz) (wC_One k a0 P0 ++ (wC_Folk k (a0 11) P1))) (va_A (wC_One k a0 P0 ++ (wC_Folk k (a0 11) P1)) sz)) 0 0 (va_A (wC_One k a0 P0 ++ (wC_Folk k (a0 11) P1)) sz) := by
  refine gm_i (cc := cX11_uses) (maxL := 3) (by decide) rfl (Nat.le_of_ble_eq_true rfl) ?_
  intro p e s m args below meth c A Q ls H locs hx hb hml hown hts hK hN hA hP hD hS hl hret
  have hown : s.vm.findClass RX11 = some m.cls := hown
  have hl : lv_has ls 3 [(0, .ref (a0 0 0)), (1, .int x1), (2, .int x2)] := hl
  have iw_One : ∀ w ∈ u_ws RX11 TX11 16, w ∈ wsX11_uses := by decide +kernel
  have iw_Folk : ∀ w ∈ u_ws RX1 TX1 4, w ∈ wsX11_uses := by decide +kernel
  have fl_82 := hts (.fieldLink RX11 82 "OneMeasure" "folk" "LOneMeasure$Folk;") (by decide +kernel)
  have fl_314 := hts (.fieldLink RX11 314 "OneMeasure$Folk" "oldUsers" "[I") (by decide +kernel)
  have fl_317 := hts (.fieldLink RX11 317 "OneMeasure$Folk" "newUsers" "[I") (by decide +kernel)
  unfold f_One_uses at hf
  refine lv_iload_n hx hb dX11_uses_0 rfl (lv_at hl 1 rfl) ?_
  obtain ⟨r_1, hz, hf⟩ := mb_bd1_s hf
  refine gc_i (r0 := r_1) (ws' := (wC_One k a0 P0 ++ (wC_Folk k (a0 11) P1))) (wr := (wC_One k a0 P0 ++ (wC_Folk k (a0 11) P1))) (va_runS (As := [.int x1]) (rest := []) ⟨hx, hb, hml, hown, hts⟩ (c_One_isDistrict l D k H.size x1 r_1 hz) (cwS 1 hts gX11_uses_X11_isDistrict rfl rfl rfl (by decide +kernel) ⟨Nat.le_of_ble_eq_true rfl, Nat.le_of_ble_eq_true rfl⟩) (gp_S hP hD hK hN [] (by decide +kernel) rfl) rfl rfl hl.1 rfl (lv_room (Nat.le_of_ble_eq_true rfl)) dX11_uses_1 ⟨Nat.zero_le _, Nat.zero_le _⟩) hP hD hS hA [] [0, 1, 2, 3, 4, 5, 6, 7, 8] rfl rfl (by decide +kernel) (by decide +kernel) [0, 1, 2, 3, 4, 5, 6, 7, 8] (by decide +kernel) rfl (fun H locs hP hD hS => ?_)
  clear hz
  refine lv_if_eq (tgt := 16) hx hb dX11_uses_4 (by decide) (fun c_9 => ?_) (fun c_9 => ?_)
  · have hf := mb_if_t c_9 hf
    refine lv_iconst (v := (-1)) hx hb dX11_uses_16 (by decide) ?_
    have hz := Option.some.inj hf
    subst hz
    exact hret _ _ _ _ dX11_uses_17 hP hD hS
  · have hf := mb_if_f c_9 hf
    refine lv_iload_n hx hb dX11_uses_7 rfl (lv_at hl 2 rfl) ?_
    refine lv_iconst (v := 0) hx hb dX11_uses_8 (by decide) ?_
    refine lv_iconst (v := 2) hx hb dX11_uses_9 (by decide) ?_
    obtain ⟨r_2, hz, hf⟩ := mb_bd1_s hf
    refine gc_i (r0 := r_2) (ws' := (wC_One k a0 P0 ++ (wC_Folk k (a0 11) P1))) (wr := (wC_One k a0 P0 ++ (wC_Folk k (a0 11) P1))) (va_runS (As := [.int x2, .int (0 : Int32), .int (2 : Int32)]) (rest := []) ⟨hx, hb, hml, hown, hts⟩ (c_One_within l D k H.size x2 (0 : Int32) (2 : Int32) r_2 hz) (cwS 3 hts gX11_uses_X11_within rfl rfl rfl (by decide +kernel) ⟨Nat.le_of_ble_eq_true rfl, Nat.le_of_ble_eq_true rfl⟩) (gp_S hP hD hK hN [] (by decide +kernel) rfl) rfl rfl hl.1 rfl (lv_room (Nat.le_of_ble_eq_true rfl)) dX11_uses_10 ⟨Nat.zero_le _, Nat.zero_le _⟩) hP hD hS hA [] [0, 1, 2, 3, 4, 5, 6, 7, 8] rfl rfl (by decide +kernel) (by decide +kernel) [0, 1, 2, 3, 4, 5, 6, 7, 8] (by decide +kernel) rfl (fun H locs hP hD hS => ?_)
    clear hz
    refine lv_if_ne (tgt := 18) hx hb dX11_uses_13 (by decide) (fun c_8 => ?_) (fun c_8 => ?_)
    · have hf := mb_if_f c_8 hf
      refine lv_iload_n hx hb dX11_uses_18 rfl (lv_at hl 2 rfl) ?_
      refine lv_if_ne (tgt := 32) hx hb dX11_uses_19 (by decide) (fun c_7 => ?_) (fun c_7 => ?_)
      · have hf := mb_if_f c_7 hf
        refine lv_iload_n hx hb dX11_uses_32 rfl (lv_at hl 2 rfl) ?_
        refine lv_iconst (v := 1) hx hb dX11_uses_33 (by decide) ?_
        refine lv_icmp_ne (tgt := 47) hx hb dX11_uses_34 (by decide) (fun c_5 => ?_) (fun c_5 => ?_)
        · have hf := mb_if_f c_5 hf
          refine lv_aload_n hx hb dX11_uses_47 rfl (lv_at hl 0 rfl) ?_
          refine va_get (D := D) (ci := 11) (v := .ref (a0 11 0)) (C := RX11) (T := TX11) (N := 16) hx hb hts iw_One hown hK hP 0 rfl rfl 10 (by decide) fl_82 (fun _ h9 => h9) rfl dX11_uses_48 ?_
          refine lv_iload_n hx hb dX11_uses_51 rfl (lv_at hl 1 rfl) ?_
          obtain ⟨r_3, hz, hf⟩ := mb_bd1_s hf
          refine gc_i (r0 := r_3) (ws' := (wC_One k a0 P0 ++ (wC_Folk k (a0 11) P1))) (wr := (wC_One k a0 P0)) (va_runV (As := [.int x1]) (rest := []) ⟨hx, hb, hml, hown, hts⟩ (c_Folk_seasonsTillHalf l D k H.size (a0 11) P1 x1 r_3 hz) (cwV 1 hts gX11_uses_X1_seasonsTillHalf rfl rfl rfl (by decide +kernel) ⟨Nat.le_of_ble_eq_true rfl, Nat.le_of_ble_eq_true rfl⟩) (gp_V (ci := 1) (q0 := 0) (q := (RX1, TX1, 4)) hP hD hK hN [4, 5, 6, 7, 8] (by decide +kernel) rfl rfl rfl) rfl rfl hl.1 rfl (lv_room (Nat.le_of_ble_eq_true rfl)) dX11_uses_52 ⟨Nat.zero_le _, Nat.zero_le _⟩) hP hD hS hA [4, 5, 6, 7, 8] [0, 1, 2, 3] rfl rfl (by decide +kernel) (by decide +kernel) [0, 1, 2, 3, 4, 5, 6, 7, 8] (by decide +kernel) rfl (fun H locs hP hD hS => ?_)
          clear hz
          have hz := Option.some.inj hf
          subst hz
          exact hret _ _ _ _ dX11_uses_55 hP hD hS
        · have hf := mb_if_t c_5 hf
          refine lv_aload_n hx hb dX11_uses_37 rfl (lv_at hl 0 rfl) ?_
          refine va_get (D := D) (ci := 11) (v := .ref (a0 11 0)) (C := RX11) (T := TX11) (N := 16) hx hb hts iw_One hown hK hP 0 rfl rfl 10 (by decide) fl_82 (fun _ h9 => h9) rfl dX11_uses_38 ?_
          refine va_get (D := D) (ci := 1) (v := .ref (a0 11 2)) (C := RX1) (T := TX1) (N := 4) hx hb hts iw_Folk hown hK hP 4 rfl rfl 1 (by decide) fl_317 (fun _ h9 => h9) rfl dX11_uses_41 ?_
          refine lv_iload_n hx hb dX11_uses_44 rfl (lv_at hl 1 rfl) ?_
          obtain ⟨h_4, hf⟩ := mb_chk_s hf
          refine va_iald hx hb hK hP 6 0 rfl rfl h_4 dX11_uses_45 ?_
          have hz := Option.some.inj hf
          subst hz
          exact hret _ _ _ _ dX11_uses_46 hP hD hS
      · have hf := mb_if_t c_7 hf
        refine lv_aload_n hx hb dX11_uses_22 rfl (lv_at hl 0 rfl) ?_
        refine va_get (D := D) (ci := 11) (v := .ref (a0 11 0)) (C := RX11) (T := TX11) (N := 16) hx hb hts iw_One hown hK hP 0 rfl rfl 10 (by decide) fl_82 (fun _ h9 => h9) rfl dX11_uses_23 ?_
        refine va_get (D := D) (ci := 1) (v := .ref (a0 11 1)) (C := RX1) (T := TX1) (N := 4) hx hb hts iw_Folk hown hK hP 4 rfl rfl 0 (by decide) fl_314 (fun _ h9 => h9) rfl dX11_uses_26 ?_
        refine lv_iload_n hx hb dX11_uses_29 rfl (lv_at hl 1 rfl) ?_
        obtain ⟨h_6, hf⟩ := mb_chk_s hf
        refine va_iald hx hb hK hP 5 0 rfl rfl h_6 dX11_uses_30 ?_
        have hz := Option.some.inj hf
        subst hz
        exact hret _ _ _ _ dX11_uses_31 hP hD hS
    · have hf := mb_if_t c_8 hf
      refine lv_iconst (v := (-1)) hx hb dX11_uses_16 (by decide) ?_
      have hz := Option.some.inj hf
      subst hz
      exact hret _ _ _ _ dX11_uses_17 hP hD hS
def f_Rods_copyFrom (P0 : PI) (L0 : PL) (P1 : PI) (L1 : PL) : Option (PI × PL) := mb_let (mb_uo P0 0 (P1 0 0)) (fun (P0_1 : PI) => mb_let (mb_uo P0_1 1 (P1 0 1)) (fun (P0_2 : PI) => mb_let (mb_up P0_2 3 (va_cpy (P1 3) (P0_2 3) (0 : Int32).toNatClampNeg (0 : Int32).toNatClampNeg (12 : Int32).toNatClampNeg)) (fun (P0_3 : PI) => mb_let (mb_up P0_3 4 (va_cpy (P1 4) (P0_3 4) (0 : Int32).toNatClampNeg (0 : Int32).toNatClampNeg (12 : Int32).toNatClampNeg)) (fun (P0_4 : PI) => mb_let (mb_up P0_4 5 (va_cpy (P1 5) (P0_4 5) (0 : Int32).toNatClampNeg (0 : Int32).toNatClampNeg (12 : Int32).toNatClampNeg)) (fun (P0_5 : PI) => mb_let (mb_up P0_5 6 (va_cpy (P1 6) (P0_5 6) (0 : Int32).toNatClampNeg (0 : Int32).toNatClampNeg (12 : Int32).toNatClampNeg)) (fun (P0_6 : PI) => mb_let (mb_up P0_6 7 (va_cpy (P1 7) (P0_6 7) (0 : Int32).toNatClampNeg (0 : Int32).toNatClampNeg (12 : Int32).toNatClampNeg)) (fun (P0_7 : PI) => mb_let (mb_up P0_7 8 (va_cpy (P1 8) (P0_7 8) (0 : Int32).toNatClampNeg (0 : Int32).toNatClampNeg (12 : Int32).toNatClampNeg)) (fun (P0_8 : PI) => mb_let (mb_up P0_8 9 (va_cpy (P1 9) (P0_8 9) (0 : Int32).toNatClampNeg (0 : Int32).toNatClampNeg (12 : Int32).toNatClampNeg)) (fun (P0_9 : PI) => mb_let (mb_up P0_9 10 (va_cpy (P1 10) (P0_9 10) (0 : Int32).toNatClampNeg (0 : Int32).toNatClampNeg (12 : Int32).toNatClampNeg)) (fun (P0_10 : PI) => mb_let (mb_up P0_10 11 (va_cpy (P1 11) (P0_10 11) (0 : Int32).toNatClampNeg (0 : Int32).toNatClampNeg (12 : Int32).toNatClampNeg)) (fun (P0_11 : PI) => mb_let (mb_upL L0 12 (va_cpy (L1 12) (L0 12) (0 : Int32).toNatClampNeg (0 : Int32).toNatClampNeg (6 : Int32).toNatClampNeg)) (fun (L0_12 : PL) => mb_let (mb_upL L0_12 13 (va_cpy (L1 13) (L0_12 13) (0 : Int32).toNatClampNeg (0 : Int32).toNatClampNeg (6 : Int32).toNatClampNeg)) (fun (L0_13 : PL) => some (P0_11, L0_13))))))))))))))
def rm_Rods_copyFrom : Room := { frames := 1, cells := 0, slots := 0, locals := 60 }
set_option maxHeartbeats 4000000 in
set_option maxRecDepth 100000 in
theorem c_Rods_copyFrom (l : Launch) (D : va_G) (k : Nat → ClassId) (sz : Nat) (b0 : Nat → Nat) (b1 : Nat → Nat) (P0 : PI) (L0 : PL) (P1 : PI) (L1 : PL) (z : PI × PL) (hf : f_Rods_copyFrom P0 L0 P1 L1 = some z) : Met l yX4_copyFrom wsX4_copyFrom rm_Rods_copyFrom (va_Pc [.ref (b0 0), .ref (b1 0)] (gw_pre D vwCl (tyL k) (wC_Rods k b0 P0 L0 ++ (wC_Rods k b1 P1 L1)) sz)) (va_Qv (fun (_ : Unit) => True) (gw_b D vwCl (tyL k) (va_A (wC_Rods k b0 P0 L0 ++ (wC_Rods k b1 P1 L1)) sz) (wC_Rods k b0 z.1 z.2 ++ (wC_Rods k b1 P1 L1))) (va_A (wC_Rods k b0 P0 L0 ++ (wC_Rods k b1 P1 L1)) sz)) 0 0 (va_A (wC_Rods k b0 P0 L0 ++ (wC_Rods k b1 P1 L1)) sz) := by
  refine gm_v (cc := cX4_copyFrom) (maxL := 2) (by decide) rfl (Nat.le_of_ble_eq_true rfl) ?_
  intro p e s m args below meth c A Q ls H locs hx hb hml hown hts hK hN hA hP hD hS hl hret
  have hown : s.vm.findClass RX4 = some m.cls := hown
  have hl : lv_has ls 2 [(0, .ref (b0 0)), (1, .ref (b1 0))] := hl
  have iw_Rods : ∀ w ∈ u_ws RX4 TX4 13, w ∈ wsX4_copyFrom := by decide +kernel
  have fl_9 := hts (.fieldLink RX4 9 "OneMeasure$Rods" "count" "I") (by decide +kernel)
  have fl_15 := hts (.fieldLink RX4 15 "OneMeasure$Rods" "week" "I") (by decide +kernel)
  have fl_18 := hts (.fieldLink RX4 18 "OneMeasure$Rods" "unit" "[I") (by decide +kernel)
  have fl_22 := hts (.fieldLink RX4 22 "OneMeasure$Rods" "district" "[I") (by decide +kernel)
  have fl_25 := hts (.fieldLink RX4 25 "OneMeasure$Rods" "offAtFirst" "[I") (by decide +kernel)
  have fl_28 := hts (.fieldLink RX4 28 "OneMeasure$Rods" "wear" "[I") (by decide +kernel)
  have fl_31 := hts (.fieldLink RX4 31 "OneMeasure$Rods" "firstWeek" "[I") (by decide +kernel)
  have fl_34 := hts (.fieldLink RX4 34 "OneMeasure$Rods" "worn" "[I") (by decide +kernel)
  have fl_37 := hts (.fieldLink RX4 37 "OneMeasure$Rods" "sales" "[I") (by decide +kernel)
  have fl_40 := hts (.fieldLink RX4 40 "OneMeasure$Rods" "sealed" "[I") (by decide +kernel)
  have fl_43 := hts (.fieldLink RX4 43 "OneMeasure$Rods" "seized" "[I") (by decide +kernel)
  have fl_46 := hts (.fieldLink RX4 46 "OneMeasure$Rods" "taken" "[J") (by decide +kernel)
  have fl_50 := hts (.fieldLink RX4 50 "OneMeasure$Rods" "given" "[J") (by decide +kernel)
  have ml_91 := hts (.methodLink RX4 91 arraycopyName) (by decide +kernel)
  have cp_nat := hts (.native arraycopyName) (by decide +kernel)
  have cp_st := hts (.static arraycopyName) (by decide +kernel)
  have sy_ini := hts (.initialized "java/lang/System") (by decide +kernel)
  unfold f_Rods_copyFrom at hf
  refine lv_aload_n hx hb dX4_copyFrom_0 rfl (lv_at hl 0 rfl) ?_
  refine lv_aload_n hx hb dX4_copyFrom_1 rfl (lv_at hl 1 rfl) ?_
  refine va_get (D := D) (ci := 4) (v := .int (P1 0 0)) (C := RX4) (T := TX4) (N := 13) hx hb hts iw_Rods hown hK hP 12 rfl rfl 0 (by decide) fl_9 (fun _ h9 => h9) rfl dX4_copyFrom_2 ?_
  obtain ⟨P0_1, e_, hf⟩ := mb_let_s hf
  refine va_put (D := D) (ci := 4) (v := .int (P1 0 0)) (ty := .int) (C := RX4) (T := TX4) (N := 13) hx hb hts iw_Rods tyX4 tyX4_ok nmX4 hown hK hP hD hS 0 rfl rfl 0 (by decide) fl_9 (fun _ h9 => h9) rfl (by decide +kernel) rfl rfl (Nat.le_of_ble_eq_true rfl) dX4_copyFrom_5 (fun H locs hP hD hS => ?_)
  have hP : va_P D vwCl (wC_Rods k b0 P0_1 L0 ++ (wC_Rods k b1 P1 L1)) H := by rw [e_]; exact hP
  have hD : va_D A (wC_Rods k b0 P0_1 L0 ++ (wC_Rods k b1 P1 L1)) := by rw [e_]; exact hD
  clear e_
  refine lv_aload_n hx hb dX4_copyFrom_8 rfl (lv_at hl 0 rfl) ?_
  refine lv_aload_n hx hb dX4_copyFrom_9 rfl (lv_at hl 1 rfl) ?_
  refine va_get (D := D) (ci := 4) (v := .int (P1 0 1)) (C := RX4) (T := TX4) (N := 13) hx hb hts iw_Rods hown hK hP 12 rfl rfl 1 (by decide) fl_15 (fun _ h9 => h9) rfl dX4_copyFrom_10 ?_
  obtain ⟨P0_2, e_, hf⟩ := mb_let_s hf
  refine va_put (D := D) (ci := 4) (v := .int (P1 0 1)) (ty := .int) (C := RX4) (T := TX4) (N := 13) hx hb hts iw_Rods tyX4 tyX4_ok nmX4 hown hK hP hD hS 0 rfl rfl 1 (by decide) fl_15 (fun _ h9 => h9) rfl (by decide +kernel) rfl rfl (Nat.le_of_ble_eq_true rfl) dX4_copyFrom_13 (fun H locs hP hD hS => ?_)
  have hP : va_P D vwCl (wC_Rods k b0 P0_2 L0 ++ (wC_Rods k b1 P1 L1)) H := by rw [e_]; exact hP
  have hD : va_D A (wC_Rods k b0 P0_2 L0 ++ (wC_Rods k b1 P1 L1)) := by rw [e_]; exact hD
  clear e_
  refine lv_aload_n hx hb dX4_copyFrom_16 rfl (lv_at hl 1 rfl) ?_
  refine va_get (D := D) (ci := 4) (v := .ref (b1 3)) (C := RX4) (T := TX4) (N := 13) hx hb hts iw_Rods hown hK hP 12 rfl rfl 2 (by decide) fl_18 (fun _ h9 => h9) rfl dX4_copyFrom_17 ?_
  refine lv_iconst (v := 0) hx hb dX4_copyFrom_20 (by decide) ?_
  refine lv_aload_n hx hb dX4_copyFrom_21 rfl (lv_at hl 0 rfl) ?_
  refine va_get (D := D) (ci := 4) (v := .ref (b0 3)) (C := RX4) (T := TX4) (N := 13) hx hb hts iw_Rods hown hK hP 0 rfl rfl 2 (by decide) fl_18 (fun _ h9 => h9) rfl dX4_copyFrom_22 ?_
  refine lv_iconst (v := 0) hx hb dX4_copyFrom_25 (by decide) ?_
  refine lv_bipush (v := 12) hx hb dX4_copyFrom_26 (by decide) ?_
  obtain ⟨P0_3, e_, hf⟩ := mb_let_s hf
  refine va_copyi hx hb (hml.trans hl.1.symm) hown ml_91 cp_nat cp_st sy_ini hK hP hD hS 13 1 0 0 rfl rfl rfl rfl rfl (by decide) (by decide) (by decide) (by decide) (by decide) (fun _ _ => rfl) (Nat.le_of_ble_eq_true rfl) (Nat.le_of_ble_eq_true rfl) dX4_copyFrom_28 (fun H locs hP hD hS => ?_)
  have hP : va_P D vwCl (wC_Rods k b0 P0_3 L0 ++ (wC_Rods k b1 P1 L1)) H := by rw [e_]; exact hP
  have hD : va_D A (wC_Rods k b0 P0_3 L0 ++ (wC_Rods k b1 P1 L1)) := by rw [e_]; exact hD
  clear e_
  refine lv_aload_n hx hb dX4_copyFrom_31 rfl (lv_at hl 1 rfl) ?_
  refine va_get (D := D) (ci := 4) (v := .ref (b1 4)) (C := RX4) (T := TX4) (N := 13) hx hb hts iw_Rods hown hK hP 12 rfl rfl 3 (by decide) fl_22 (fun _ h9 => h9) rfl dX4_copyFrom_32 ?_
  refine lv_iconst (v := 0) hx hb dX4_copyFrom_35 (by decide) ?_
  refine lv_aload_n hx hb dX4_copyFrom_36 rfl (lv_at hl 0 rfl) ?_
  refine va_get (D := D) (ci := 4) (v := .ref (b0 4)) (C := RX4) (T := TX4) (N := 13) hx hb hts iw_Rods hown hK hP 0 rfl rfl 3 (by decide) fl_22 (fun _ h9 => h9) rfl dX4_copyFrom_37 ?_
  refine lv_iconst (v := 0) hx hb dX4_copyFrom_40 (by decide) ?_
  refine lv_bipush (v := 12) hx hb dX4_copyFrom_41 (by decide) ?_
  obtain ⟨P0_4, e_, hf⟩ := mb_let_s hf
  refine va_copyi hx hb (hml.trans hl.1.symm) hown ml_91 cp_nat cp_st sy_ini hK hP hD hS 14 2 0 0 rfl rfl rfl rfl rfl (by decide) (by decide) (by decide) (by decide) (by decide) (fun _ _ => rfl) (Nat.le_of_ble_eq_true rfl) (Nat.le_of_ble_eq_true rfl) dX4_copyFrom_43 (fun H locs hP hD hS => ?_)
  have hP : va_P D vwCl (wC_Rods k b0 P0_4 L0 ++ (wC_Rods k b1 P1 L1)) H := by rw [e_]; exact hP
  have hD : va_D A (wC_Rods k b0 P0_4 L0 ++ (wC_Rods k b1 P1 L1)) := by rw [e_]; exact hD
  clear e_
  refine lv_aload_n hx hb dX4_copyFrom_46 rfl (lv_at hl 1 rfl) ?_
  refine va_get (D := D) (ci := 4) (v := .ref (b1 5)) (C := RX4) (T := TX4) (N := 13) hx hb hts iw_Rods hown hK hP 12 rfl rfl 4 (by decide) fl_25 (fun _ h9 => h9) rfl dX4_copyFrom_47 ?_
  refine lv_iconst (v := 0) hx hb dX4_copyFrom_50 (by decide) ?_
  refine lv_aload_n hx hb dX4_copyFrom_51 rfl (lv_at hl 0 rfl) ?_
  refine va_get (D := D) (ci := 4) (v := .ref (b0 5)) (C := RX4) (T := TX4) (N := 13) hx hb hts iw_Rods hown hK hP 0 rfl rfl 4 (by decide) fl_25 (fun _ h9 => h9) rfl dX4_copyFrom_52 ?_
  refine lv_iconst (v := 0) hx hb dX4_copyFrom_55 (by decide) ?_
  refine lv_bipush (v := 12) hx hb dX4_copyFrom_56 (by decide) ?_
  obtain ⟨P0_5, e_, hf⟩ := mb_let_s hf
  refine va_copyi hx hb (hml.trans hl.1.symm) hown ml_91 cp_nat cp_st sy_ini hK hP hD hS 15 3 0 0 rfl rfl rfl rfl rfl (by decide) (by decide) (by decide) (by decide) (by decide) (fun _ _ => rfl) (Nat.le_of_ble_eq_true rfl) (Nat.le_of_ble_eq_true rfl) dX4_copyFrom_58 (fun H locs hP hD hS => ?_)
  have hP : va_P D vwCl (wC_Rods k b0 P0_5 L0 ++ (wC_Rods k b1 P1 L1)) H := by rw [e_]; exact hP
  have hD : va_D A (wC_Rods k b0 P0_5 L0 ++ (wC_Rods k b1 P1 L1)) := by rw [e_]; exact hD
  clear e_
  refine lv_aload_n hx hb dX4_copyFrom_61 rfl (lv_at hl 1 rfl) ?_
  refine va_get (D := D) (ci := 4) (v := .ref (b1 6)) (C := RX4) (T := TX4) (N := 13) hx hb hts iw_Rods hown hK hP 12 rfl rfl 5 (by decide) fl_28 (fun _ h9 => h9) rfl dX4_copyFrom_62 ?_
  refine lv_iconst (v := 0) hx hb dX4_copyFrom_65 (by decide) ?_
  refine lv_aload_n hx hb dX4_copyFrom_66 rfl (lv_at hl 0 rfl) ?_
  refine va_get (D := D) (ci := 4) (v := .ref (b0 6)) (C := RX4) (T := TX4) (N := 13) hx hb hts iw_Rods hown hK hP 0 rfl rfl 5 (by decide) fl_28 (fun _ h9 => h9) rfl dX4_copyFrom_67 ?_
  refine lv_iconst (v := 0) hx hb dX4_copyFrom_70 (by decide) ?_
  refine lv_bipush (v := 12) hx hb dX4_copyFrom_71 (by decide) ?_
  obtain ⟨P0_6, e_, hf⟩ := mb_let_s hf
  refine va_copyi hx hb (hml.trans hl.1.symm) hown ml_91 cp_nat cp_st sy_ini hK hP hD hS 16 4 0 0 rfl rfl rfl rfl rfl (by decide) (by decide) (by decide) (by decide) (by decide) (fun _ _ => rfl) (Nat.le_of_ble_eq_true rfl) (Nat.le_of_ble_eq_true rfl) dX4_copyFrom_73 (fun H locs hP hD hS => ?_)
  have hP : va_P D vwCl (wC_Rods k b0 P0_6 L0 ++ (wC_Rods k b1 P1 L1)) H := by rw [e_]; exact hP
  have hD : va_D A (wC_Rods k b0 P0_6 L0 ++ (wC_Rods k b1 P1 L1)) := by rw [e_]; exact hD
  clear e_
  refine lv_aload_n hx hb dX4_copyFrom_76 rfl (lv_at hl 1 rfl) ?_
  refine va_get (D := D) (ci := 4) (v := .ref (b1 7)) (C := RX4) (T := TX4) (N := 13) hx hb hts iw_Rods hown hK hP 12 rfl rfl 6 (by decide) fl_31 (fun _ h9 => h9) rfl dX4_copyFrom_77 ?_
  refine lv_iconst (v := 0) hx hb dX4_copyFrom_80 (by decide) ?_
  refine lv_aload_n hx hb dX4_copyFrom_81 rfl (lv_at hl 0 rfl) ?_
  refine va_get (D := D) (ci := 4) (v := .ref (b0 7)) (C := RX4) (T := TX4) (N := 13) hx hb hts iw_Rods hown hK hP 0 rfl rfl 6 (by decide) fl_31 (fun _ h9 => h9) rfl dX4_copyFrom_82 ?_
  refine lv_iconst (v := 0) hx hb dX4_copyFrom_85 (by decide) ?_
  refine lv_bipush (v := 12) hx hb dX4_copyFrom_86 (by decide) ?_
  obtain ⟨P0_7, e_, hf⟩ := mb_let_s hf
  refine va_copyi hx hb (hml.trans hl.1.symm) hown ml_91 cp_nat cp_st sy_ini hK hP hD hS 17 5 0 0 rfl rfl rfl rfl rfl (by decide) (by decide) (by decide) (by decide) (by decide) (fun _ _ => rfl) (Nat.le_of_ble_eq_true rfl) (Nat.le_of_ble_eq_true rfl) dX4_copyFrom_88 (fun H locs hP hD hS => ?_)
  have hP : va_P D vwCl (wC_Rods k b0 P0_7 L0 ++ (wC_Rods k b1 P1 L1)) H := by rw [e_]; exact hP
  have hD : va_D A (wC_Rods k b0 P0_7 L0 ++ (wC_Rods k b1 P1 L1)) := by rw [e_]; exact hD
  clear e_
  refine lv_aload_n hx hb dX4_copyFrom_91 rfl (lv_at hl 1 rfl) ?_
  refine va_get (D := D) (ci := 4) (v := .ref (b1 8)) (C := RX4) (T := TX4) (N := 13) hx hb hts iw_Rods hown hK hP 12 rfl rfl 7 (by decide) fl_34 (fun _ h9 => h9) rfl dX4_copyFrom_92 ?_
  refine lv_iconst (v := 0) hx hb dX4_copyFrom_95 (by decide) ?_
  refine lv_aload_n hx hb dX4_copyFrom_96 rfl (lv_at hl 0 rfl) ?_
  refine va_get (D := D) (ci := 4) (v := .ref (b0 8)) (C := RX4) (T := TX4) (N := 13) hx hb hts iw_Rods hown hK hP 0 rfl rfl 7 (by decide) fl_34 (fun _ h9 => h9) rfl dX4_copyFrom_97 ?_
  refine lv_iconst (v := 0) hx hb dX4_copyFrom_100 (by decide) ?_
  refine lv_bipush (v := 12) hx hb dX4_copyFrom_101 (by decide) ?_
  obtain ⟨P0_8, e_, hf⟩ := mb_let_s hf
  refine va_copyi hx hb (hml.trans hl.1.symm) hown ml_91 cp_nat cp_st sy_ini hK hP hD hS 18 6 0 0 rfl rfl rfl rfl rfl (by decide) (by decide) (by decide) (by decide) (by decide) (fun _ _ => rfl) (Nat.le_of_ble_eq_true rfl) (Nat.le_of_ble_eq_true rfl) dX4_copyFrom_103 (fun H locs hP hD hS => ?_)
  have hP : va_P D vwCl (wC_Rods k b0 P0_8 L0 ++ (wC_Rods k b1 P1 L1)) H := by rw [e_]; exact hP
  have hD : va_D A (wC_Rods k b0 P0_8 L0 ++ (wC_Rods k b1 P1 L1)) := by rw [e_]; exact hD
  clear e_
  refine lv_aload_n hx hb dX4_copyFrom_106 rfl (lv_at hl 1 rfl) ?_
  refine va_get (D := D) (ci := 4) (v := .ref (b1 9)) (C := RX4) (T := TX4) (N := 13) hx hb hts iw_Rods hown hK hP 12 rfl rfl 8 (by decide) fl_37 (fun _ h9 => h9) rfl dX4_copyFrom_107 ?_
  refine lv_iconst (v := 0) hx hb dX4_copyFrom_110 (by decide) ?_
  refine lv_aload_n hx hb dX4_copyFrom_111 rfl (lv_at hl 0 rfl) ?_
  refine va_get (D := D) (ci := 4) (v := .ref (b0 9)) (C := RX4) (T := TX4) (N := 13) hx hb hts iw_Rods hown hK hP 0 rfl rfl 8 (by decide) fl_37 (fun _ h9 => h9) rfl dX4_copyFrom_112 ?_
  refine lv_iconst (v := 0) hx hb dX4_copyFrom_115 (by decide) ?_
  refine lv_bipush (v := 12) hx hb dX4_copyFrom_116 (by decide) ?_
  obtain ⟨P0_9, e_, hf⟩ := mb_let_s hf
  refine va_copyi hx hb (hml.trans hl.1.symm) hown ml_91 cp_nat cp_st sy_ini hK hP hD hS 19 7 0 0 rfl rfl rfl rfl rfl (by decide) (by decide) (by decide) (by decide) (by decide) (fun _ _ => rfl) (Nat.le_of_ble_eq_true rfl) (Nat.le_of_ble_eq_true rfl) dX4_copyFrom_118 (fun H locs hP hD hS => ?_)
  have hP : va_P D vwCl (wC_Rods k b0 P0_9 L0 ++ (wC_Rods k b1 P1 L1)) H := by rw [e_]; exact hP
  have hD : va_D A (wC_Rods k b0 P0_9 L0 ++ (wC_Rods k b1 P1 L1)) := by rw [e_]; exact hD
  clear e_
  refine lv_aload_n hx hb dX4_copyFrom_121 rfl (lv_at hl 1 rfl) ?_
  refine va_get (D := D) (ci := 4) (v := .ref (b1 10)) (C := RX4) (T := TX4) (N := 13) hx hb hts iw_Rods hown hK hP 12 rfl rfl 9 (by decide) fl_40 (fun _ h9 => h9) rfl dX4_copyFrom_122 ?_
  refine lv_iconst (v := 0) hx hb dX4_copyFrom_125 (by decide) ?_
  refine lv_aload_n hx hb dX4_copyFrom_126 rfl (lv_at hl 0 rfl) ?_
  refine va_get (D := D) (ci := 4) (v := .ref (b0 10)) (C := RX4) (T := TX4) (N := 13) hx hb hts iw_Rods hown hK hP 0 rfl rfl 9 (by decide) fl_40 (fun _ h9 => h9) rfl dX4_copyFrom_127 ?_
  refine lv_iconst (v := 0) hx hb dX4_copyFrom_130 (by decide) ?_
  refine lv_bipush (v := 12) hx hb dX4_copyFrom_131 (by decide) ?_
  obtain ⟨P0_10, e_, hf⟩ := mb_let_s hf
  refine va_copyi hx hb (hml.trans hl.1.symm) hown ml_91 cp_nat cp_st sy_ini hK hP hD hS 20 8 0 0 rfl rfl rfl rfl rfl (by decide) (by decide) (by decide) (by decide) (by decide) (fun _ _ => rfl) (Nat.le_of_ble_eq_true rfl) (Nat.le_of_ble_eq_true rfl) dX4_copyFrom_133 (fun H locs hP hD hS => ?_)
  have hP : va_P D vwCl (wC_Rods k b0 P0_10 L0 ++ (wC_Rods k b1 P1 L1)) H := by rw [e_]; exact hP
  have hD : va_D A (wC_Rods k b0 P0_10 L0 ++ (wC_Rods k b1 P1 L1)) := by rw [e_]; exact hD
  clear e_
  refine lv_aload_n hx hb dX4_copyFrom_136 rfl (lv_at hl 1 rfl) ?_
  refine va_get (D := D) (ci := 4) (v := .ref (b1 11)) (C := RX4) (T := TX4) (N := 13) hx hb hts iw_Rods hown hK hP 12 rfl rfl 10 (by decide) fl_43 (fun _ h9 => h9) rfl dX4_copyFrom_137 ?_
  refine lv_iconst (v := 0) hx hb dX4_copyFrom_140 (by decide) ?_
  refine lv_aload_n hx hb dX4_copyFrom_141 rfl (lv_at hl 0 rfl) ?_
  refine va_get (D := D) (ci := 4) (v := .ref (b0 11)) (C := RX4) (T := TX4) (N := 13) hx hb hts iw_Rods hown hK hP 0 rfl rfl 10 (by decide) fl_43 (fun _ h9 => h9) rfl dX4_copyFrom_142 ?_
  refine lv_iconst (v := 0) hx hb dX4_copyFrom_145 (by decide) ?_
  refine lv_bipush (v := 12) hx hb dX4_copyFrom_146 (by decide) ?_
  obtain ⟨P0_11, e_, hf⟩ := mb_let_s hf
  refine va_copyi hx hb (hml.trans hl.1.symm) hown ml_91 cp_nat cp_st sy_ini hK hP hD hS 21 9 0 0 rfl rfl rfl rfl rfl (by decide) (by decide) (by decide) (by decide) (by decide) (fun _ _ => rfl) (Nat.le_of_ble_eq_true rfl) (Nat.le_of_ble_eq_true rfl) dX4_copyFrom_148 (fun H locs hP hD hS => ?_)
  have hP : va_P D vwCl (wC_Rods k b0 P0_11 L0 ++ (wC_Rods k b1 P1 L1)) H := by rw [e_]; exact hP
  have hD : va_D A (wC_Rods k b0 P0_11 L0 ++ (wC_Rods k b1 P1 L1)) := by rw [e_]; exact hD
  clear e_
  refine lv_aload_n hx hb dX4_copyFrom_151 rfl (lv_at hl 1 rfl) ?_
  refine va_get (D := D) (ci := 4) (v := .ref (b1 12)) (C := RX4) (T := TX4) (N := 13) hx hb hts iw_Rods hown hK hP 12 rfl rfl 11 (by decide) fl_46 (fun _ h9 => h9) rfl dX4_copyFrom_152 ?_
  refine lv_iconst (v := 0) hx hb dX4_copyFrom_155 (by decide) ?_
  refine lv_aload_n hx hb dX4_copyFrom_156 rfl (lv_at hl 0 rfl) ?_
  refine va_get (D := D) (ci := 4) (v := .ref (b0 12)) (C := RX4) (T := TX4) (N := 13) hx hb hts iw_Rods hown hK hP 0 rfl rfl 11 (by decide) fl_46 (fun _ h9 => h9) rfl dX4_copyFrom_157 ?_
  refine lv_iconst (v := 0) hx hb dX4_copyFrom_160 (by decide) ?_
  refine lv_bipush (v := 6) hx hb dX4_copyFrom_161 (by decide) ?_
  obtain ⟨L0_12, e_, hf⟩ := mb_let_s hf
  refine va_copyl hx hb (hml.trans hl.1.symm) hown ml_91 cp_nat cp_st sy_ini hK hP hD hS 22 10 1 1 rfl rfl rfl rfl rfl (by decide) (by decide) (by decide) (by decide) (by decide) (fun _ _ => rfl) (Nat.le_of_ble_eq_true rfl) (Nat.le_of_ble_eq_true rfl) dX4_copyFrom_163 (fun H locs hP hD hS => ?_)
  have hP : va_P D vwCl (wC_Rods k b0 P0_11 L0_12 ++ (wC_Rods k b1 P1 L1)) H := by rw [e_]; exact hP
  have hD : va_D A (wC_Rods k b0 P0_11 L0_12 ++ (wC_Rods k b1 P1 L1)) := by rw [e_]; exact hD
  clear e_
  refine lv_aload_n hx hb dX4_copyFrom_166 rfl (lv_at hl 1 rfl) ?_
  refine va_get (D := D) (ci := 4) (v := .ref (b1 13)) (C := RX4) (T := TX4) (N := 13) hx hb hts iw_Rods hown hK hP 12 rfl rfl 12 (by decide) fl_50 (fun _ h9 => h9) rfl dX4_copyFrom_167 ?_
  refine lv_iconst (v := 0) hx hb dX4_copyFrom_170 (by decide) ?_
  refine lv_aload_n hx hb dX4_copyFrom_171 rfl (lv_at hl 0 rfl) ?_
  refine va_get (D := D) (ci := 4) (v := .ref (b0 13)) (C := RX4) (T := TX4) (N := 13) hx hb hts iw_Rods hown hK hP 0 rfl rfl 12 (by decide) fl_50 (fun _ h9 => h9) rfl dX4_copyFrom_172 ?_
  refine lv_iconst (v := 0) hx hb dX4_copyFrom_175 (by decide) ?_
  refine lv_bipush (v := 6) hx hb dX4_copyFrom_176 (by decide) ?_
  obtain ⟨L0_13, e_, hf⟩ := mb_let_s hf
  refine va_copyl hx hb (hml.trans hl.1.symm) hown ml_91 cp_nat cp_st sy_ini hK hP hD hS 23 11 1 1 rfl rfl rfl rfl rfl (by decide) (by decide) (by decide) (by decide) (by decide) (fun _ _ => rfl) (Nat.le_of_ble_eq_true rfl) (Nat.le_of_ble_eq_true rfl) dX4_copyFrom_178 (fun H locs hP hD hS => ?_)
  have hP : va_P D vwCl (wC_Rods k b0 P0_11 L0_13 ++ (wC_Rods k b1 P1 L1)) H := by rw [e_]; exact hP
  have hD : va_D A (wC_Rods k b0 P0_11 L0_13 ++ (wC_Rods k b1 P1 L1)) := by rw [e_]; exact hD
  clear e_
  have hz := Option.some.inj hf
  subst hz
  exact hret _ _ _ _ dX4_copyFrom_181 hP hD hS
def f_Folk_copyFrom (P0 : PI) (P1 : PI) : Option (PI) := mb_let (mb_up P0 1 (va_cpy (P1 1) (P0 1) (0 : Int32).toNatClampNeg (0 : Int32).toNatClampNeg (6 : Int32).toNatClampNeg)) (fun (P0_1 : PI) => mb_let (mb_up P0_1 2 (va_cpy (P1 2) (P0_1 2) (0 : Int32).toNatClampNeg (0 : Int32).toNatClampNeg (6 : Int32).toNatClampNeg)) (fun (P0_2 : PI) => mb_let (mb_up P0_2 3 (va_cpy (P1 3) (P0_2 3) (0 : Int32).toNatClampNeg (0 : Int32).toNatClampNeg (6 : Int32).toNatClampNeg)) (fun (P0_3 : PI) => mb_let (mb_up P0_3 4 (va_cpy (P1 4) (P0_3 4) (0 : Int32).toNatClampNeg (0 : Int32).toNatClampNeg (6 : Int32).toNatClampNeg)) (fun (P0_4 : PI) => some P0_4))))
def rm_Folk_copyFrom : Room := { frames := 1, cells := 0, slots := 0, locals := 60 }
set_option maxHeartbeats 4000000 in
set_option maxRecDepth 100000 in
theorem c_Folk_copyFrom (l : Launch) (D : va_G) (k : Nat → ClassId) (sz : Nat) (b0 : Nat → Nat) (b1 : Nat → Nat) (P0 : PI) (P1 : PI) (z : PI) (hf : f_Folk_copyFrom P0 P1 = some z) : Met l yX1_copyFrom wsX1_copyFrom rm_Folk_copyFrom (va_Pc [.ref (b0 0), .ref (b1 0)] (gw_pre D vwCl (tyL k) (wC_Folk k b0 P0 ++ (wC_Folk k b1 P1)) sz)) (va_Qv (fun (_ : Unit) => True) (gw_b D vwCl (tyL k) (va_A (wC_Folk k b0 P0 ++ (wC_Folk k b1 P1)) sz) (wC_Folk k b0 z ++ (wC_Folk k b1 P1))) (va_A (wC_Folk k b0 P0 ++ (wC_Folk k b1 P1)) sz)) 0 0 (va_A (wC_Folk k b0 P0 ++ (wC_Folk k b1 P1)) sz) := by
  refine gm_v (cc := cX1_copyFrom) (maxL := 2) (by decide) rfl (Nat.le_of_ble_eq_true rfl) ?_
  intro p e s m args below meth c A Q ls H locs hx hb hml hown hts hK hN hA hP hD hS hl hret
  have hown : s.vm.findClass RX1 = some m.cls := hown
  have hl : lv_has ls 2 [(0, .ref (b0 0)), (1, .ref (b1 0))] := hl
  have iw_Folk : ∀ w ∈ u_ws RX1 TX1 4, w ∈ wsX1_copyFrom := by decide +kernel
  have fl_9 := hts (.fieldLink RX1 9 "OneMeasure$Folk" "oldUsers" "[I") (by decide +kernel)
  have fl_15 := hts (.fieldLink RX1 15 "OneMeasure$Folk" "newUsers" "[I") (by decide +kernel)
  have fl_18 := hts (.fieldLink RX1 18 "OneMeasure$Folk" "school" "[I") (by decide +kernel)
  have fl_21 := hts (.fieldLink RX1 21 "OneMeasure$Folk" "trust" "[I") (by decide +kernel)
  have ml_28 := hts (.methodLink RX1 28 arraycopyName) (by decide +kernel)
  have cp_nat := hts (.native arraycopyName) (by decide +kernel)
  have cp_st := hts (.static arraycopyName) (by decide +kernel)
  have sy_ini := hts (.initialized "java/lang/System") (by decide +kernel)
  unfold f_Folk_copyFrom at hf
  refine lv_aload_n hx hb dX1_copyFrom_0 rfl (lv_at hl 1 rfl) ?_
  refine va_get (D := D) (ci := 1) (v := .ref (b1 1)) (C := RX1) (T := TX1) (N := 4) hx hb hts iw_Folk hown hK hP 5 rfl rfl 0 (by decide) fl_9 (fun _ h9 => h9) rfl dX1_copyFrom_1 ?_
  refine lv_iconst (v := 0) hx hb dX1_copyFrom_4 (by decide) ?_
  refine lv_aload_n hx hb dX1_copyFrom_5 rfl (lv_at hl 0 rfl) ?_
  refine va_get (D := D) (ci := 1) (v := .ref (b0 1)) (C := RX1) (T := TX1) (N := 4) hx hb hts iw_Folk hown hK hP 0 rfl rfl 0 (by decide) fl_9 (fun _ h9 => h9) rfl dX1_copyFrom_6 ?_
  refine lv_iconst (v := 0) hx hb dX1_copyFrom_9 (by decide) ?_
  refine lv_bipush (v := 6) hx hb dX1_copyFrom_10 (by decide) ?_
  obtain ⟨P0_1, e_, hf⟩ := mb_let_s hf
  refine va_copyi hx hb (hml.trans hl.1.symm) hown ml_28 cp_nat cp_st sy_ini hK hP hD hS 6 1 0 0 rfl rfl rfl rfl rfl (by decide) (by decide) (by decide) (by decide) (by decide) (fun _ _ => rfl) (Nat.le_of_ble_eq_true rfl) (Nat.le_of_ble_eq_true rfl) dX1_copyFrom_12 (fun H locs hP hD hS => ?_)
  have hP : va_P D vwCl (wC_Folk k b0 P0_1 ++ (wC_Folk k b1 P1)) H := by rw [e_]; exact hP
  have hD : va_D A (wC_Folk k b0 P0_1 ++ (wC_Folk k b1 P1)) := by rw [e_]; exact hD
  clear e_
  refine lv_aload_n hx hb dX1_copyFrom_15 rfl (lv_at hl 1 rfl) ?_
  refine va_get (D := D) (ci := 1) (v := .ref (b1 2)) (C := RX1) (T := TX1) (N := 4) hx hb hts iw_Folk hown hK hP 5 rfl rfl 1 (by decide) fl_15 (fun _ h9 => h9) rfl dX1_copyFrom_16 ?_
  refine lv_iconst (v := 0) hx hb dX1_copyFrom_19 (by decide) ?_
  refine lv_aload_n hx hb dX1_copyFrom_20 rfl (lv_at hl 0 rfl) ?_
  refine va_get (D := D) (ci := 1) (v := .ref (b0 2)) (C := RX1) (T := TX1) (N := 4) hx hb hts iw_Folk hown hK hP 0 rfl rfl 1 (by decide) fl_15 (fun _ h9 => h9) rfl dX1_copyFrom_21 ?_
  refine lv_iconst (v := 0) hx hb dX1_copyFrom_24 (by decide) ?_
  refine lv_bipush (v := 6) hx hb dX1_copyFrom_25 (by decide) ?_
  obtain ⟨P0_2, e_, hf⟩ := mb_let_s hf
  refine va_copyi hx hb (hml.trans hl.1.symm) hown ml_28 cp_nat cp_st sy_ini hK hP hD hS 7 2 0 0 rfl rfl rfl rfl rfl (by decide) (by decide) (by decide) (by decide) (by decide) (fun _ _ => rfl) (Nat.le_of_ble_eq_true rfl) (Nat.le_of_ble_eq_true rfl) dX1_copyFrom_27 (fun H locs hP hD hS => ?_)
  have hP : va_P D vwCl (wC_Folk k b0 P0_2 ++ (wC_Folk k b1 P1)) H := by rw [e_]; exact hP
  have hD : va_D A (wC_Folk k b0 P0_2 ++ (wC_Folk k b1 P1)) := by rw [e_]; exact hD
  clear e_
  refine lv_aload_n hx hb dX1_copyFrom_30 rfl (lv_at hl 1 rfl) ?_
  refine va_get (D := D) (ci := 1) (v := .ref (b1 3)) (C := RX1) (T := TX1) (N := 4) hx hb hts iw_Folk hown hK hP 5 rfl rfl 2 (by decide) fl_18 (fun _ h9 => h9) rfl dX1_copyFrom_31 ?_
  refine lv_iconst (v := 0) hx hb dX1_copyFrom_34 (by decide) ?_
  refine lv_aload_n hx hb dX1_copyFrom_35 rfl (lv_at hl 0 rfl) ?_
  refine va_get (D := D) (ci := 1) (v := .ref (b0 3)) (C := RX1) (T := TX1) (N := 4) hx hb hts iw_Folk hown hK hP 0 rfl rfl 2 (by decide) fl_18 (fun _ h9 => h9) rfl dX1_copyFrom_36 ?_
  refine lv_iconst (v := 0) hx hb dX1_copyFrom_39 (by decide) ?_
  refine lv_bipush (v := 6) hx hb dX1_copyFrom_40 (by decide) ?_
  obtain ⟨P0_3, e_, hf⟩ := mb_let_s hf
  refine va_copyi hx hb (hml.trans hl.1.symm) hown ml_28 cp_nat cp_st sy_ini hK hP hD hS 8 3 0 0 rfl rfl rfl rfl rfl (by decide) (by decide) (by decide) (by decide) (by decide) (fun _ _ => rfl) (Nat.le_of_ble_eq_true rfl) (Nat.le_of_ble_eq_true rfl) dX1_copyFrom_42 (fun H locs hP hD hS => ?_)
  have hP : va_P D vwCl (wC_Folk k b0 P0_3 ++ (wC_Folk k b1 P1)) H := by rw [e_]; exact hP
  have hD : va_D A (wC_Folk k b0 P0_3 ++ (wC_Folk k b1 P1)) := by rw [e_]; exact hD
  clear e_
  refine lv_aload_n hx hb dX1_copyFrom_45 rfl (lv_at hl 1 rfl) ?_
  refine va_get (D := D) (ci := 1) (v := .ref (b1 4)) (C := RX1) (T := TX1) (N := 4) hx hb hts iw_Folk hown hK hP 5 rfl rfl 3 (by decide) fl_21 (fun _ h9 => h9) rfl dX1_copyFrom_46 ?_
  refine lv_iconst (v := 0) hx hb dX1_copyFrom_49 (by decide) ?_
  refine lv_aload_n hx hb dX1_copyFrom_50 rfl (lv_at hl 0 rfl) ?_
  refine va_get (D := D) (ci := 1) (v := .ref (b0 4)) (C := RX1) (T := TX1) (N := 4) hx hb hts iw_Folk hown hK hP 0 rfl rfl 3 (by decide) fl_21 (fun _ h9 => h9) rfl dX1_copyFrom_51 ?_
  refine lv_iconst (v := 0) hx hb dX1_copyFrom_54 (by decide) ?_
  refine lv_bipush (v := 6) hx hb dX1_copyFrom_55 (by decide) ?_
  obtain ⟨P0_4, e_, hf⟩ := mb_let_s hf
  refine va_copyi hx hb (hml.trans hl.1.symm) hown ml_28 cp_nat cp_st sy_ini hK hP hD hS 9 4 0 0 rfl rfl rfl rfl rfl (by decide) (by decide) (by decide) (by decide) (by decide) (fun _ _ => rfl) (Nat.le_of_ble_eq_true rfl) (Nat.le_of_ble_eq_true rfl) dX1_copyFrom_57 (fun H locs hP hD hS => ?_)
  have hP : va_P D vwCl (wC_Folk k b0 P0_4 ++ (wC_Folk k b1 P1)) H := by rw [e_]; exact hP
  have hD : va_D A (wC_Folk k b0 P0_4 ++ (wC_Folk k b1 P1)) := by rw [e_]; exact hD
  clear e_
  have hz := Option.some.inj hf
  subst hz
  exact hret _ _ _ _ dX1_copyFrom_60 hP hD hS
