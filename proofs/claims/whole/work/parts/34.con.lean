def f_Script_isSound (P0 : PI) : Option (Int32) := (if (P0 0 2) = (97 : Int32) then mb_chk (0 : Int32) 4 (mb_bd1 (f_One_isUnitNumber (P0 2 (0 : Int32).toNatClampNeg)) (fun (r_2 : Int32) => (if r_2 = 0 then some (0 : Int32) else mb_chk (1 : Int32) 4 (mb_bd1 (f_One_isDistrict (P0 2 (1 : Int32).toNatClampNeg)) (fun (r_4 : Int32) => (if r_4 = 0 then some (0 : Int32) else mb_chk (2 : Int32) 4 (mb_chk (3 : Int32) 4 ((if (P0 2 (3 : Int32).toNatClampNeg) < (P0 2 (2 : Int32).toNatClampNeg) then some (0 : Int32) else some (1 : Int32)))))))))) else (if (P0 0 2) = (98 : Int32) then mb_chk (0 : Int32) 4 (mb_bd1 (f_One_isUnitNumber (P0 2 (0 : Int32).toNatClampNeg)) (fun (r_11 : Int32) => (if r_11 = 0 then some (0 : Int32) else mb_chk (1 : Int32) 4 (mb_bd1 (f_One_isDistrict (P0 2 (1 : Int32).toNatClampNeg)) (fun (r_13 : Int32) => (if r_13 = 0 then some (0 : Int32) else mb_chk (2 : Int32) 4 (mb_chk (3 : Int32) 4 ((if (P0 2 (3 : Int32).toNatClampNeg) < (P0 2 (2 : Int32).toNatClampNeg) then some (0 : Int32) else some (1 : Int32)))))))))) else (if (P0 0 2) = (104 : Int32) then mb_chk (0 : Int32) 4 (mb_bd1 (f_One_isDistrict (P0 2 (0 : Int32).toNatClampNeg)) (fun (r_20 : Int32) => (if r_20 = 0 then some (0 : Int32) else mb_chk (1 : Int32) 4 ((if (1 : Int32) < (P0 2 (1 : Int32).toNatClampNeg) then some (0 : Int32) else mb_chk (2 : Int32) 4 (mb_chk (3 : Int32) 4 ((if (P0 2 (3 : Int32).toNatClampNeg) < (P0 2 (2 : Int32).toNatClampNeg) then some (0 : Int32) else some (1 : Int32))))))))) else (if (P0 0 2) = (110 : Int32) then mb_chk (0 : Int32) 4 ((if (10 : Int32) ≤ (P0 2 (0 : Int32).toNatClampNeg) then some (0 : Int32) else mb_chk (1 : Int32) 4 (mb_bd1 (f_One_isUnitNumber (P0 2 (1 : Int32).toNatClampNeg)) (fun (r_29 : Int32) => (if r_29 = 0 then some (0 : Int32) else mb_chk (2 : Int32) 4 (mb_bd1 (f_One_isDistrict (P0 2 (2 : Int32).toNatClampNeg)) (fun (r_31 : Int32) => (if r_31 = 0 then some (0 : Int32) else some (1 : Int32))))))))) else some (0 : Int32)))))
def rm_Script_isSound : Room := { frames := 2, cells := 0, slots := 0, locals := 42 }
set_option maxHeartbeats 4000000 in
set_option maxRecDepth 100000 in
theorem c_Script_isSound (l : Launch) (D : va_G) (k : Nat → ClassId) (sz : Nat) (b0 : Nat → Nat) (P0 : PI) (z : Int32) (hf : f_Script_isSound P0 = some z) : Met l yX5_isSound wsX5_isSound rm_Script_isSound (va_Pc [.ref (b0 0)] (gw_pre D vwCl (tyL k) (wC_Script k b0 P0) sz)) (va_Qi (fun (r : Int32) (_ : Unit) => r = z) (gw_b D vwCl (tyL k) (va_A (wC_Script k b0 P0) sz) (wC_Script k b0 P0)) (va_A (wC_Script k b0 P0) sz)) 0 0 (va_A (wC_Script k b0 P0) sz) := by
  refine gm_z (cc := cX5_isSound) (maxL := 1) (by decide) rfl (Nat.le_of_ble_eq_true rfl) ?_
  intro p e s m args below meth c A Q ls H locs hx hb hml hown hts hK hN hA hP hD hS hl hret
  have hown : s.vm.findClass RX5 = some m.cls := hown
  have hl : lv_has ls 1 [(0, .ref (b0 0))] := hl
  have iw_Script : ∀ w ∈ u_ws RX5 TX5 4, w ∈ wsX5_isSound := by decide +kernel
  have fl_15 := hts (.fieldLink RX5 15 "OneMeasure$Script" "numbers" "[I") (by decide +kernel)
  have fl_18 := hts (.fieldLink RX5 18 "OneMeasure$Script" "letter" "I") (by decide +kernel)
  unfold f_Script_isSound at hf
  refine lv_aload_n hx hb dX5_isSound_0 rfl (lv_at hl 0 rfl) ?_
  refine va_get (D := D) (ci := 5) (v := .int (P0 0 2)) (C := RX5) (T := TX5) (N := 4) hx hb hts iw_Script hown hK hP 0 rfl rfl 2 (by decide) fl_18 (fun _ h9 => h9) rfl dX5_isSound_1 ?_
  by_cases c_35 : (P0 0 2) = (97 : Int32)
  · have hf := mb_if_t c_35 hf
    refine lv_lookup (tgt := 48) hx hb dX5_isSound_4 (by decide) (by rw [c_35]; try rfl) (by decide) ?_
    refine lv_aload_n hx hb dX5_isSound_48 rfl (lv_at hl 0 rfl) ?_
    refine va_get (D := D) (ci := 5) (v := .ref (b0 2)) (C := RX5) (T := TX5) (N := 4) hx hb hts iw_Script hown hK hP 0 rfl rfl 1 (by decide) fl_15 (fun _ h9 => h9) rfl dX5_isSound_49 ?_
    refine lv_iconst (v := 0) hx hb dX5_isSound_52 (by decide) ?_
    obtain ⟨h_1, hf⟩ := mb_chk_s hf
    refine va_iald hx hb hK hP 2 0 rfl rfl h_1 dX5_isSound_53 ?_
    obtain ⟨r_2, hz, hf⟩ := mb_bd1_s hf
    refine gc_i (r0 := r_2) (ws' := (wC_Script k b0 P0)) (wr := (wC_Script k b0 P0)) (va_runSN (As := [.int (P0 2 (0 : Int32).toNatClampNeg)]) (rest := []) ⟨hx, hb, hml, hown, hts⟩ (c_One_isUnitNumber l D k H.size (P0 2 (0 : Int32).toNatClampNeg) r_2 hz) ⟨va_cnB (own := RX5) (host := "OneMeasure") (index := 42) 1 hts gX5_isSound_X11_isUnitNumber_n42 rfl rfl rfl (hN.1 _ (List.mem_of_getElem? (i := 0) rfl)) (hts (.initialized RX11) (by decide +kernel)) (by decide +kernel) ⟨Nat.le_of_ble_eq_true rfl, Nat.le_of_ble_eq_true rfl⟩, hts (.static yX11_isUnitNumber) (by decide +kernel), trivial⟩ (gp_S hP hD hK hN [] (by decide +kernel) rfl) rfl rfl hl.1 rfl (lv_room (Nat.le_of_ble_eq_true rfl)) dX5_isSound_54 ⟨Nat.zero_le _, Nat.zero_le _⟩) hP hD hS hA [] [0, 1, 2] rfl rfl (by decide +kernel) (by decide +kernel) [0, 1, 2] (by decide +kernel) rfl (fun H locs hP hD hS => ?_)
    clear hz
    refine lv_if_eq (tgt := 91) hx hb dX5_isSound_57 (by decide) (fun c_9 => ?_) (fun c_9 => ?_)
    · have hf := mb_if_t c_9 hf
      refine lv_iconst (v := 0) hx hb dX5_isSound_91 (by decide) ?_
      have hz := Option.some.inj hf
      subst hz
      exact hret _ _ _ _ mb_n0 dX5_isSound_92 hP hD hS
    · have hf := mb_if_f c_9 hf
      refine lv_aload_n hx hb dX5_isSound_60 rfl (lv_at hl 0 rfl) ?_
      refine va_get (D := D) (ci := 5) (v := .ref (b0 2)) (C := RX5) (T := TX5) (N := 4) hx hb hts iw_Script hown hK hP 0 rfl rfl 1 (by decide) fl_15 (fun _ h9 => h9) rfl dX5_isSound_61 ?_
      refine lv_iconst (v := 1) hx hb dX5_isSound_64 (by decide) ?_
      obtain ⟨h_3, hf⟩ := mb_chk_s hf
      refine va_iald hx hb hK hP 2 0 rfl rfl h_3 dX5_isSound_65 ?_
      obtain ⟨r_4, hz, hf⟩ := mb_bd1_s hf
      refine gc_i (r0 := r_4) (ws' := (wC_Script k b0 P0)) (wr := (wC_Script k b0 P0)) (va_runSN (As := [.int (P0 2 (1 : Int32).toNatClampNeg)]) (rest := []) ⟨hx, hb, hml, hown, hts⟩ (c_One_isDistrict l D k H.size (P0 2 (1 : Int32).toNatClampNeg) r_4 hz) ⟨va_cnB (own := RX5) (host := "OneMeasure") (index := 46) 1 hts gX5_isSound_X11_isDistrict_n46 rfl rfl rfl (hN.1 _ (List.mem_of_getElem? (i := 1) rfl)) (hts (.initialized RX11) (by decide +kernel)) (by decide +kernel) ⟨Nat.le_of_ble_eq_true rfl, Nat.le_of_ble_eq_true rfl⟩, hts (.static yX11_isDistrict) (by decide +kernel), trivial⟩ (gp_S hP hD hK hN [] (by decide +kernel) rfl) rfl rfl hl.1 rfl (lv_room (Nat.le_of_ble_eq_true rfl)) dX5_isSound_66 ⟨Nat.zero_le _, Nat.zero_le _⟩) hP hD hS hA [] [0, 1, 2] rfl rfl (by decide +kernel) (by decide +kernel) [0, 1, 2] (by decide +kernel) rfl (fun H locs hP hD hS => ?_)
      clear hz
      refine lv_if_eq (tgt := 91) hx hb dX5_isSound_69 (by decide) (fun c_8 => ?_) (fun c_8 => ?_)
      · have hf := mb_if_t c_8 hf
        refine lv_iconst (v := 0) hx hb dX5_isSound_91 (by decide) ?_
        have hz := Option.some.inj hf
        subst hz
        exact hret _ _ _ _ mb_n0 dX5_isSound_92 hP hD hS
      · have hf := mb_if_f c_8 hf
        refine lv_aload_n hx hb dX5_isSound_72 rfl (lv_at hl 0 rfl) ?_
        refine va_get (D := D) (ci := 5) (v := .ref (b0 2)) (C := RX5) (T := TX5) (N := 4) hx hb hts iw_Script hown hK hP 0 rfl rfl 1 (by decide) fl_15 (fun _ h9 => h9) rfl dX5_isSound_73 ?_
        refine lv_iconst (v := 2) hx hb dX5_isSound_76 (by decide) ?_
        obtain ⟨h_5, hf⟩ := mb_chk_s hf
        refine va_iald hx hb hK hP 2 0 rfl rfl h_5 dX5_isSound_77 ?_
        refine lv_aload_n hx hb dX5_isSound_78 rfl (lv_at hl 0 rfl) ?_
        refine va_get (D := D) (ci := 5) (v := .ref (b0 2)) (C := RX5) (T := TX5) (N := 4) hx hb hts iw_Script hown hK hP 0 rfl rfl 1 (by decide) fl_15 (fun _ h9 => h9) rfl dX5_isSound_79 ?_
        refine lv_iconst (v := 3) hx hb dX5_isSound_82 (by decide) ?_
        obtain ⟨h_6, hf⟩ := mb_chk_s hf
        refine va_iald hx hb hK hP 2 0 rfl rfl h_6 dX5_isSound_83 ?_
        refine lv_icmp_gt (tgt := 91) hx hb dX5_isSound_84 (by decide) (fun c_7 => ?_) (fun c_7 => ?_)
        · have hf := mb_if_t c_7 hf
          refine lv_iconst (v := 0) hx hb dX5_isSound_91 (by decide) ?_
          have hz := Option.some.inj hf
          subst hz
          exact hret _ _ _ _ mb_n0 dX5_isSound_92 hP hD hS
        · have hf := mb_if_f c_7 hf
          refine lv_iconst (v := 1) hx hb dX5_isSound_87 (by decide) ?_
          refine lv_goto (tgt := 92) hx hb dX5_isSound_88 (by decide) ?_
          have hz := Option.some.inj hf
          subst hz
          exact hret _ _ _ _ mb_n1 dX5_isSound_92 hP hD hS
  · have hf := mb_if_f c_35 hf
    by_cases c_36 : (P0 0 2) = (98 : Int32)
    · have hf := mb_if_t c_36 hf
      refine lv_lookup (tgt := 48) hx hb dX5_isSound_4 (by decide) (by rw [c_36]; try rfl) (by decide) ?_
      refine lv_aload_n hx hb dX5_isSound_48 rfl (lv_at hl 0 rfl) ?_
      refine va_get (D := D) (ci := 5) (v := .ref (b0 2)) (C := RX5) (T := TX5) (N := 4) hx hb hts iw_Script hown hK hP 0 rfl rfl 1 (by decide) fl_15 (fun _ h9 => h9) rfl dX5_isSound_49 ?_
      refine lv_iconst (v := 0) hx hb dX5_isSound_52 (by decide) ?_
      obtain ⟨h_10, hf⟩ := mb_chk_s hf
      refine va_iald hx hb hK hP 2 0 rfl rfl h_10 dX5_isSound_53 ?_
      obtain ⟨r_11, hz, hf⟩ := mb_bd1_s hf
      refine gc_i (r0 := r_11) (ws' := (wC_Script k b0 P0)) (wr := (wC_Script k b0 P0)) (va_runSN (As := [.int (P0 2 (0 : Int32).toNatClampNeg)]) (rest := []) ⟨hx, hb, hml, hown, hts⟩ (c_One_isUnitNumber l D k H.size (P0 2 (0 : Int32).toNatClampNeg) r_11 hz) ⟨va_cnB (own := RX5) (host := "OneMeasure") (index := 42) 1 hts gX5_isSound_X11_isUnitNumber_n42 rfl rfl rfl (hN.1 _ (List.mem_of_getElem? (i := 0) rfl)) (hts (.initialized RX11) (by decide +kernel)) (by decide +kernel) ⟨Nat.le_of_ble_eq_true rfl, Nat.le_of_ble_eq_true rfl⟩, hts (.static yX11_isUnitNumber) (by decide +kernel), trivial⟩ (gp_S hP hD hK hN [] (by decide +kernel) rfl) rfl rfl hl.1 rfl (lv_room (Nat.le_of_ble_eq_true rfl)) dX5_isSound_54 ⟨Nat.zero_le _, Nat.zero_le _⟩) hP hD hS hA [] [0, 1, 2] rfl rfl (by decide +kernel) (by decide +kernel) [0, 1, 2] (by decide +kernel) rfl (fun H locs hP hD hS => ?_)
      clear hz
      refine lv_if_eq (tgt := 91) hx hb dX5_isSound_57 (by decide) (fun c_18 => ?_) (fun c_18 => ?_)
      · have hf := mb_if_t c_18 hf
        refine lv_iconst (v := 0) hx hb dX5_isSound_91 (by decide) ?_
        have hz := Option.some.inj hf
        subst hz
        exact hret _ _ _ _ mb_n0 dX5_isSound_92 hP hD hS
      · have hf := mb_if_f c_18 hf
        refine lv_aload_n hx hb dX5_isSound_60 rfl (lv_at hl 0 rfl) ?_
        refine va_get (D := D) (ci := 5) (v := .ref (b0 2)) (C := RX5) (T := TX5) (N := 4) hx hb hts iw_Script hown hK hP 0 rfl rfl 1 (by decide) fl_15 (fun _ h9 => h9) rfl dX5_isSound_61 ?_
        refine lv_iconst (v := 1) hx hb dX5_isSound_64 (by decide) ?_
        obtain ⟨h_12, hf⟩ := mb_chk_s hf
        refine va_iald hx hb hK hP 2 0 rfl rfl h_12 dX5_isSound_65 ?_
        obtain ⟨r_13, hz, hf⟩ := mb_bd1_s hf
        refine gc_i (r0 := r_13) (ws' := (wC_Script k b0 P0)) (wr := (wC_Script k b0 P0)) (va_runSN (As := [.int (P0 2 (1 : Int32).toNatClampNeg)]) (rest := []) ⟨hx, hb, hml, hown, hts⟩ (c_One_isDistrict l D k H.size (P0 2 (1 : Int32).toNatClampNeg) r_13 hz) ⟨va_cnB (own := RX5) (host := "OneMeasure") (index := 46) 1 hts gX5_isSound_X11_isDistrict_n46 rfl rfl rfl (hN.1 _ (List.mem_of_getElem? (i := 1) rfl)) (hts (.initialized RX11) (by decide +kernel)) (by decide +kernel) ⟨Nat.le_of_ble_eq_true rfl, Nat.le_of_ble_eq_true rfl⟩, hts (.static yX11_isDistrict) (by decide +kernel), trivial⟩ (gp_S hP hD hK hN [] (by decide +kernel) rfl) rfl rfl hl.1 rfl (lv_room (Nat.le_of_ble_eq_true rfl)) dX5_isSound_66 ⟨Nat.zero_le _, Nat.zero_le _⟩) hP hD hS hA [] [0, 1, 2] rfl rfl (by decide +kernel) (by decide +kernel) [0, 1, 2] (by decide +kernel) rfl (fun H locs hP hD hS => ?_)
        clear hz
        refine lv_if_eq (tgt := 91) hx hb dX5_isSound_69 (by decide) (fun c_17 => ?_) (fun c_17 => ?_)
        · have hf := mb_if_t c_17 hf
          refine lv_iconst (v := 0) hx hb dX5_isSound_91 (by decide) ?_
          have hz := Option.some.inj hf
          subst hz
          exact hret _ _ _ _ mb_n0 dX5_isSound_92 hP hD hS
        · have hf := mb_if_f c_17 hf
          refine lv_aload_n hx hb dX5_isSound_72 rfl (lv_at hl 0 rfl) ?_
          refine va_get (D := D) (ci := 5) (v := .ref (b0 2)) (C := RX5) (T := TX5) (N := 4) hx hb hts iw_Script hown hK hP 0 rfl rfl 1 (by decide) fl_15 (fun _ h9 => h9) rfl dX5_isSound_73 ?_
          refine lv_iconst (v := 2) hx hb dX5_isSound_76 (by decide) ?_
          obtain ⟨h_14, hf⟩ := mb_chk_s hf
          refine va_iald hx hb hK hP 2 0 rfl rfl h_14 dX5_isSound_77 ?_
          refine lv_aload_n hx hb dX5_isSound_78 rfl (lv_at hl 0 rfl) ?_
          refine va_get (D := D) (ci := 5) (v := .ref (b0 2)) (C := RX5) (T := TX5) (N := 4) hx hb hts iw_Script hown hK hP 0 rfl rfl 1 (by decide) fl_15 (fun _ h9 => h9) rfl dX5_isSound_79 ?_
          refine lv_iconst (v := 3) hx hb dX5_isSound_82 (by decide) ?_
          obtain ⟨h_15, hf⟩ := mb_chk_s hf
          refine va_iald hx hb hK hP 2 0 rfl rfl h_15 dX5_isSound_83 ?_
          refine lv_icmp_gt (tgt := 91) hx hb dX5_isSound_84 (by decide) (fun c_16 => ?_) (fun c_16 => ?_)
          · have hf := mb_if_t c_16 hf
            refine lv_iconst (v := 0) hx hb dX5_isSound_91 (by decide) ?_
            have hz := Option.some.inj hf
            subst hz
            exact hret _ _ _ _ mb_n0 dX5_isSound_92 hP hD hS
          · have hf := mb_if_f c_16 hf
            refine lv_iconst (v := 1) hx hb dX5_isSound_87 (by decide) ?_
            refine lv_goto (tgt := 92) hx hb dX5_isSound_88 (by decide) ?_
            have hz := Option.some.inj hf
            subst hz
            exact hret _ _ _ _ mb_n1 dX5_isSound_92 hP hD hS
    · have hf := mb_if_f c_36 hf
      by_cases c_37 : (P0 0 2) = (104 : Int32)
      · have hf := mb_if_t c_37 hf
        refine lv_lookup (tgt := 134) hx hb dX5_isSound_4 (by decide) (by rw [c_37]; try rfl) (by decide) ?_
        refine lv_aload_n hx hb dX5_isSound_134 rfl (lv_at hl 0 rfl) ?_
        refine va_get (D := D) (ci := 5) (v := .ref (b0 2)) (C := RX5) (T := TX5) (N := 4) hx hb hts iw_Script hown hK hP 0 rfl rfl 1 (by decide) fl_15 (fun _ h9 => h9) rfl dX5_isSound_135 ?_
        refine lv_iconst (v := 0) hx hb dX5_isSound_138 (by decide) ?_
        obtain ⟨h_19, hf⟩ := mb_chk_s hf
        refine va_iald hx hb hK hP 2 0 rfl rfl h_19 dX5_isSound_139 ?_
        obtain ⟨r_20, hz, hf⟩ := mb_bd1_s hf
        refine gc_i (r0 := r_20) (ws' := (wC_Script k b0 P0)) (wr := (wC_Script k b0 P0)) (va_runSN (As := [.int (P0 2 (0 : Int32).toNatClampNeg)]) (rest := []) ⟨hx, hb, hml, hown, hts⟩ (c_One_isDistrict l D k H.size (P0 2 (0 : Int32).toNatClampNeg) r_20 hz) ⟨va_cnB (own := RX5) (host := "OneMeasure") (index := 46) 1 hts gX5_isSound_X11_isDistrict_n46 rfl rfl rfl (hN.1 _ (List.mem_of_getElem? (i := 1) rfl)) (hts (.initialized RX11) (by decide +kernel)) (by decide +kernel) ⟨Nat.le_of_ble_eq_true rfl, Nat.le_of_ble_eq_true rfl⟩, hts (.static yX11_isDistrict) (by decide +kernel), trivial⟩ (gp_S hP hD hK hN [] (by decide +kernel) rfl) rfl rfl hl.1 rfl (lv_room (Nat.le_of_ble_eq_true rfl)) dX5_isSound_140 ⟨Nat.zero_le _, Nat.zero_le _⟩) hP hD hS hA [] [0, 1, 2] rfl rfl (by decide +kernel) (by decide +kernel) [0, 1, 2] (by decide +kernel) rfl (fun H locs hP hD hS => ?_)
        clear hz
        refine lv_if_eq (tgt := 175) hx hb dX5_isSound_143 (by decide) (fun c_26 => ?_) (fun c_26 => ?_)
        · have hf := mb_if_t c_26 hf
          refine lv_iconst (v := 0) hx hb dX5_isSound_175 (by decide) ?_
          have hz := Option.some.inj hf
          subst hz
          exact hret _ _ _ _ mb_n0 dX5_isSound_176 hP hD hS
        · have hf := mb_if_f c_26 hf
          refine lv_aload_n hx hb dX5_isSound_146 rfl (lv_at hl 0 rfl) ?_
          refine va_get (D := D) (ci := 5) (v := .ref (b0 2)) (C := RX5) (T := TX5) (N := 4) hx hb hts iw_Script hown hK hP 0 rfl rfl 1 (by decide) fl_15 (fun _ h9 => h9) rfl dX5_isSound_147 ?_
          refine lv_iconst (v := 1) hx hb dX5_isSound_150 (by decide) ?_
          obtain ⟨h_21, hf⟩ := mb_chk_s hf
          refine va_iald hx hb hK hP 2 0 rfl rfl h_21 dX5_isSound_151 ?_
          refine lv_iconst (v := 1) hx hb dX5_isSound_152 (by decide) ?_
          refine lv_icmp_gt (tgt := 175) hx hb dX5_isSound_153 (by decide) (fun c_25 => ?_) (fun c_25 => ?_)
          · have hf := mb_if_t c_25 hf
            refine lv_iconst (v := 0) hx hb dX5_isSound_175 (by decide) ?_
            have hz := Option.some.inj hf
            subst hz
            exact hret _ _ _ _ mb_n0 dX5_isSound_176 hP hD hS
          · have hf := mb_if_f c_25 hf
            refine lv_aload_n hx hb dX5_isSound_156 rfl (lv_at hl 0 rfl) ?_
            refine va_get (D := D) (ci := 5) (v := .ref (b0 2)) (C := RX5) (T := TX5) (N := 4) hx hb hts iw_Script hown hK hP 0 rfl rfl 1 (by decide) fl_15 (fun _ h9 => h9) rfl dX5_isSound_157 ?_
            refine lv_iconst (v := 2) hx hb dX5_isSound_160 (by decide) ?_
            obtain ⟨h_22, hf⟩ := mb_chk_s hf
            refine va_iald hx hb hK hP 2 0 rfl rfl h_22 dX5_isSound_161 ?_
            refine lv_aload_n hx hb dX5_isSound_162 rfl (lv_at hl 0 rfl) ?_
            refine va_get (D := D) (ci := 5) (v := .ref (b0 2)) (C := RX5) (T := TX5) (N := 4) hx hb hts iw_Script hown hK hP 0 rfl rfl 1 (by decide) fl_15 (fun _ h9 => h9) rfl dX5_isSound_163 ?_
            refine lv_iconst (v := 3) hx hb dX5_isSound_166 (by decide) ?_
            obtain ⟨h_23, hf⟩ := mb_chk_s hf
            refine va_iald hx hb hK hP 2 0 rfl rfl h_23 dX5_isSound_167 ?_
            refine lv_icmp_gt (tgt := 175) hx hb dX5_isSound_168 (by decide) (fun c_24 => ?_) (fun c_24 => ?_)
            · have hf := mb_if_t c_24 hf
              refine lv_iconst (v := 0) hx hb dX5_isSound_175 (by decide) ?_
              have hz := Option.some.inj hf
              subst hz
              exact hret _ _ _ _ mb_n0 dX5_isSound_176 hP hD hS
            · have hf := mb_if_f c_24 hf
              refine lv_iconst (v := 1) hx hb dX5_isSound_171 (by decide) ?_
              refine lv_goto (tgt := 176) hx hb dX5_isSound_172 (by decide) ?_
              have hz := Option.some.inj hf
              subst hz
              exact hret _ _ _ _ mb_n1 dX5_isSound_176 hP hD hS
      · have hf := mb_if_f c_37 hf
        by_cases c_38 : (P0 0 2) = (110 : Int32)
        · have hf := mb_if_t c_38 hf
          refine lv_lookup (tgt := 93) hx hb dX5_isSound_4 (by decide) (by rw [c_38]; try rfl) (by decide) ?_
          refine lv_aload_n hx hb dX5_isSound_93 rfl (lv_at hl 0 rfl) ?_
          refine va_get (D := D) (ci := 5) (v := .ref (b0 2)) (C := RX5) (T := TX5) (N := 4) hx hb hts iw_Script hown hK hP 0 rfl rfl 1 (by decide) fl_15 (fun _ h9 => h9) rfl dX5_isSound_94 ?_
          refine lv_iconst (v := 0) hx hb dX5_isSound_97 (by decide) ?_
          obtain ⟨h_27, hf⟩ := mb_chk_s hf
          refine va_iald hx hb hK hP 2 0 rfl rfl h_27 dX5_isSound_98 ?_
          refine lv_bipush (v := 10) hx hb dX5_isSound_99 (by decide) ?_
          refine lv_icmp_ge (tgt := 132) hx hb dX5_isSound_101 (by decide) (fun c_34 => ?_) (fun c_34 => ?_)
          · have hf := mb_if_t c_34 hf
            refine lv_iconst (v := 0) hx hb dX5_isSound_132 (by decide) ?_
            have hz := Option.some.inj hf
            subst hz
            exact hret _ _ _ _ mb_n0 dX5_isSound_133 hP hD hS
          · have hf := mb_if_f c_34 hf
            refine lv_aload_n hx hb dX5_isSound_104 rfl (lv_at hl 0 rfl) ?_
            refine va_get (D := D) (ci := 5) (v := .ref (b0 2)) (C := RX5) (T := TX5) (N := 4) hx hb hts iw_Script hown hK hP 0 rfl rfl 1 (by decide) fl_15 (fun _ h9 => h9) rfl dX5_isSound_105 ?_
            refine lv_iconst (v := 1) hx hb dX5_isSound_108 (by decide) ?_
            obtain ⟨h_28, hf⟩ := mb_chk_s hf
            refine va_iald hx hb hK hP 2 0 rfl rfl h_28 dX5_isSound_109 ?_
            obtain ⟨r_29, hz, hf⟩ := mb_bd1_s hf
            refine gc_i (r0 := r_29) (ws' := (wC_Script k b0 P0)) (wr := (wC_Script k b0 P0)) (va_runSN (As := [.int (P0 2 (1 : Int32).toNatClampNeg)]) (rest := []) ⟨hx, hb, hml, hown, hts⟩ (c_One_isUnitNumber l D k H.size (P0 2 (1 : Int32).toNatClampNeg) r_29 hz) ⟨va_cnB (own := RX5) (host := "OneMeasure") (index := 42) 1 hts gX5_isSound_X11_isUnitNumber_n42 rfl rfl rfl (hN.1 _ (List.mem_of_getElem? (i := 0) rfl)) (hts (.initialized RX11) (by decide +kernel)) (by decide +kernel) ⟨Nat.le_of_ble_eq_true rfl, Nat.le_of_ble_eq_true rfl⟩, hts (.static yX11_isUnitNumber) (by decide +kernel), trivial⟩ (gp_S hP hD hK hN [] (by decide +kernel) rfl) rfl rfl hl.1 rfl (lv_room (Nat.le_of_ble_eq_true rfl)) dX5_isSound_110 ⟨Nat.zero_le _, Nat.zero_le _⟩) hP hD hS hA [] [0, 1, 2] rfl rfl (by decide +kernel) (by decide +kernel) [0, 1, 2] (by decide +kernel) rfl (fun H locs hP hD hS => ?_)
            clear hz
            refine lv_if_eq (tgt := 132) hx hb dX5_isSound_113 (by decide) (fun c_33 => ?_) (fun c_33 => ?_)
            · have hf := mb_if_t c_33 hf
              refine lv_iconst (v := 0) hx hb dX5_isSound_132 (by decide) ?_
              have hz := Option.some.inj hf
              subst hz
              exact hret _ _ _ _ mb_n0 dX5_isSound_133 hP hD hS
            · have hf := mb_if_f c_33 hf
              refine lv_aload_n hx hb dX5_isSound_116 rfl (lv_at hl 0 rfl) ?_
              refine va_get (D := D) (ci := 5) (v := .ref (b0 2)) (C := RX5) (T := TX5) (N := 4) hx hb hts iw_Script hown hK hP 0 rfl rfl 1 (by decide) fl_15 (fun _ h9 => h9) rfl dX5_isSound_117 ?_
              refine lv_iconst (v := 2) hx hb dX5_isSound_120 (by decide) ?_
              obtain ⟨h_30, hf⟩ := mb_chk_s hf
              refine va_iald hx hb hK hP 2 0 rfl rfl h_30 dX5_isSound_121 ?_
              obtain ⟨r_31, hz, hf⟩ := mb_bd1_s hf
              refine gc_i (r0 := r_31) (ws' := (wC_Script k b0 P0)) (wr := (wC_Script k b0 P0)) (va_runSN (As := [.int (P0 2 (2 : Int32).toNatClampNeg)]) (rest := []) ⟨hx, hb, hml, hown, hts⟩ (c_One_isDistrict l D k H.size (P0 2 (2 : Int32).toNatClampNeg) r_31 hz) ⟨va_cnB (own := RX5) (host := "OneMeasure") (index := 46) 1 hts gX5_isSound_X11_isDistrict_n46 rfl rfl rfl (hN.1 _ (List.mem_of_getElem? (i := 1) rfl)) (hts (.initialized RX11) (by decide +kernel)) (by decide +kernel) ⟨Nat.le_of_ble_eq_true rfl, Nat.le_of_ble_eq_true rfl⟩, hts (.static yX11_isDistrict) (by decide +kernel), trivial⟩ (gp_S hP hD hK hN [] (by decide +kernel) rfl) rfl rfl hl.1 rfl (lv_room (Nat.le_of_ble_eq_true rfl)) dX5_isSound_122 ⟨Nat.zero_le _, Nat.zero_le _⟩) hP hD hS hA [] [0, 1, 2] rfl rfl (by decide +kernel) (by decide +kernel) [0, 1, 2] (by decide +kernel) rfl (fun H locs hP hD hS => ?_)
              clear hz
              refine lv_if_eq (tgt := 132) hx hb dX5_isSound_125 (by decide) (fun c_32 => ?_) (fun c_32 => ?_)
              · have hf := mb_if_t c_32 hf
                refine lv_iconst (v := 0) hx hb dX5_isSound_132 (by decide) ?_
                have hz := Option.some.inj hf
                subst hz
                exact hret _ _ _ _ mb_n0 dX5_isSound_133 hP hD hS
              · have hf := mb_if_f c_32 hf
                refine lv_iconst (v := 1) hx hb dX5_isSound_128 (by decide) ?_
                refine lv_goto (tgt := 133) hx hb dX5_isSound_129 (by decide) ?_
                have hz := Option.some.inj hf
                subst hz
                exact hret _ _ _ _ mb_n1 dX5_isSound_133 hP hD hS
        · have hf := mb_if_f c_38 hf
          refine lv_lookup (tgt := 177) hx hb dX5_isSound_4 (by decide) (mb_lout4 (mb_ni c_35 (by decide)) (mb_ni c_36 (by decide)) (mb_ni c_37 (by decide)) (mb_ni c_38 (by decide))) (by decide) ?_
          refine lv_iconst (v := 0) hx hb dX5_isSound_177 (by decide) ?_
          have hz := Option.some.inj hf
          subst hz
          exact hret _ _ _ _ mb_n0 dX5_isSound_178 hP hD hS
def f_Script_readItem_15_b (K72_7 : Int32 → PI → Option (Int32 × PI)) (self_16 : Int32 → Int32 → PI → Option (Int32 × PI)) (x2_13 : Int32) (x3_14 : Int32) (P0_15 : PI) : Option (Int32 × PI) := (if (4 : Int32) ≤ x3_14 then K72_7 x2_13 P0_15 else mb_bd2 (f_Script_readNumber P0_15 x2_13 x3_14) (fun (r_17 : Int32) (P0_18 : PI) => mb_let r_17 (fun (x4_19 : Int32) => (if x4_19 = (-1 : Int32) then some ((-1 : Int32), P0_18) else mb_bd1 (f_Script_byteAt P0_18 x4_19) (fun (r_20 : Int32) => mb_jn (fun (y_21 : Int32) (y_22 : Int32) => (if y_22 = y_21 then mb_let (x4_19 + (1 : Int32)) (fun (x2_25 : Int32) => mb_let (x3_14 + (1 : Int32)) (fun (x3_26 : Int32) => self_16 x2_25 x3_26 P0_18)) else some ((-1 : Int32), P0_18))) (fun J56_23 => (if (4 : Int32) ≤ (x3_14 + (1 : Int32)) then J56_23 (59 : Int32) r_20 else J56_23 (44 : Int32) r_20)))))))
def f_Script_readItem_15 (K72_7 : Int32 → PI → Option (Int32 × PI)) : Nat → Int32 → Int32 → PI → Option (Int32 × PI)
  | 0, _, _, _ => none
  | n + 1, x2_13, x3_14, P0_15 => f_Script_readItem_15_b K72_7 (f_Script_readItem_15 K72_7 n) x2_13 x3_14 P0_15
def f_Script_readItem (P0 : PI) (x1 : Int32) : Option (Int32 × PI) := mb_bd1 (f_Script_byteAt P0 x1) (fun (r_1 : Int32) => mb_let (mb_uo P0 2 r_1) (fun (P0_2 : PI) => mb_let (x1 + (1 : Int32)) (fun (x2_3 : Int32) => mb_let (0 : Int32) (fun (x3_4 : Int32) => mb_jn (fun (x2_5 : Int32) (P0_6 : PI) => mb_bd1 (f_Script_isSound P0_6) (fun (r_9 : Int32) => (if r_9 = 0 then some ((-1 : Int32), P0_6) else some (x2_5, P0_6)))) (fun K72_7 => f_Script_readItem_15 K72_7 mb_fu x2_3 x3_4 P0_2)))))
def rm_Script_readItem : Room := { frames := 3, cells := 0, slots := 0, locals := 62 }
set_option maxHeartbeats 4000000 in
set_option maxRecDepth 100000 in
theorem c_Script_readItem (l : Launch) (D : va_G) (k : Nat → ClassId) (sz : Nat) (b0 : Nat → Nat) (P0 : PI) (x1 : Int32) (z : Int32 × PI) (hf : f_Script_readItem P0 x1 = some z) : Met l yX5_readItem wsX5_readItem rm_Script_readItem (va_Pc [.ref (b0 0), .int x1] (gw_pre D vwCl (tyL k) (wC_Script k b0 P0) sz)) (va_Qi (fun (r : Int32) (_ : Unit) => r = z.1) (gw_b D vwCl (tyL k) (va_A (wC_Script k b0 P0) sz) (wC_Script k b0 z.2)) (va_A (wC_Script k b0 P0) sz)) 0 0 (va_A (wC_Script k b0 P0) sz) := by
  refine gm_i (cc := cX5_readItem) (maxL := 5) (by decide) rfl (Nat.le_of_ble_eq_true rfl) ?_
  intro p e s m args below meth c A Q ls H locs hx hb hml hown hts hK hN hA hP hD hS hl hret
  have hown : s.vm.findClass RX5 = some m.cls := hown
  have hl : lv_has ls 5 [(0, .ref (b0 0)), (1, .int x1)] := hl
  have iw_Script : ∀ w ∈ u_ws RX5 TX5 4, w ∈ wsX5_readItem := by decide +kernel
  have fl_18 := hts (.fieldLink RX5 18 "OneMeasure$Script" "letter" "I") (by decide +kernel)
  unfold f_Script_readItem at hf
  refine lv_aload_n hx hb dX5_readItem_0 rfl (lv_at hl 0 rfl) ?_
  refine lv_aload_n hx hb dX5_readItem_1 rfl (lv_at hl 0 rfl) ?_
  refine lv_iload_n hx hb dX5_readItem_2 rfl (lv_at hl 1 rfl) ?_
  obtain ⟨r_1, hz, hf⟩ := mb_bd1_s hf
  refine gc_i (r0 := r_1) (ws' := (wC_Script k b0 P0)) (wr := ([] : va_W)) (va_runV (As := [.int x1]) (rest := [.ref (b0 0)]) ⟨hx, hb, hml, hown, hts⟩ (c_Script_byteAt l D k H.size b0 P0 x1 r_1 hz) (cwV 1 hts gX5_readItem_X5_byteAt rfl rfl rfl (by decide +kernel) ⟨Nat.le_of_ble_eq_true rfl, Nat.le_of_ble_eq_true rfl⟩) (gp_V (ci := 5) (q0 := 0) (q := (RX5, TX5, 4)) hP hD hK hN [0, 1, 2] (by decide +kernel) rfl rfl rfl) rfl rfl hl.1 rfl (lv_room (Nat.le_of_ble_eq_true rfl)) dX5_readItem_3 ⟨Nat.zero_le _, Nat.zero_le _⟩) hP hD hS hA [0, 1, 2] [] rfl rfl (by decide +kernel) (by decide +kernel) [0, 1, 2] (by decide +kernel) rfl (fun H locs hP hD hS => ?_)
  clear hz
  obtain ⟨P0_2, e_, hf⟩ := mb_let_s hf
  refine va_put (D := D) (ci := 5) (v := .int r_1) (ty := .int) (C := RX5) (T := TX5) (N := 4) hx hb hts iw_Script tyX5 tyX5_ok nmX5 hown hK hP hD hS 0 rfl rfl 2 (by decide) fl_18 (fun _ h9 => h9) rfl (by decide +kernel) rfl rfl (Nat.le_of_ble_eq_true rfl) dX5_readItem_6 (fun H locs hP hD hS => ?_)
  have hP : va_P D vwCl (wC_Script k b0 P0_2) H := by rw [e_]; exact hP
  have hD : va_D A (wC_Script k b0 P0_2) := by rw [e_]; exact hD
  clear e_
  refine lv_iload_n hx hb dX5_readItem_9 rfl (lv_at hl 1 rfl) ?_
  refine lv_iconst (v := 1) hx hb dX5_readItem_10 (by decide) ?_
  refine lv_iadd hx hb dX5_readItem_11 ?_
  obtain ⟨x2_3, e_, hf⟩ := mb_let_s hf
  refine mb_topi e_ ?_
  clear e_
  refine lv_istore_n (lv' := [(2, .int x2_3), (0, .ref (b0 0)), (1, .int x1)]) hx hb dX5_readItem_12 rfl hl (by decide) rfl (fun ls hl => ?_)
  refine lv_iconst (v := 0) hx hb dX5_readItem_13 (by decide) ?_
  obtain ⟨x3_4, e_, hf⟩ := mb_let_s hf
  refine mb_topi e_ ?_
  clear e_
  refine lv_istore_n (lv' := [(3, .int x3_4), (2, .int x2_3), (0, .ref (b0 0)), (1, .int x1)]) hx hb dX5_readItem_14 rfl hl (by decide) rfl (fun ls hl => ?_)
  obtain ⟨K72_7, eK72_7, hf⟩ := mb_jn_s hf
  have k72_8 : ∀ (x2_5 : Int32) (P0_6 : PI) (H : Heap) (locs : List Loc) (ls : Array Slot), K72_7 x2_5 P0_6 = some z → va_P D vwCl (wC_Script k b0 P0_6) H → va_D A (wC_Script k b0 P0_6) → va_S A s.heap H locs → lv_has ls 5 [(0, .ref (b0 0)), (2, .int x2_5)] → W p l e rm_Script_readItem s m args below meth c H locs 0 0 Q (F0 m 72 ls []) := by
    intro x2_5 P0_6 H locs ls hf hP hD hS hl
    have hf := mb_j2 eK72_7 hf
    refine lv_aload_n hx hb dX5_readItem_72 rfl (lv_at hl 0 rfl) ?_
    obtain ⟨r_9, hz, hf⟩ := mb_bd1_s hf
    refine gc_i (r0 := r_9) (ws' := (wC_Script k b0 P0_6)) (wr := ([] : va_W)) (va_runV (As := []) (rest := []) ⟨hx, hb, hml, hown, hts⟩ (c_Script_isSound l D k H.size b0 P0_6 r_9 hz) (cwV 0 hts gX5_readItem_X5_isSound rfl rfl rfl (by decide +kernel) ⟨Nat.le_of_ble_eq_true rfl, Nat.le_of_ble_eq_true rfl⟩) (gp_V (ci := 5) (q0 := 0) (q := (RX5, TX5, 4)) hP hD hK hN [0, 1, 2] (by decide +kernel) rfl rfl rfl) rfl rfl hl.1 rfl (lv_room (Nat.le_of_ble_eq_true rfl)) dX5_readItem_73 ⟨Nat.zero_le _, Nat.zero_le _⟩) hP hD hS hA [0, 1, 2] [] rfl rfl (by decide +kernel) (by decide +kernel) [0, 1, 2] (by decide +kernel) rfl (fun H locs hP hD hS => ?_)
    clear hz
    refine lv_if_eq (tgt := 83) hx hb dX5_readItem_76 (by decide) (fun c_10 => ?_) (fun c_10 => ?_)
    · have hf := mb_if_t c_10 hf
      refine lv_iconst (v := (-1)) hx hb dX5_readItem_83 (by decide) ?_
      have hz := Option.some.inj hf
      subst hz
      exact hret _ _ _ _ dX5_readItem_84 hP hD hS
    · have hf := mb_if_f c_10 hf
      refine lv_iload_n hx hb dX5_readItem_79 rfl (lv_at hl 1 rfl) ?_
      refine lv_goto (tgt := 84) hx hb dX5_readItem_80 (by decide) ?_
      have hz := Option.some.inj hf
      subst hz
      exact hret _ _ _ _ dX5_readItem_84 hP hD hS
  have lp15_11 : ∀ (n : Nat) (x2_13 : Int32) (x3_14 : Int32) (P0_15 : PI) (H : Heap) (locs : List Loc) (ls : Array Slot), f_Script_readItem_15 K72_7 n x2_13 x3_14 P0_15 = some z → va_P D vwCl (wC_Script k b0 P0_15) H → va_D A (wC_Script k b0 P0_15) → va_S A s.heap H locs → lv_has ls 5 [(0, .ref (b0 0)), (2, .int x2_13), (3, .int x3_14)] → W p l e rm_Script_readItem s m args below meth c H locs 0 0 Q (F0 m 15 ls []) := by
    intro n
    induction n with
    | zero =>
      intro x2_13 x3_14 P0_15 H locs ls hf
      exact nomatch (show (none : Option (Int32 × PI)) = some z from hf)
    | succ n ih_12 =>
      intro x2_13 x3_14 P0_15 H locs ls hf hP hD hS hl
      have hf : f_Script_readItem_15_b K72_7 (f_Script_readItem_15 K72_7 n) x2_13 x3_14 P0_15 = some z := hf
      unfold f_Script_readItem_15_b at hf
      refine lv_iload_n hx hb dX5_readItem_15 rfl (lv_at hl 2 rfl) ?_
      refine lv_iconst (v := 4) hx hb dX5_readItem_16 (by decide) ?_
      refine lv_icmp_ge (tgt := 72) hx hb dX5_readItem_17 (by decide) (fun c_30 => ?_) (fun c_30 => ?_)
      · have hf := mb_if_t c_30 hf
        exact k72_8 x2_13 P0_15 _ _ _ hf hP hD hS (lv_sub hl [0, 1] rfl)
      · have hf := mb_if_f c_30 hf
        refine lv_aload_n hx hb dX5_readItem_20 rfl (lv_at hl 0 rfl) ?_
        refine lv_iload_n hx hb dX5_readItem_21 rfl (lv_at hl 1 rfl) ?_
        refine lv_iload_n hx hb dX5_readItem_22 rfl (lv_at hl 2 rfl) ?_
        obtain ⟨r_17, P0_18, hz, hf⟩ := mb_bd2_s hf
        refine gc_i (r0 := r_17) (ws' := (wC_Script k b0 P0_18)) (wr := ([] : va_W)) (va_runV (As := [.int x2_13, .int x3_14]) (rest := []) ⟨hx, hb, hml, hown, hts⟩ (c_Script_readNumber l D k H.size b0 P0_15 x2_13 x3_14 (r_17, P0_18) hz) (cwV 2 hts gX5_readItem_X5_readNumber rfl rfl rfl (by decide +kernel) ⟨Nat.le_of_ble_eq_true rfl, Nat.le_of_ble_eq_true rfl⟩) (gp_V (ci := 5) (q0 := 0) (q := (RX5, TX5, 4)) hP hD hK hN [0, 1, 2] (by decide +kernel) rfl rfl rfl) rfl rfl hl.1 rfl (lv_room (Nat.le_of_ble_eq_true rfl)) dX5_readItem_23 ⟨Nat.zero_le _, Nat.zero_le _⟩) hP hD hS hA [0, 1, 2] [] rfl rfl (by decide +kernel) (by decide +kernel) [0, 1, 2] (by decide +kernel) rfl (fun H locs hP hD hS => ?_)
        clear hz
        obtain ⟨x4_19, e_, hf⟩ := mb_let_s hf
        refine mb_topi e_ ?_
        clear e_
        refine lv_istore (lv' := [(4, .int x4_19), (0, .ref (b0 0)), (2, .int x2_13), (3, .int x3_14)]) hx hb dX5_readItem_26 hl (by decide) rfl (fun ls hl => ?_)
        refine lv_iload hx hb dX5_readItem_28 (lv_at hl 0 rfl) ?_
        refine lv_iconst (v := (-1)) hx hb dX5_readItem_30 (by decide) ?_
        refine lv_icmp_ne (tgt := 36) hx hb dX5_readItem_31 (by decide) (fun c_29 => ?_) (fun c_29 => ?_)
        · have hf := mb_if_f c_29 hf
          refine lv_aload_n hx hb dX5_readItem_36 rfl (lv_at hl 1 rfl) ?_
          refine lv_iload hx hb dX5_readItem_37 (lv_at hl 0 rfl) ?_
          obtain ⟨r_20, hz, hf⟩ := mb_bd1_s hf
          refine gc_i (r0 := r_20) (ws' := (wC_Script k b0 P0_18)) (wr := ([] : va_W)) (va_runV (As := [.int x4_19]) (rest := []) ⟨hx, hb, hml, hown, hts⟩ (c_Script_byteAt l D k H.size b0 P0_18 x4_19 r_20 hz) (cwV 1 hts gX5_readItem_X5_byteAt rfl rfl rfl (by decide +kernel) ⟨Nat.le_of_ble_eq_true rfl, Nat.le_of_ble_eq_true rfl⟩) (gp_V (ci := 5) (q0 := 0) (q := (RX5, TX5, 4)) hP hD hK hN [0, 1, 2] (by decide +kernel) rfl rfl rfl) rfl rfl hl.1 rfl (lv_room (Nat.le_of_ble_eq_true rfl)) dX5_readItem_39 ⟨Nat.zero_le _, Nat.zero_le _⟩) hP hD hS hA [0, 1, 2] [] rfl rfl (by decide +kernel) (by decide +kernel) [0, 1, 2] (by decide +kernel) rfl (fun H locs hP hD hS => ?_)
          clear hz
          refine lv_iload_n hx hb dX5_readItem_42 rfl (lv_at hl 3 rfl) ?_
          refine lv_iconst (v := 1) hx hb dX5_readItem_43 (by decide) ?_
          refine lv_iadd hx hb dX5_readItem_44 ?_
          refine lv_iconst (v := 4) hx hb dX5_readItem_45 (by decide) ?_
          obtain ⟨J56_23, eJ56_23, hf⟩ := mb_jn_s hf
          have j56_24 : ∀ (y_21 : Int32) (y_22 : Int32) (H : Heap) (locs : List Loc) (ls : Array Slot), J56_23 y_21 y_22 = some z → va_P D vwCl (wC_Script k b0 P0_18) H → va_D A (wC_Script k b0 P0_18) → va_S A s.heap H locs → lv_has ls 5 [(0, .ref (b0 0)), (3, .int x3_14), (4, .int x4_19)] → W p l e rm_Script_readItem s m args below meth c H locs 0 0 Q (F0 m 56 ls [.int y_21, .int y_22]) := by
            intro y_21 y_22 H locs ls hf hP hD hS hl
            have hf := mb_j2 eJ56_23 hf
            refine lv_icmp_eq (tgt := 61) hx hb dX5_readItem_56 (by decide) (fun c_27 => ?_) (fun c_27 => ?_)
            · have hf := mb_if_t c_27 hf
              refine lv_iload hx hb dX5_readItem_61 (lv_at hl 2 rfl) ?_
              refine lv_iconst (v := 1) hx hb dX5_readItem_63 (by decide) ?_
              refine lv_iadd hx hb dX5_readItem_64 ?_
              obtain ⟨x2_25, e_, hf⟩ := mb_let_s hf
              refine mb_topi e_ ?_
              clear e_
              refine lv_istore_n (lv' := [(2, .int x2_25), (0, .ref (b0 0)), (3, .int x3_14), (4, .int x4_19)]) hx hb dX5_readItem_65 rfl hl (by decide) rfl (fun ls hl => ?_)
              obtain ⟨x3_26, e_, hf⟩ := mb_let_s hf
              refine lv_iinc (v := x3_26) (lv' := [(3, .int x3_26), (2, .int x2_25), (0, .ref (b0 0)), (4, .int x4_19)]) hx hb dX5_readItem_66 hl (k := 2) rfl (by rw [e_]; rfl) (by decide) rfl (fun ls hl => ?_)
              clear e_
              refine lv_goto (tgt := 15) hx hb dX5_readItem_69 (by decide) ?_
              exact ih_12 x2_25 x3_26 P0_18 _ _ _ hf hP hD hS (lv_sub hl [2, 1, 0] rfl)
            · have hf := mb_if_f c_27 hf
              refine lv_iconst (v := (-1)) hx hb dX5_readItem_59 (by decide) ?_
              have hz := Option.some.inj hf
              subst hz
              exact hret _ _ _ _ dX5_readItem_60 hP hD hS
          refine lv_icmp_ge (tgt := 54) hx hb dX5_readItem_46 (by decide) (fun c_28 => ?_) (fun c_28 => ?_)
          · have hf := mb_if_t c_28 hf
            refine lv_bipush (v := 59) hx hb dX5_readItem_54 (by decide) ?_
            exact j56_24 (59 : Int32) r_20 _ _ _ hf hP hD hS (lv_sub hl [1, 3, 0] rfl)
          · have hf := mb_if_f c_28 hf
            refine lv_bipush (v := 44) hx hb dX5_readItem_49 (by decide) ?_
            refine lv_goto (tgt := 56) hx hb dX5_readItem_51 (by decide) ?_
            exact j56_24 (44 : Int32) r_20 _ _ _ hf hP hD hS (lv_sub hl [1, 3, 0] rfl)
        · have hf := mb_if_t c_29 hf
          refine lv_iconst (v := (-1)) hx hb dX5_readItem_34 (by decide) ?_
          have hz := Option.some.inj hf
          subst hz
          exact hret _ _ _ _ dX5_readItem_35 hP hD hS
  exact lp15_11 mb_fu x2_3 x3_4 P0_2 _ _ _ hf hP hD hS (lv_sub hl [2, 1, 0] rfl)
def f_Script_firstFault_4_b (self_8 : Int32 → Int32 → PI → Option (Int32 × PI)) (x1_5 : Int32) (x2_6 : Int32) (P0_7 : PI) : Option (Int32 × PI) := (if (300 : Int32) ≤ x2_6 then some ((-4 : Int32), P0_7) else (if (P0_7 0 3) ≤ x1_5 then some ((-4 : Int32), P0_7) else mb_bd2 (f_Script_readItem P0_7 x1_5) (fun (r_9 : Int32) (P0_10 : PI) => mb_let r_9 (fun (x3_11 : Int32) => (if x3_11 = (-1 : Int32) then some (x1_5, P0_10) else mb_let x3_11 (fun (x1_12 : Int32) => mb_let (x2_6 + (1 : Int32)) (fun (x2_13 : Int32) => self_8 x1_12 x2_13 P0_10)))))))
def f_Script_firstFault_4 : Nat → Int32 → Int32 → PI → Option (Int32 × PI)
  | 0, _, _, _ => none
  | n + 1, x1_5, x2_6, P0_7 => f_Script_firstFault_4_b  (f_Script_firstFault_4  n) x1_5 x2_6 P0_7
def f_Script_firstFault (P0 : PI) : Option (Int32 × PI) := mb_let (0 : Int32) (fun (x1_1 : Int32) => mb_let (0 : Int32) (fun (x2_2 : Int32) => f_Script_firstFault_4  mb_fu x1_1 x2_2 P0))
def rm_Script_firstFault : Room := { frames := 4, cells := 0, slots := 0, locals := 86 }
set_option maxHeartbeats 4000000 in
set_option maxRecDepth 100000 in
theorem c_Script_firstFault (l : Launch) (D : va_G) (k : Nat → ClassId) (sz : Nat) (b0 : Nat → Nat) (P0 : PI) (z : Int32 × PI) (hf : f_Script_firstFault P0 = some z) : Met l yX5_firstFault wsX5_firstFault rm_Script_firstFault (va_Pc [.ref (b0 0)] (gw_pre D vwCl (tyL k) (wC_Script k b0 P0) sz)) (va_Qi (fun (r : Int32) (_ : Unit) => r = z.1) (gw_b D vwCl (tyL k) (va_A (wC_Script k b0 P0) sz) (wC_Script k b0 z.2)) (va_A (wC_Script k b0 P0) sz)) 0 0 (va_A (wC_Script k b0 P0) sz) := by
  refine gm_i (cc := cX5_firstFault) (maxL := 4) (by decide) rfl (Nat.le_of_ble_eq_true rfl) ?_
  intro p e s m args below meth c A Q ls H locs hx hb hml hown hts hK hN hA hP hD hS hl hret
  have hown : s.vm.findClass RX5 = some m.cls := hown
  have hl : lv_has ls 4 [(0, .ref (b0 0))] := hl
  have iw_Script : ∀ w ∈ u_ws RX5 TX5 4, w ∈ wsX5_firstFault := by decide +kernel
  have fl_22 := hts (.fieldLink RX5 22 "OneMeasure$Script" "length" "I") (by decide +kernel)
  unfold f_Script_firstFault at hf
  refine lv_iconst (v := 0) hx hb dX5_firstFault_0 (by decide) ?_
  obtain ⟨x1_1, e_, hf⟩ := mb_let_s hf
  refine mb_topi e_ ?_
  clear e_
  refine lv_istore_n (lv' := [(1, .int x1_1), (0, .ref (b0 0))]) hx hb dX5_firstFault_1 rfl hl (by decide) rfl (fun ls hl => ?_)
  refine lv_iconst (v := 0) hx hb dX5_firstFault_2 (by decide) ?_
  obtain ⟨x2_2, e_, hf⟩ := mb_let_s hf
  refine mb_topi e_ ?_
  clear e_
  refine lv_istore_n (lv' := [(2, .int x2_2), (1, .int x1_1), (0, .ref (b0 0))]) hx hb dX5_firstFault_3 rfl hl (by decide) rfl (fun ls hl => ?_)
  have lp4_3 : ∀ (n : Nat) (x1_5 : Int32) (x2_6 : Int32) (P0_7 : PI) (H : Heap) (locs : List Loc) (ls : Array Slot), f_Script_firstFault_4  n x1_5 x2_6 P0_7 = some z → va_P D vwCl (wC_Script k b0 P0_7) H → va_D A (wC_Script k b0 P0_7) → va_S A s.heap H locs → lv_has ls 4 [(0, .ref (b0 0)), (1, .int x1_5), (2, .int x2_6)] → W p l e rm_Script_firstFault s m args below meth c H locs 0 0 Q (F0 m 4 ls []) := by
    intro n
    induction n with
    | zero =>
      intro x1_5 x2_6 P0_7 H locs ls hf
      exact nomatch (show (none : Option (Int32 × PI)) = some z from hf)
    | succ n ih_4 =>
      intro x1_5 x2_6 P0_7 H locs ls hf hP hD hS hl
      have hf : f_Script_firstFault_4_b  (f_Script_firstFault_4  n) x1_5 x2_6 P0_7 = some z := hf
      unfold f_Script_firstFault_4_b at hf
      refine lv_iload_n hx hb dX5_firstFault_4 rfl (lv_at hl 2 rfl) ?_
      refine lv_sipush (v := 300) hx hb dX5_firstFault_5 (by decide) ?_
      refine lv_icmp_ge (tgt := 40) hx hb dX5_firstFault_8 (by decide) (fun c_16 => ?_) (fun c_16 => ?_)
      · have hf := mb_if_t c_16 hf
        refine lv_bipush (v := (-4)) hx hb dX5_firstFault_40 (by decide) ?_
        have hz := Option.some.inj hf
        subst hz
        exact hret _ _ _ _ dX5_firstFault_42 hP hD hS
      · have hf := mb_if_f c_16 hf
        refine lv_iload_n hx hb dX5_firstFault_11 rfl (lv_at hl 1 rfl) ?_
        refine lv_aload_n hx hb dX5_firstFault_12 rfl (lv_at hl 0 rfl) ?_
        refine va_get (D := D) (ci := 5) (v := .int (P0_7 0 3)) (C := RX5) (T := TX5) (N := 4) hx hb hts iw_Script hown hK hP 0 rfl rfl 3 (by decide) fl_22 (fun _ h9 => h9) rfl dX5_firstFault_13 ?_
        refine lv_icmp_ge (tgt := 40) hx hb dX5_firstFault_16 (by decide) (fun c_15 => ?_) (fun c_15 => ?_)
        · have hf := mb_if_t c_15 hf
          refine lv_bipush (v := (-4)) hx hb dX5_firstFault_40 (by decide) ?_
          have hz := Option.some.inj hf
          subst hz
          exact hret _ _ _ _ dX5_firstFault_42 hP hD hS
        · have hf := mb_if_f c_15 hf
          refine lv_aload_n hx hb dX5_firstFault_19 rfl (lv_at hl 0 rfl) ?_
          refine lv_iload_n hx hb dX5_firstFault_20 rfl (lv_at hl 1 rfl) ?_
          obtain ⟨r_9, P0_10, hz, hf⟩ := mb_bd2_s hf
          refine gc_i (r0 := r_9) (ws' := (wC_Script k b0 P0_10)) (wr := ([] : va_W)) (va_runV (As := [.int x1_5]) (rest := []) ⟨hx, hb, hml, hown, hts⟩ (c_Script_readItem l D k H.size b0 P0_7 x1_5 (r_9, P0_10) hz) (cwV 1 hts gX5_firstFault_X5_readItem rfl rfl rfl (by decide +kernel) ⟨Nat.le_of_ble_eq_true rfl, Nat.le_of_ble_eq_true rfl⟩) (gp_V (ci := 5) (q0 := 0) (q := (RX5, TX5, 4)) hP hD hK hN [0, 1, 2] (by decide +kernel) rfl rfl rfl) rfl rfl hl.1 rfl (lv_room (Nat.le_of_ble_eq_true rfl)) dX5_firstFault_21 ⟨Nat.zero_le _, Nat.zero_le _⟩) hP hD hS hA [0, 1, 2] [] rfl rfl (by decide +kernel) (by decide +kernel) [0, 1, 2] (by decide +kernel) rfl (fun H locs hP hD hS => ?_)
          clear hz
          obtain ⟨x3_11, e_, hf⟩ := mb_let_s hf
          refine mb_topi e_ ?_
          clear e_
          refine lv_istore_n (lv' := [(3, .int x3_11), (0, .ref (b0 0)), (1, .int x1_5), (2, .int x2_6)]) hx hb dX5_firstFault_24 rfl hl (by decide) rfl (fun ls hl => ?_)
          refine lv_iload_n hx hb dX5_firstFault_25 rfl (lv_at hl 0 rfl) ?_
          refine lv_iconst (v := (-1)) hx hb dX5_firstFault_26 (by decide) ?_
          refine lv_icmp_ne (tgt := 32) hx hb dX5_firstFault_27 (by decide) (fun c_14 => ?_) (fun c_14 => ?_)
          · have hf := mb_if_f c_14 hf
            refine lv_iload_n hx hb dX5_firstFault_32 rfl (lv_at hl 0 rfl) ?_
            obtain ⟨x1_12, e_, hf⟩ := mb_let_s hf
            refine mb_topi e_ ?_
            clear e_
            refine lv_istore_n (lv' := [(1, .int x1_12), (3, .int x3_11), (0, .ref (b0 0)), (2, .int x2_6)]) hx hb dX5_firstFault_33 rfl hl (by decide) rfl (fun ls hl => ?_)
            obtain ⟨x2_13, e_, hf⟩ := mb_let_s hf
            refine lv_iinc (v := x2_13) (lv' := [(2, .int x2_13), (1, .int x1_12), (3, .int x3_11), (0, .ref (b0 0))]) hx hb dX5_firstFault_34 hl (k := 3) rfl (by rw [e_]; rfl) (by decide) rfl (fun ls hl => ?_)
            clear e_
            refine lv_goto (tgt := 4) hx hb dX5_firstFault_37 (by decide) ?_
            exact ih_4 x1_12 x2_13 P0_10 _ _ _ hf hP hD hS (lv_sub hl [3, 1, 0] rfl)
          · have hf := mb_if_t c_14 hf
            refine lv_iload_n hx hb dX5_firstFault_30 rfl (lv_at hl 2 rfl) ?_
            have hz := Option.some.inj hf
            subst hz
            exact hret _ _ _ _ dX5_firstFault_31 hP hD hS
  exact lp4_3 mb_fu x1_1 x2_2 P0 _ _ _ hf hP hD hS (lv_sub hl [2, 1, 0] rfl)
def f_One_fault (P1 : PI) : Option (Int32 × PI) := mb_bd2 (f_Script_firstFault P1) (fun (r_1 : Int32) (P1_2 : PI) => some (r_1, P1_2))
def rm_One_fault : Room := { frames := 5, cells := 0, slots := 0, locals := 109 }
set_option maxHeartbeats 4000000 in
set_option maxRecDepth 100000 in
theorem c_One_fault (l : Launch) (D : va_G) (k : Nat → ClassId) (sz : Nat) (a0 : Nat → Nat → Nat) (P0 : PI) (P1 : PI) (z : Int32 × PI) (hf : f_One_fault P1 = some z) : Met l yX11_fault wsX11_fault rm_One_fault (va_Pc [.ref (a0 0 0)] (gw_pre D vwCl (tyL k) (wC_One k a0 P0 ++ (wC_Script k (a0 6) P1)) sz)) (va_Qi (fun (r : Int32) (_ : Unit) => r = z.1) (gw_b D vwCl (tyL k) (va_A (wC_One k a0 P0 ++ (wC_Script k (a0 6) P1)) sz) (wC_One k a0 P0 ++ (wC_Script k (a0 6) z.2))) (va_A (wC_One k a0 P0 ++ (wC_Script k (a0 6) P1)) sz)) 0 0 (va_A (wC_One k a0 P0 ++ (wC_Script k (a0 6) P1)) sz) := by
  refine gm_i (cc := cX11_fault) (maxL := 1) (by decide) rfl (Nat.le_of_ble_eq_true rfl) ?_
  intro p e s m args below meth c A Q ls H locs hx hb hml hown hts hK hN hA hP hD hS hl hret
  have hown : s.vm.findClass RX11 = some m.cls := hown
  have hl : lv_has ls 1 [(0, .ref (a0 0 0))] := hl
  have iw_One : ∀ w ∈ u_ws RX11 TX11 16, w ∈ wsX11_fault := by decide +kernel
  have fl_47 := hts (.fieldLink RX11 47 "OneMeasure" "script" "LOneMeasure$Script;") (by decide +kernel)
  unfold f_One_fault at hf
  refine lv_aload_n hx hb dX11_fault_0 rfl (lv_at hl 0 rfl) ?_
  refine va_get (D := D) (ci := 11) (v := .ref (a0 6 0)) (C := RX11) (T := TX11) (N := 16) hx hb hts iw_One hown hK hP 0 rfl rfl 5 (by decide) fl_47 (fun _ h9 => h9) rfl dX11_fault_1 ?_
  obtain ⟨r_1, P1_2, hz, hf⟩ := mb_bd2_s hf
  refine gc_i (r0 := r_1) (ws' := (wC_One k a0 P0 ++ (wC_Script k (a0 6) P1_2))) (wr := (wC_One k a0 P0)) (va_runV (As := []) (rest := []) ⟨hx, hb, hml, hown, hts⟩ (c_Script_firstFault l D k H.size (a0 6) P1 (r_1, P1_2) hz) (cwV 0 hts gX11_fault_X5_firstFault rfl rfl rfl (by decide +kernel) ⟨Nat.le_of_ble_eq_true rfl, Nat.le_of_ble_eq_true rfl⟩) (gp_V (ci := 5) (q0 := 0) (q := (RX5, TX5, 4)) hP hD hK hN [4, 5, 6] (by decide +kernel) rfl rfl rfl) rfl rfl hl.1 rfl (lv_room (Nat.le_of_ble_eq_true rfl)) dX11_fault_4 ⟨Nat.zero_le _, Nat.zero_le _⟩) hP hD hS hA [4, 5, 6] [0, 1, 2, 3] rfl rfl (by decide +kernel) (by decide +kernel) [0, 1, 2, 3, 4, 5, 6] (by decide +kernel) rfl (fun H locs hP hD hS => ?_)
  clear hz
  have hz := Option.some.inj hf
  subst hz
  exact hret _ _ _ _ dX11_fault_7 hP hD hS
def f_Decrees_take_9_b (self_10 : Int32 → Int32 → PI → PI → Option (Int32 × PI × PI)) (x2_6 : Int32) (x3_7 : Int32) (P0_8 : PI) (P1_9 : PI) : Option (Int32 × PI × PI) := (if (33 : Int32) ≤ x3_7 then some ((P0_8 0 5), P0_8, P1_9) else (if x2_6 < 0 then some ((P0_8 0 5), P0_8, P1_9) else (if (P1_9 0 3) ≤ x2_6 then some ((P0_8 0 5), P0_8, P1_9) else mb_bd2 (f_Script_readItem P1_9 x2_6) (fun (r_11 : Int32) (P1_12 : PI) => mb_let r_11 (fun (x2_13 : Int32) => mb_chk x3_7 33 (mb_let (mb_u2 P0_8 1 x3_7.toNatClampNeg (P1_12 0 2)) (fun (P0_14 : PI) => mb_chk (0 : Int32) 4 (mb_chk x3_7 33 (mb_let (mb_u2 P0_14 2 x3_7.toNatClampNeg (P1_12 2 (0 : Int32).toNatClampNeg)) (fun (P0_17 : PI) => mb_chk (1 : Int32) 4 (mb_chk x3_7 33 (mb_let (mb_u2 P0_17 3 x3_7.toNatClampNeg (P1_12 2 (1 : Int32).toNatClampNeg)) (fun (P0_20 : PI) => mb_chk (2 : Int32) 4 (mb_chk x3_7 33 (mb_let (mb_u2 P0_20 4 x3_7.toNatClampNeg (P1_12 2 (2 : Int32).toNatClampNeg)) (fun (P0_23 : PI) => mb_chk (3 : Int32) 4 (mb_chk x3_7 33 (mb_let (mb_u2 P0_23 5 x3_7.toNatClampNeg (P1_12 2 (3 : Int32).toNatClampNeg)) (fun (P0_26 : PI) => mb_let (mb_uo P0_26 5 ((P0_26 0 5) + (1 : Int32))) (fun (P0_28 : PI) => mb_let (x3_7 + (1 : Int32)) (fun (x3_29 : Int32) => self_10 x2_13 x3_29 P0_28 P1_12)))))))))))))))))))))
def f_Decrees_take_9 : Nat → Int32 → Int32 → PI → PI → Option (Int32 × PI × PI)
  | 0, _, _, _, _ => none
  | n + 1, x2_6, x3_7, P0_8, P1_9 => f_Decrees_take_9_b  (f_Decrees_take_9  n) x2_6 x3_7 P0_8 P1_9
def f_Decrees_take (P0 : PI) (P1 : PI) : Option (Int32 × PI × PI) := mb_let (mb_uo P0 5 (0 : Int32)) (fun (P0_1 : PI) => mb_let (0 : Int32) (fun (x2_2 : Int32) => mb_let (0 : Int32) (fun (x3_3 : Int32) => f_Decrees_take_9  mb_fu x2_2 x3_3 P0_1 P1)))
def rm_Decrees_take : Room := { frames := 4, cells := 0, slots := 0, locals := 86 }
set_option maxHeartbeats 4000000 in
set_option maxRecDepth 100000 in
theorem c_Decrees_take (l : Launch) (D : va_G) (k : Nat → ClassId) (sz : Nat) (b0 : Nat → Nat) (b1 : Nat → Nat) (P0 : PI) (P1 : PI) (z : Int32 × PI × PI) (hf : f_Decrees_take P0 P1 = some z) : Met l yX0_take wsX0_take rm_Decrees_take (va_Pc [.ref (b0 0), .ref (b1 0)] (gw_pre D vwCl (tyL k) (wC_Decrees k b0 P0 ++ (wC_Script k b1 P1)) sz)) (va_Qi (fun (r : Int32) (_ : Unit) => r = z.1) (gw_b D vwCl (tyL k) (va_A (wC_Decrees k b0 P0 ++ (wC_Script k b1 P1)) sz) (wC_Decrees k b0 z.2.1 ++ (wC_Script k b1 z.2.2))) (va_A (wC_Decrees k b0 P0 ++ (wC_Script k b1 P1)) sz)) 0 0 (va_A (wC_Decrees k b0 P0 ++ (wC_Script k b1 P1)) sz) := by
  refine gm_i (cc := cX0_take) (maxL := 4) (by decide) rfl (Nat.le_of_ble_eq_true rfl) ?_
  intro p e s m args below meth c A Q ls H locs hx hb hml hown hts hK hN hA hP hD hS hl hret
  have hown : s.vm.findClass RX0 = some m.cls := hown
  have hl : lv_has ls 4 [(0, .ref (b0 0)), (1, .ref (b1 0))] := hl
  have iw_Decrees : ∀ w ∈ u_ws RX0 TX0 8, w ∈ wsX0_take := by decide +kernel
  have iw_Script : ∀ w ∈ u_ws RX5 TX5 4, w ∈ wsX0_take := by decide +kernel
  have fl_13 := hts (.fieldLink RX0 13 "OneMeasure$Decrees" "letter" "[I") (by decide +kernel)
  have fl_17 := hts (.fieldLink RX0 17 "OneMeasure$Decrees" "first" "[I") (by decide +kernel)
  have fl_20 := hts (.fieldLink RX0 20 "OneMeasure$Decrees" "second" "[I") (by decide +kernel)
  have fl_23 := hts (.fieldLink RX0 23 "OneMeasure$Decrees" "third" "[I") (by decide +kernel)
  have fl_26 := hts (.fieldLink RX0 26 "OneMeasure$Decrees" "fourth" "[I") (by decide +kernel)
  have fl_29 := hts (.fieldLink RX0 29 "OneMeasure$Decrees" "count" "I") (by decide +kernel)
  have fl_39 := hts (.fieldLink RX0 39 "OneMeasure$Script" "length" "I") (by decide +kernel)
  have fl_46 := hts (.fieldLink RX0 46 "OneMeasure$Script" "letter" "I") (by decide +kernel)
  have fl_48 := hts (.fieldLink RX0 48 "OneMeasure$Script" "numbers" "[I") (by decide +kernel)
  unfold f_Decrees_take at hf
  refine lv_aload_n hx hb dX0_take_0 rfl (lv_at hl 0 rfl) ?_
  refine lv_iconst (v := 0) hx hb dX0_take_1 (by decide) ?_
  obtain ⟨P0_1, e_, hf⟩ := mb_let_s hf
  refine va_put (D := D) (ci := 0) (v := .int (0 : Int32)) (ty := .int) (C := RX0) (T := TX0) (N := 8) hx hb hts iw_Decrees tyX0 tyX0_ok nmX0 hown hK hP hD hS 0 rfl rfl 5 (by decide) fl_29 (fun _ h9 => h9) rfl (by decide +kernel) rfl rfl (Nat.le_of_ble_eq_true rfl) dX0_take_2 (fun H locs hP hD hS => ?_)
  have hP : va_P D vwCl (wC_Decrees k b0 P0_1 ++ (wC_Script k b1 P1)) H := by rw [e_]; exact hP
  have hD : va_D A (wC_Decrees k b0 P0_1 ++ (wC_Script k b1 P1)) := by rw [e_]; exact hD
  clear e_
  refine lv_iconst (v := 0) hx hb dX0_take_5 (by decide) ?_
  obtain ⟨x2_2, e_, hf⟩ := mb_let_s hf
  refine mb_topi e_ ?_
  clear e_
  refine lv_istore_n (lv' := [(2, .int x2_2), (0, .ref (b0 0)), (1, .ref (b1 0))]) hx hb dX0_take_6 rfl hl (by decide) rfl (fun ls hl => ?_)
  refine lv_iconst (v := 0) hx hb dX0_take_7 (by decide) ?_
  obtain ⟨x3_3, e_, hf⟩ := mb_let_s hf
  refine mb_topi e_ ?_
  clear e_
  refine lv_istore_n (lv' := [(3, .int x3_3), (2, .int x2_2), (0, .ref (b0 0)), (1, .ref (b1 0))]) hx hb dX0_take_8 rfl hl (by decide) rfl (fun ls hl => ?_)
  have lp9_4 : ∀ (n : Nat) (x2_6 : Int32) (x3_7 : Int32) (P0_8 : PI) (P1_9 : PI) (H : Heap) (locs : List Loc) (ls : Array Slot), f_Decrees_take_9  n x2_6 x3_7 P0_8 P1_9 = some z → va_P D vwCl (wC_Decrees k b0 P0_8 ++ (wC_Script k b1 P1_9)) H → va_D A (wC_Decrees k b0 P0_8 ++ (wC_Script k b1 P1_9)) → va_S A s.heap H locs → lv_has ls 4 [(0, .ref (b0 0)), (1, .ref (b1 0)), (2, .int x2_6), (3, .int x3_7)] → W p l e rm_Decrees_take s m args below meth c H locs 0 0 Q (F0 m 9 ls []) := by
    intro n
    induction n with
    | zero =>
      intro x2_6 x3_7 P0_8 P1_9 H locs ls hf
      exact nomatch (show (none : Option (Int32 × PI × PI)) = some z from hf)
    | succ n ih_5 =>
      intro x2_6 x3_7 P0_8 P1_9 H locs ls hf hP hD hS hl
      have hf : f_Decrees_take_9_b  (f_Decrees_take_9  n) x2_6 x3_7 P0_8 P1_9 = some z := hf
      unfold f_Decrees_take_9_b at hf
      refine lv_iload_n hx hb dX0_take_9 rfl (lv_at hl 3 rfl) ?_
      refine lv_bipush (v := 33) hx hb dX0_take_10 (by decide) ?_
      refine lv_icmp_ge (tgt := 107) hx hb dX0_take_12 (by decide) (fun c_32 => ?_) (fun c_32 => ?_)
      · have hf := mb_if_t c_32 hf
        refine lv_aload_n hx hb dX0_take_107 rfl (lv_at hl 0 rfl) ?_
        refine va_get (D := D) (ci := 0) (v := .int (P0_8 0 5)) (C := RX0) (T := TX0) (N := 8) hx hb hts iw_Decrees hown hK hP 0 rfl rfl 5 (by decide) fl_29 (fun _ h9 => h9) rfl dX0_take_108 ?_
        have hz := Option.some.inj hf
        subst hz
        exact hret _ _ _ _ dX0_take_111 hP hD hS
      · have hf := mb_if_f c_32 hf
        refine lv_iload_n hx hb dX0_take_15 rfl (lv_at hl 2 rfl) ?_
        refine lv_if_lt (tgt := 107) hx hb dX0_take_16 (by decide) (fun c_31 => ?_) (fun c_31 => ?_)
        · have hf := mb_if_t c_31 hf
          refine lv_aload_n hx hb dX0_take_107 rfl (lv_at hl 0 rfl) ?_
          refine va_get (D := D) (ci := 0) (v := .int (P0_8 0 5)) (C := RX0) (T := TX0) (N := 8) hx hb hts iw_Decrees hown hK hP 0 rfl rfl 5 (by decide) fl_29 (fun _ h9 => h9) rfl dX0_take_108 ?_
          have hz := Option.some.inj hf
          subst hz
          exact hret _ _ _ _ dX0_take_111 hP hD hS
        · have hf := mb_if_f c_31 hf
          refine lv_iload_n hx hb dX0_take_19 rfl (lv_at hl 2 rfl) ?_
          refine lv_aload_n hx hb dX0_take_20 rfl (lv_at hl 1 rfl) ?_
          refine va_get (D := D) (ci := 5) (v := .int (P1_9 0 3)) (C := RX5) (T := TX5) (N := 4) hx hb hts iw_Script hown hK hP 6 rfl rfl 3 (by decide) fl_39 (fun _ h9 => h9) rfl dX0_take_21 ?_
          refine lv_icmp_ge (tgt := 107) hx hb dX0_take_24 (by decide) (fun c_30 => ?_) (fun c_30 => ?_)
          · have hf := mb_if_t c_30 hf
            refine lv_aload_n hx hb dX0_take_107 rfl (lv_at hl 0 rfl) ?_
            refine va_get (D := D) (ci := 0) (v := .int (P0_8 0 5)) (C := RX0) (T := TX0) (N := 8) hx hb hts iw_Decrees hown hK hP 0 rfl rfl 5 (by decide) fl_29 (fun _ h9 => h9) rfl dX0_take_108 ?_
            have hz := Option.some.inj hf
            subst hz
            exact hret _ _ _ _ dX0_take_111 hP hD hS
          · have hf := mb_if_f c_30 hf
            refine lv_aload_n hx hb dX0_take_27 rfl (lv_at hl 1 rfl) ?_
            refine lv_iload_n hx hb dX0_take_28 rfl (lv_at hl 2 rfl) ?_
            obtain ⟨r_11, P1_12, hz, hf⟩ := mb_bd2_s hf
            refine gc_i (r0 := r_11) (ws' := (wC_Decrees k b0 P0_8 ++ (wC_Script k b1 P1_12))) (wr := (wC_Decrees k b0 P0_8)) (va_runV (As := [.int x2_6]) (rest := []) ⟨hx, hb, hml, hown, hts⟩ (c_Script_readItem l D k H.size b1 P1_9 x2_6 (r_11, P1_12) hz) (cwV 1 hts gX0_take_X5_readItem rfl rfl rfl (by decide +kernel) ⟨Nat.le_of_ble_eq_true rfl, Nat.le_of_ble_eq_true rfl⟩) (gp_V (ci := 5) (q0 := 0) (q := (RX5, TX5, 4)) hP hD hK hN [6, 7, 8] (by decide +kernel) rfl rfl rfl) rfl rfl hl.1 rfl (lv_room (Nat.le_of_ble_eq_true rfl)) dX0_take_29 ⟨Nat.zero_le _, Nat.zero_le _⟩) hP hD hS hA [6, 7, 8] [0, 1, 2, 3, 4, 5] rfl rfl (by decide +kernel) (by decide +kernel) [0, 1, 2, 3, 4, 5, 6, 7, 8] (by decide +kernel) rfl (fun H locs hP hD hS => ?_)
            clear hz
            obtain ⟨x2_13, e_, hf⟩ := mb_let_s hf
            refine mb_topi e_ ?_
            clear e_
            refine lv_istore_n (lv' := [(2, .int x2_13), (0, .ref (b0 0)), (1, .ref (b1 0)), (3, .int x3_7)]) hx hb dX0_take_32 rfl hl (by decide) rfl (fun ls hl => ?_)
            refine lv_aload_n hx hb dX0_take_33 rfl (lv_at hl 1 rfl) ?_
            refine va_get (D := D) (ci := 0) (v := .ref (b0 1)) (C := RX0) (T := TX0) (N := 8) hx hb hts iw_Decrees hown hK hP 0 rfl rfl 0 (by decide) fl_13 (fun _ h9 => h9) rfl dX0_take_34 ?_
            refine lv_iload_n hx hb dX0_take_37 rfl (lv_at hl 3 rfl) ?_
            refine lv_aload_n hx hb dX0_take_38 rfl (lv_at hl 2 rfl) ?_
            refine va_get (D := D) (ci := 5) (v := .int (P1_12 0 2)) (C := RX5) (T := TX5) (N := 4) hx hb hts iw_Script hown hK hP 6 rfl rfl 2 (by decide) fl_46 (fun _ h9 => h9) rfl dX0_take_39 ?_
            obtain ⟨h_15, hf⟩ := mb_chk_s hf
            obtain ⟨P0_14, e_, hf⟩ := mb_let_s hf
            refine va_iast hx hb hK hP hD hS 1 0 rfl rfl h_15 dX0_take_42 (fun H locs hP hD hS => ?_)
            have hP : va_P D vwCl (wC_Decrees k b0 P0_14 ++ (wC_Script k b1 P1_12)) H := by rw [e_]; exact hP
            have hD : va_D A (wC_Decrees k b0 P0_14 ++ (wC_Script k b1 P1_12)) := by rw [e_]; exact hD
            clear e_
            refine lv_aload_n hx hb dX0_take_43 rfl (lv_at hl 1 rfl) ?_
            refine va_get (D := D) (ci := 0) (v := .ref (b0 2)) (C := RX0) (T := TX0) (N := 8) hx hb hts iw_Decrees hown hK hP 0 rfl rfl 1 (by decide) fl_17 (fun _ h9 => h9) rfl dX0_take_44 ?_
            refine lv_iload_n hx hb dX0_take_47 rfl (lv_at hl 3 rfl) ?_
            refine lv_aload_n hx hb dX0_take_48 rfl (lv_at hl 2 rfl) ?_
            refine va_get (D := D) (ci := 5) (v := .ref (b1 2)) (C := RX5) (T := TX5) (N := 4) hx hb hts iw_Script hown hK hP 6 rfl rfl 1 (by decide) fl_48 (fun _ h9 => h9) rfl dX0_take_49 ?_
            refine lv_iconst (v := 0) hx hb dX0_take_52 (by decide) ?_
            obtain ⟨h_16, hf⟩ := mb_chk_s hf
            refine va_iald hx hb hK hP 8 0 rfl rfl h_16 dX0_take_53 ?_
            obtain ⟨h_18, hf⟩ := mb_chk_s hf
            obtain ⟨P0_17, e_, hf⟩ := mb_let_s hf
            refine va_iast hx hb hK hP hD hS 2 0 rfl rfl h_18 dX0_take_54 (fun H locs hP hD hS => ?_)
            have hP : va_P D vwCl (wC_Decrees k b0 P0_17 ++ (wC_Script k b1 P1_12)) H := by rw [e_]; exact hP
            have hD : va_D A (wC_Decrees k b0 P0_17 ++ (wC_Script k b1 P1_12)) := by rw [e_]; exact hD
            clear e_
            refine lv_aload_n hx hb dX0_take_55 rfl (lv_at hl 1 rfl) ?_
            refine va_get (D := D) (ci := 0) (v := .ref (b0 3)) (C := RX0) (T := TX0) (N := 8) hx hb hts iw_Decrees hown hK hP 0 rfl rfl 2 (by decide) fl_20 (fun _ h9 => h9) rfl dX0_take_56 ?_
            refine lv_iload_n hx hb dX0_take_59 rfl (lv_at hl 3 rfl) ?_
            refine lv_aload_n hx hb dX0_take_60 rfl (lv_at hl 2 rfl) ?_
            refine va_get (D := D) (ci := 5) (v := .ref (b1 2)) (C := RX5) (T := TX5) (N := 4) hx hb hts iw_Script hown hK hP 6 rfl rfl 1 (by decide) fl_48 (fun _ h9 => h9) rfl dX0_take_61 ?_
            refine lv_iconst (v := 1) hx hb dX0_take_64 (by decide) ?_
            obtain ⟨h_19, hf⟩ := mb_chk_s hf
            refine va_iald hx hb hK hP 8 0 rfl rfl h_19 dX0_take_65 ?_
            obtain ⟨h_21, hf⟩ := mb_chk_s hf
            obtain ⟨P0_20, e_, hf⟩ := mb_let_s hf
            refine va_iast hx hb hK hP hD hS 3 0 rfl rfl h_21 dX0_take_66 (fun H locs hP hD hS => ?_)
            have hP : va_P D vwCl (wC_Decrees k b0 P0_20 ++ (wC_Script k b1 P1_12)) H := by rw [e_]; exact hP
            have hD : va_D A (wC_Decrees k b0 P0_20 ++ (wC_Script k b1 P1_12)) := by rw [e_]; exact hD
            clear e_
            refine lv_aload_n hx hb dX0_take_67 rfl (lv_at hl 1 rfl) ?_
            refine va_get (D := D) (ci := 0) (v := .ref (b0 4)) (C := RX0) (T := TX0) (N := 8) hx hb hts iw_Decrees hown hK hP 0 rfl rfl 3 (by decide) fl_23 (fun _ h9 => h9) rfl dX0_take_68 ?_
            refine lv_iload_n hx hb dX0_take_71 rfl (lv_at hl 3 rfl) ?_
            refine lv_aload_n hx hb dX0_take_72 rfl (lv_at hl 2 rfl) ?_
            refine va_get (D := D) (ci := 5) (v := .ref (b1 2)) (C := RX5) (T := TX5) (N := 4) hx hb hts iw_Script hown hK hP 6 rfl rfl 1 (by decide) fl_48 (fun _ h9 => h9) rfl dX0_take_73 ?_
            refine lv_iconst (v := 2) hx hb dX0_take_76 (by decide) ?_
            obtain ⟨h_22, hf⟩ := mb_chk_s hf
            refine va_iald hx hb hK hP 8 0 rfl rfl h_22 dX0_take_77 ?_
            obtain ⟨h_24, hf⟩ := mb_chk_s hf
            obtain ⟨P0_23, e_, hf⟩ := mb_let_s hf
            refine va_iast hx hb hK hP hD hS 4 0 rfl rfl h_24 dX0_take_78 (fun H locs hP hD hS => ?_)
            have hP : va_P D vwCl (wC_Decrees k b0 P0_23 ++ (wC_Script k b1 P1_12)) H := by rw [e_]; exact hP
            have hD : va_D A (wC_Decrees k b0 P0_23 ++ (wC_Script k b1 P1_12)) := by rw [e_]; exact hD
            clear e_
            refine lv_aload_n hx hb dX0_take_79 rfl (lv_at hl 1 rfl) ?_
            refine va_get (D := D) (ci := 0) (v := .ref (b0 5)) (C := RX0) (T := TX0) (N := 8) hx hb hts iw_Decrees hown hK hP 0 rfl rfl 4 (by decide) fl_26 (fun _ h9 => h9) rfl dX0_take_80 ?_
            refine lv_iload_n hx hb dX0_take_83 rfl (lv_at hl 3 rfl) ?_
            refine lv_aload_n hx hb dX0_take_84 rfl (lv_at hl 2 rfl) ?_
            refine va_get (D := D) (ci := 5) (v := .ref (b1 2)) (C := RX5) (T := TX5) (N := 4) hx hb hts iw_Script hown hK hP 6 rfl rfl 1 (by decide) fl_48 (fun _ h9 => h9) rfl dX0_take_85 ?_
            refine lv_iconst (v := 3) hx hb dX0_take_88 (by decide) ?_
            obtain ⟨h_25, hf⟩ := mb_chk_s hf
            refine va_iald hx hb hK hP 8 0 rfl rfl h_25 dX0_take_89 ?_
            obtain ⟨h_27, hf⟩ := mb_chk_s hf
            obtain ⟨P0_26, e_, hf⟩ := mb_let_s hf
            refine va_iast hx hb hK hP hD hS 5 0 rfl rfl h_27 dX0_take_90 (fun H locs hP hD hS => ?_)
            have hP : va_P D vwCl (wC_Decrees k b0 P0_26 ++ (wC_Script k b1 P1_12)) H := by rw [e_]; exact hP
            have hD : va_D A (wC_Decrees k b0 P0_26 ++ (wC_Script k b1 P1_12)) := by rw [e_]; exact hD
            clear e_
            refine lv_aload_n hx hb dX0_take_91 rfl (lv_at hl 1 rfl) ?_
            refine lv_dup hx hb dX0_take_92 rfl ?_
            refine va_get (D := D) (ci := 0) (v := .int (P0_26 0 5)) (C := RX0) (T := TX0) (N := 8) hx hb hts iw_Decrees hown hK hP 0 rfl rfl 5 (by decide) fl_29 (fun _ h9 => h9) rfl dX0_take_93 ?_
            refine lv_iconst (v := 1) hx hb dX0_take_96 (by decide) ?_
            refine lv_iadd hx hb dX0_take_97 ?_
            obtain ⟨P0_28, e_, hf⟩ := mb_let_s hf
            refine va_put (D := D) (ci := 0) (v := .int ((P0_26 0 5) + (1 : Int32))) (ty := .int) (C := RX0) (T := TX0) (N := 8) hx hb hts iw_Decrees tyX0 tyX0_ok nmX0 hown hK hP hD hS 0 rfl rfl 5 (by decide) fl_29 (fun _ h9 => h9) rfl (by decide +kernel) rfl rfl (Nat.le_of_ble_eq_true rfl) dX0_take_98 (fun H locs hP hD hS => ?_)
            have hP : va_P D vwCl (wC_Decrees k b0 P0_28 ++ (wC_Script k b1 P1_12)) H := by rw [e_]; exact hP
            have hD : va_D A (wC_Decrees k b0 P0_28 ++ (wC_Script k b1 P1_12)) := by rw [e_]; exact hD
            clear e_
            obtain ⟨x3_29, e_, hf⟩ := mb_let_s hf
            refine lv_iinc (v := x3_29) (lv' := [(3, .int x3_29), (2, .int x2_13), (0, .ref (b0 0)), (1, .ref (b1 0))]) hx hb dX0_take_101 hl (k := 3) rfl (by rw [e_]; rfl) (by decide) rfl (fun ls hl => ?_)
            clear e_
            refine lv_goto (tgt := 9) hx hb dX0_take_104 (by decide) ?_
            exact ih_5 x2_13 x3_29 P0_28 P1_12 _ _ _ hf hP hD hS (lv_sub hl [2, 3, 1, 0] rfl)
  exact lp9_4 mb_fu x2_2 x3_3 P0_1 P1 _ _ _ hf hP hD hS (lv_sub hl [2, 3, 1, 0] rfl)
def f_One_force (P1 : PI) (P2 : PI) : Option (Int32 × PI × PI) := mb_bd2 (f_Script_firstFault P1) (fun (r_1 : Int32) (P1_2 : PI) => (if r_1 = (-4 : Int32) then mb_bd3 (f_Decrees_take P2 P1_2) (fun (r_3 : Int32) (P2_4 : PI) (P1_5 : PI) => some (r_3, P1_5, P2_4)) else some ((-2 : Int32), P1_2, P2)))
def rm_One_force : Room := { frames := 5, cells := 0, slots := 0, locals := 109 }
set_option maxHeartbeats 4000000 in
set_option maxRecDepth 100000 in
theorem c_One_force (l : Launch) (D : va_G) (k : Nat → ClassId) (sz : Nat) (a0 : Nat → Nat → Nat) (P0 : PI) (P1 : PI) (P2 : PI) (z : Int32 × PI × PI) (hf : f_One_force P1 P2 = some z) : Met l yX11_force wsX11_force rm_One_force (va_Pc [.ref (a0 0 0)] (gw_pre D vwCl (tyL k) (wC_One k a0 P0 ++ (wC_Script k (a0 6) P1 ++ (wC_Decrees k (a0 7) P2))) sz)) (va_Qi (fun (r : Int32) (_ : Unit) => r = z.1) (gw_b D vwCl (tyL k) (va_A (wC_One k a0 P0 ++ (wC_Script k (a0 6) P1 ++ (wC_Decrees k (a0 7) P2))) sz) (wC_One k a0 P0 ++ (wC_Script k (a0 6) z.2.1 ++ (wC_Decrees k (a0 7) z.2.2)))) (va_A (wC_One k a0 P0 ++ (wC_Script k (a0 6) P1 ++ (wC_Decrees k (a0 7) P2))) sz)) 0 0 (va_A (wC_One k a0 P0 ++ (wC_Script k (a0 6) P1 ++ (wC_Decrees k (a0 7) P2))) sz) := by
  refine gm_i (cc := cX11_force) (maxL := 1) (by decide) rfl (Nat.le_of_ble_eq_true rfl) ?_
  intro p e s m args below meth c A Q ls H locs hx hb hml hown hts hK hN hA hP hD hS hl hret
  have hown : s.vm.findClass RX11 = some m.cls := hown
  have hl : lv_has ls 1 [(0, .ref (a0 0 0))] := hl
  have iw_One : ∀ w ∈ u_ws RX11 TX11 16, w ∈ wsX11_force := by decide +kernel
  have fl_47 := hts (.fieldLink RX11 47 "OneMeasure" "script" "LOneMeasure$Script;") (by decide +kernel)
  have fl_54 := hts (.fieldLink RX11 54 "OneMeasure" "decrees" "LOneMeasure$Decrees;") (by decide +kernel)
  unfold f_One_force at hf
  refine lv_aload_n hx hb dX11_force_0 rfl (lv_at hl 0 rfl) ?_
  refine va_get (D := D) (ci := 11) (v := .ref (a0 6 0)) (C := RX11) (T := TX11) (N := 16) hx hb hts iw_One hown hK hP 0 rfl rfl 5 (by decide) fl_47 (fun _ h9 => h9) rfl dX11_force_1 ?_
  obtain ⟨r_1, P1_2, hz, hf⟩ := mb_bd2_s hf
  refine gc_i (r0 := r_1) (ws' := (wC_One k a0 P0 ++ (wC_Script k (a0 6) P1_2 ++ (wC_Decrees k (a0 7) P2)))) (wr := (wC_One k a0 P0 ++ (wC_Decrees k (a0 7) P2))) (va_runV (As := []) (rest := []) ⟨hx, hb, hml, hown, hts⟩ (c_Script_firstFault l D k H.size (a0 6) P1 (r_1, P1_2) hz) (cwV 0 hts gX11_force_X5_firstFault rfl rfl rfl (by decide +kernel) ⟨Nat.le_of_ble_eq_true rfl, Nat.le_of_ble_eq_true rfl⟩) (gp_V (ci := 5) (q0 := 0) (q := (RX5, TX5, 4)) hP hD hK hN [4, 5, 6] (by decide +kernel) rfl rfl rfl) rfl rfl hl.1 rfl (lv_room (Nat.le_of_ble_eq_true rfl)) dX11_force_4 ⟨Nat.zero_le _, Nat.zero_le _⟩) hP hD hS hA [4, 5, 6] [0, 1, 2, 3, 7, 8, 9, 10, 11, 12] rfl rfl (by decide +kernel) (by decide +kernel) [0, 1, 2, 3, 10, 11, 12, 4, 5, 6, 7, 8, 9] (by decide +kernel) rfl (fun H locs hP hD hS => ?_)
  clear hz
  refine lv_bipush (v := (-4)) hx hb dX11_force_7 (by decide) ?_
  refine lv_icmp_eq (tgt := 15) hx hb dX11_force_9 (by decide) (fun c_6 => ?_) (fun c_6 => ?_)
  · have hf := mb_if_t c_6 hf
    refine lv_aload_n hx hb dX11_force_15 rfl (lv_at hl 0 rfl) ?_
    refine va_get (D := D) (ci := 11) (v := .ref (a0 7 0)) (C := RX11) (T := TX11) (N := 16) hx hb hts iw_One hown hK hP 0 rfl rfl 6 (by decide) fl_54 (fun _ h9 => h9) rfl dX11_force_16 ?_
    refine lv_aload_n hx hb dX11_force_19 rfl (lv_at hl 0 rfl) ?_
    refine va_get (D := D) (ci := 11) (v := .ref (a0 6 0)) (C := RX11) (T := TX11) (N := 16) hx hb hts iw_One hown hK hP 0 rfl rfl 5 (by decide) fl_47 (fun _ h9 => h9) rfl dX11_force_20 ?_
    obtain ⟨r_3, P2_4, P1_5, hz, hf⟩ := mb_bd3_s hf
    refine gc_i (r0 := r_3) (ws' := (wC_One k a0 P0 ++ (wC_Script k (a0 6) P1_5 ++ (wC_Decrees k (a0 7) P2_4)))) (wr := (wC_One k a0 P0)) (va_runV (As := [.ref (a0 6 0)]) (rest := []) ⟨hx, hb, hml, hown, hts⟩ (c_Decrees_take l D k H.size (a0 7) (a0 6) P2 P1_2 (r_3, P2_4, P1_5) hz) (cwV 1 hts gX11_force_X0_take rfl rfl rfl (by decide +kernel) ⟨Nat.le_of_ble_eq_true rfl, Nat.le_of_ble_eq_true rfl⟩) (gp_V (ci := 0) (q0 := 0) (q := (RX0, TX0, 8)) hP hD hK hN [7, 8, 9, 10, 11, 12, 4, 5, 6] (by decide +kernel) rfl rfl rfl) rfl rfl hl.1 rfl (lv_room (Nat.le_of_ble_eq_true rfl)) dX11_force_23 ⟨Nat.zero_le _, Nat.zero_le _⟩) hP hD hS hA [7, 8, 9, 10, 11, 12, 4, 5, 6] [0, 1, 2, 3] rfl rfl (by decide +kernel) (by decide +kernel) [0, 1, 2, 3, 10, 11, 12, 4, 5, 6, 7, 8, 9] (by decide +kernel) rfl (fun H locs hP hD hS => ?_)
    clear hz
    have hz := Option.some.inj hf
    subst hz
    exact hret _ _ _ _ dX11_force_26 hP hD hS
  · have hf := mb_if_f c_6 hf
    refine lv_bipush (v := (-2)) hx hb dX11_force_12 (by decide) ?_
    have hz := Option.some.inj hf
    subst hz
    exact hret _ _ _ _ dX11_force_14 hP hD hS
def f_Decrees_ofUse (P0 : PI) (x1 : Int32) (x2 : Int32) (x3 : Int32) (x4 : Int32) : Option (Int32) := mb_chk x1 33 ((if (P0 1 x1.toNatClampNeg) = x2 then mb_chk x1 33 ((if (P0 2 x1.toNatClampNeg) = x3 then mb_chk x1 33 ((if (P0 3 x1.toNatClampNeg) = x4 then some (1 : Int32) else some (0 : Int32))) else some (0 : Int32))) else some (0 : Int32)))
def rm_Decrees_ofUse : Room := { frames := 0, cells := 0, slots := 0, locals := 0 }
set_option maxHeartbeats 4000000 in
set_option maxRecDepth 100000 in
theorem c_Decrees_ofUse (l : Launch) (D : va_G) (k : Nat → ClassId) (sz : Nat) (b0 : Nat → Nat) (P0 : PI) (x1 : Int32) (x2 : Int32) (x3 : Int32) (x4 : Int32) (z : Int32) (hf : f_Decrees_ofUse P0 x1 x2 x3 x4 = some z) : Met l yX0_ofUse wsX0_ofUse rm_Decrees_ofUse (va_Pc [.ref (b0 0), .int x1, .int x2, .int x3, .int x4] (gw_pre D vwCl (tyL k) (wC_Decrees k b0 P0) sz)) (va_Qi (fun (r : Int32) (_ : Unit) => r = z) (gw_b D vwCl (tyL k) (va_A (wC_Decrees k b0 P0) sz) (wC_Decrees k b0 P0)) (va_A (wC_Decrees k b0 P0) sz)) 0 0 (va_A (wC_Decrees k b0 P0) sz) := by
  refine gm_z (cc := cX0_ofUse) (maxL := 5) (by decide) rfl (Nat.le_of_ble_eq_true rfl) ?_
  intro p e s m args below meth c A Q ls H locs hx hb hml hown hts hK hN hA hP hD hS hl hret
  have hown : s.vm.findClass RX0 = some m.cls := hown
  have hl : lv_has ls 5 [(0, .ref (b0 0)), (1, .int x1), (2, .int x2), (3, .int x3), (4, .int x4)] := hl
  have iw_Decrees : ∀ w ∈ u_ws RX0 TX0 8, w ∈ wsX0_ofUse := by decide +kernel
  have fl_13 := hts (.fieldLink RX0 13 "OneMeasure$Decrees" "letter" "[I") (by decide +kernel)
  have fl_17 := hts (.fieldLink RX0 17 "OneMeasure$Decrees" "first" "[I") (by decide +kernel)
  have fl_20 := hts (.fieldLink RX0 20 "OneMeasure$Decrees" "second" "[I") (by decide +kernel)
  unfold f_Decrees_ofUse at hf
  refine lv_aload_n hx hb dX0_ofUse_0 rfl (lv_at hl 0 rfl) ?_
  refine va_get (D := D) (ci := 0) (v := .ref (b0 1)) (C := RX0) (T := TX0) (N := 8) hx hb hts iw_Decrees hown hK hP 0 rfl rfl 0 (by decide) fl_13 (fun _ h9 => h9) rfl dX0_ofUse_1 ?_
  refine lv_iload_n hx hb dX0_ofUse_4 rfl (lv_at hl 1 rfl) ?_
  obtain ⟨h_1, hf⟩ := mb_chk_s hf
  refine va_iald hx hb hK hP 1 0 rfl rfl h_1 dX0_ofUse_5 ?_
  refine lv_iload_n hx hb dX0_ofUse_6 rfl (lv_at hl 2 rfl) ?_
  refine lv_icmp_ne (tgt := 35) hx hb dX0_ofUse_7 (by decide) (fun c_6 => ?_) (fun c_6 => ?_)
  · have hf := mb_if_f c_6 hf
    refine lv_iconst (v := 0) hx hb dX0_ofUse_35 (by decide) ?_
    have hz := Option.some.inj hf
    subst hz
    exact hret _ _ _ _ mb_n0 dX0_ofUse_36 hP hD hS
  · have hf := mb_if_t c_6 hf
    refine lv_aload_n hx hb dX0_ofUse_10 rfl (lv_at hl 0 rfl) ?_
    refine va_get (D := D) (ci := 0) (v := .ref (b0 2)) (C := RX0) (T := TX0) (N := 8) hx hb hts iw_Decrees hown hK hP 0 rfl rfl 1 (by decide) fl_17 (fun _ h9 => h9) rfl dX0_ofUse_11 ?_
    refine lv_iload_n hx hb dX0_ofUse_14 rfl (lv_at hl 1 rfl) ?_
    obtain ⟨h_2, hf⟩ := mb_chk_s hf
    refine va_iald hx hb hK hP 2 0 rfl rfl h_2 dX0_ofUse_15 ?_
    refine lv_iload_n hx hb dX0_ofUse_16 rfl (lv_at hl 3 rfl) ?_
    refine lv_icmp_ne (tgt := 35) hx hb dX0_ofUse_17 (by decide) (fun c_5 => ?_) (fun c_5 => ?_)
    · have hf := mb_if_f c_5 hf
      refine lv_iconst (v := 0) hx hb dX0_ofUse_35 (by decide) ?_
      have hz := Option.some.inj hf
      subst hz
      exact hret _ _ _ _ mb_n0 dX0_ofUse_36 hP hD hS
    · have hf := mb_if_t c_5 hf
      refine lv_aload_n hx hb dX0_ofUse_20 rfl (lv_at hl 0 rfl) ?_
      refine va_get (D := D) (ci := 0) (v := .ref (b0 3)) (C := RX0) (T := TX0) (N := 8) hx hb hts iw_Decrees hown hK hP 0 rfl rfl 2 (by decide) fl_20 (fun _ h9 => h9) rfl dX0_ofUse_21 ?_
      refine lv_iload_n hx hb dX0_ofUse_24 rfl (lv_at hl 1 rfl) ?_
      obtain ⟨h_3, hf⟩ := mb_chk_s hf
      refine va_iald hx hb hK hP 3 0 rfl rfl h_3 dX0_ofUse_25 ?_
      refine lv_iload hx hb dX0_ofUse_26 (lv_at hl 4 rfl) ?_
      refine lv_icmp_ne (tgt := 35) hx hb dX0_ofUse_28 (by decide) (fun c_4 => ?_) (fun c_4 => ?_)
      · have hf := mb_if_f c_4 hf
        refine lv_iconst (v := 0) hx hb dX0_ofUse_35 (by decide) ?_
        have hz := Option.some.inj hf
        subst hz
        exact hret _ _ _ _ mb_n0 dX0_ofUse_36 hP hD hS
      · have hf := mb_if_t c_4 hf
        refine lv_iconst (v := 1) hx hb dX0_ofUse_31 (by decide) ?_
        refine lv_goto (tgt := 36) hx hb dX0_ofUse_32 (by decide) ?_
        have hz := Option.some.inj hf
        subst hz
        exact hret _ _ _ _ mb_n1 dX0_ofUse_36 hP hD hS
def f_Decrees_onDay (P0 : PI) (x1 : Int32) (x2 : Int32) : Option (Int32) := mb_chk x1 33 ((if x2 < (P0 4 x1.toNatClampNeg) then some (0 : Int32) else mb_chk x1 33 ((if (P0 5 x1.toNatClampNeg) < x2 then some (0 : Int32) else some (1 : Int32)))))
def rm_Decrees_onDay : Room := { frames := 0, cells := 0, slots := 0, locals := 0 }
set_option maxHeartbeats 4000000 in
set_option maxRecDepth 100000 in
theorem c_Decrees_onDay (l : Launch) (D : va_G) (k : Nat → ClassId) (sz : Nat) (b0 : Nat → Nat) (P0 : PI) (x1 : Int32) (x2 : Int32) (z : Int32) (hf : f_Decrees_onDay P0 x1 x2 = some z) : Met l yX0_onDay wsX0_onDay rm_Decrees_onDay (va_Pc [.ref (b0 0), .int x1, .int x2] (gw_pre D vwCl (tyL k) (wC_Decrees k b0 P0) sz)) (va_Qi (fun (r : Int32) (_ : Unit) => r = z) (gw_b D vwCl (tyL k) (va_A (wC_Decrees k b0 P0) sz) (wC_Decrees k b0 P0)) (va_A (wC_Decrees k b0 P0) sz)) 0 0 (va_A (wC_Decrees k b0 P0) sz) := by
  refine gm_z (cc := cX0_onDay) (maxL := 3) (by decide) rfl (Nat.le_of_ble_eq_true rfl) ?_
  intro p e s m args below meth c A Q ls H locs hx hb hml hown hts hK hN hA hP hD hS hl hret
  have hown : s.vm.findClass RX0 = some m.cls := hown
  have hl : lv_has ls 3 [(0, .ref (b0 0)), (1, .int x1), (2, .int x2)] := hl
  have iw_Decrees : ∀ w ∈ u_ws RX0 TX0 8, w ∈ wsX0_onDay := by decide +kernel
  have fl_23 := hts (.fieldLink RX0 23 "OneMeasure$Decrees" "third" "[I") (by decide +kernel)
  have fl_26 := hts (.fieldLink RX0 26 "OneMeasure$Decrees" "fourth" "[I") (by decide +kernel)
  unfold f_Decrees_onDay at hf
  refine lv_aload_n hx hb dX0_onDay_0 rfl (lv_at hl 0 rfl) ?_
  refine va_get (D := D) (ci := 0) (v := .ref (b0 4)) (C := RX0) (T := TX0) (N := 8) hx hb hts iw_Decrees hown hK hP 0 rfl rfl 3 (by decide) fl_23 (fun _ h9 => h9) rfl dX0_onDay_1 ?_
  refine lv_iload_n hx hb dX0_onDay_4 rfl (lv_at hl 1 rfl) ?_
  obtain ⟨h_1, hf⟩ := mb_chk_s hf
  refine va_iald hx hb hK hP 4 0 rfl rfl h_1 dX0_onDay_5 ?_
  refine lv_iload_n hx hb dX0_onDay_6 rfl (lv_at hl 2 rfl) ?_
  refine lv_icmp_gt (tgt := 24) hx hb dX0_onDay_7 (by decide) (fun c_4 => ?_) (fun c_4 => ?_)
  · have hf := mb_if_t c_4 hf
    refine lv_iconst (v := 0) hx hb dX0_onDay_24 (by decide) ?_
    have hz := Option.some.inj hf
    subst hz
    exact hret _ _ _ _ mb_n0 dX0_onDay_25 hP hD hS
  · have hf := mb_if_f c_4 hf
    refine lv_iload_n hx hb dX0_onDay_10 rfl (lv_at hl 2 rfl) ?_
    refine lv_aload_n hx hb dX0_onDay_11 rfl (lv_at hl 0 rfl) ?_
    refine va_get (D := D) (ci := 0) (v := .ref (b0 5)) (C := RX0) (T := TX0) (N := 8) hx hb hts iw_Decrees hown hK hP 0 rfl rfl 4 (by decide) fl_26 (fun _ h9 => h9) rfl dX0_onDay_12 ?_
    refine lv_iload_n hx hb dX0_onDay_15 rfl (lv_at hl 1 rfl) ?_
    obtain ⟨h_2, hf⟩ := mb_chk_s hf
    refine va_iald hx hb hK hP 5 0 rfl rfl h_2 dX0_onDay_16 ?_
    refine lv_icmp_gt (tgt := 24) hx hb dX0_onDay_17 (by decide) (fun c_3 => ?_) (fun c_3 => ?_)
    · have hf := mb_if_t c_3 hf
      refine lv_iconst (v := 0) hx hb dX0_onDay_24 (by decide) ?_
      have hz := Option.some.inj hf
      subst hz
      exact hret _ _ _ _ mb_n0 dX0_onDay_25 hP hD hS
    · have hf := mb_if_f c_3 hf
      refine lv_iconst (v := 1) hx hb dX0_onDay_20 (by decide) ?_
      refine lv_goto (tgt := 25) hx hb dX0_onDay_21 (by decide) ?_
      have hz := Option.some.inj hf
      subst hz
      exact hret _ _ _ _ mb_n1 dX0_onDay_25 hP hD hS
def f_Decrees_ruling_8_b (P0 : PI) (x1 : Int32) (x2 : Int32) (x3 : Int32) (self_5 : Int32 → Option (Int32)) (x4_4 : Int32) : Option (Int32) := (if x4_4 < 0 then some (-4 : Int32) else mb_bd1 (f_Decrees_ofUse P0 x4_4 (97 : Int32) x1 x2) (fun (r_6 : Int32) => mb_jn (fun (y_7 : Int32) => mb_let y_7 (fun (x5_10 : Int32) => (if x5_10 = 0 then mb_let (x4_4 + (-1 : Int32)) (fun (x4_11 : Int32) => self_5 x4_11) else mb_bd1 (f_Decrees_onDay P0 x4_4 x3) (fun (r_12 : Int32) => (if r_12 = 0 then mb_let (x4_4 + (-1 : Int32)) (fun (x4_13 : Int32) => self_5 x4_13) else some x4_4))))) (fun J44_8 => mb_jn (J44_8 (1 : Int32)) (fun J39_16 => (if r_6 = 0 then mb_bd1 (f_Decrees_ofUse P0 x4_4 (98 : Int32) x1 x2) (fun (r_18 : Int32) => (if r_18 = 0 then J44_8 (0 : Int32) else J39_16)) else J39_16)))))
def f_Decrees_ruling_8 (P0 : PI) (x1 : Int32) (x2 : Int32) (x3 : Int32) : Nat → Int32 → Option (Int32)
  | 0, _ => none
  | n + 1, x4_4 => f_Decrees_ruling_8_b P0 x1 x2 x3 (f_Decrees_ruling_8 P0 x1 x2 x3 n) x4_4
def f_Decrees_ruling (P0 : PI) (x1 : Int32) (x2 : Int32) (x3 : Int32) : Option (Int32) := mb_let ((P0 0 5) - (1 : Int32)) (fun (x4_1 : Int32) => f_Decrees_ruling_8 P0 x1 x2 x3 mb_fu x4_1)
def rm_Decrees_ruling : Room := { frames := 1, cells := 0, slots := 0, locals := 24 }
set_option maxHeartbeats 4000000 in
set_option maxRecDepth 100000 in
theorem c_Decrees_ruling (l : Launch) (D : va_G) (k : Nat → ClassId) (sz : Nat) (b0 : Nat → Nat) (P0 : PI) (x1 : Int32) (x2 : Int32) (x3 : Int32) (z : Int32) (hf : f_Decrees_ruling P0 x1 x2 x3 = some z) : Met l yX0_ruling wsX0_ruling rm_Decrees_ruling (va_Pc [.ref (b0 0), .int x1, .int x2, .int x3] (gw_pre D vwCl (tyL k) (wC_Decrees k b0 P0) sz)) (va_Qi (fun (r : Int32) (_ : Unit) => r = z) (gw_b D vwCl (tyL k) (va_A (wC_Decrees k b0 P0) sz) (wC_Decrees k b0 P0)) (va_A (wC_Decrees k b0 P0) sz)) 0 0 (va_A (wC_Decrees k b0 P0) sz) := by
  refine gm_i (cc := cX0_ruling) (maxL := 6) (by decide) rfl (Nat.le_of_ble_eq_true rfl) ?_
  intro p e s m args below meth c A Q ls H locs hx hb hml hown hts hK hN hA hP hD hS hl hret
  have hown : s.vm.findClass RX0 = some m.cls := hown
  have hl : lv_has ls 6 [(0, .ref (b0 0)), (1, .int x1), (2, .int x2), (3, .int x3)] := hl
  have iw_Decrees : ∀ w ∈ u_ws RX0 TX0 8, w ∈ wsX0_ruling := by decide +kernel
  have fl_29 := hts (.fieldLink RX0 29 "OneMeasure$Decrees" "count" "I") (by decide +kernel)
  unfold f_Decrees_ruling at hf
  refine lv_aload_n hx hb dX0_ruling_0 rfl (lv_at hl 0 rfl) ?_
  refine va_get (D := D) (ci := 0) (v := .int (P0 0 5)) (C := RX0) (T := TX0) (N := 8) hx hb hts iw_Decrees hown hK hP 0 rfl rfl 5 (by decide) fl_29 (fun _ h9 => h9) rfl dX0_ruling_1 ?_
  refine lv_iconst (v := 1) hx hb dX0_ruling_4 (by decide) ?_
  refine lv_isub hx hb dX0_ruling_5 ?_
  obtain ⟨x4_1, e_, hf⟩ := mb_let_s hf
  refine mb_topi e_ ?_
  clear e_
  refine lv_istore (lv' := [(4, .int x4_1), (0, .ref (b0 0)), (1, .int x1), (2, .int x2), (3, .int x3)]) hx hb dX0_ruling_6 hl (by decide) rfl (fun ls hl => ?_)
  have lp8_2 : ∀ (n : Nat) (x4_4 : Int32) (H : Heap) (locs : List Loc) (ls : Array Slot), f_Decrees_ruling_8 P0 x1 x2 x3 n x4_4 = some z → va_P D vwCl (wC_Decrees k b0 P0) H → va_D A (wC_Decrees k b0 P0) → va_S A s.heap H locs → lv_has ls 6 [(0, .ref (b0 0)), (1, .int x1), (2, .int x2), (3, .int x3), (4, .int x4_4)] → W p l e rm_Decrees_ruling s m args below meth c H locs 0 0 Q (F0 m 8 ls []) := by
    intro n
    induction n with
    | zero =>
      intro x4_4 H locs ls hf
      exact nomatch (show (none : Option (Int32)) = some z from hf)
    | succ n ih_3 =>
      intro x4_4 H locs ls hf hP hD hS hl
      have hf : f_Decrees_ruling_8_b P0 x1 x2 x3 (f_Decrees_ruling_8 P0 x1 x2 x3 n) x4_4 = some z := hf
      unfold f_Decrees_ruling_8_b at hf
      refine lv_iload hx hb dX0_ruling_8 (lv_at hl 4 rfl) ?_
      refine lv_if_lt (tgt := 70) hx hb dX0_ruling_10 (by decide) (fun c_21 => ?_) (fun c_21 => ?_)
      · have hf := mb_if_t c_21 hf
        refine lv_bipush (v := (-4)) hx hb dX0_ruling_70 (by decide) ?_
        have hz := Option.some.inj hf
        subst hz
        exact hret _ _ _ _ dX0_ruling_72 hP hD hS
      · have hf := mb_if_f c_21 hf
        refine lv_aload_n hx hb dX0_ruling_13 rfl (lv_at hl 0 rfl) ?_
        refine lv_iload hx hb dX0_ruling_14 (lv_at hl 4 rfl) ?_
        refine lv_bipush (v := 97) hx hb dX0_ruling_16 (by decide) ?_
        refine lv_iload_n hx hb dX0_ruling_18 rfl (lv_at hl 1 rfl) ?_
        refine lv_iload_n hx hb dX0_ruling_19 rfl (lv_at hl 2 rfl) ?_
        obtain ⟨r_6, hz, hf⟩ := mb_bd1_s hf
        refine gc_i (r0 := r_6) (ws' := (wC_Decrees k b0 P0)) (wr := ([] : va_W)) (va_runV (As := [.int x4_4, .int (97 : Int32), .int x1, .int x2]) (rest := []) ⟨hx, hb, hml, hown, hts⟩ (c_Decrees_ofUse l D k H.size b0 P0 x4_4 (97 : Int32) x1 x2 r_6 hz) (cwV 4 hts gX0_ruling_X0_ofUse rfl rfl rfl (by decide +kernel) ⟨Nat.le_of_ble_eq_true rfl, Nat.le_of_ble_eq_true rfl⟩) (gp_V (ci := 0) (q0 := 0) (q := (RX0, TX0, 8)) hP hD hK hN [0, 1, 2, 3, 4, 5] (by decide +kernel) rfl rfl rfl) rfl rfl hl.1 rfl (lv_room (Nat.le_of_ble_eq_true rfl)) dX0_ruling_20 ⟨Nat.zero_le _, Nat.zero_le _⟩) hP hD hS hA [0, 1, 2, 3, 4, 5] [] rfl rfl (by decide +kernel) (by decide +kernel) [0, 1, 2, 3, 4, 5] (by decide +kernel) rfl (fun H locs hP hD hS => ?_)
        clear hz
        obtain ⟨J44_8, eJ44_8, hf⟩ := mb_jn_s hf
        have j44_9 : ∀ (y_7 : Int32) (H : Heap) (locs : List Loc) (ls : Array Slot), J44_8 y_7 = some z → va_P D vwCl (wC_Decrees k b0 P0) H → va_D A (wC_Decrees k b0 P0) → va_S A s.heap H locs → lv_has ls 6 [(0, .ref (b0 0)), (1, .int x1), (2, .int x2), (3, .int x3), (4, .int x4_4)] → W p l e rm_Decrees_ruling s m args below meth c H locs 0 0 Q (F0 m 44 ls [.int y_7]) := by
          intro y_7 H locs ls hf hP hD hS hl
          have hf := mb_j1 eJ44_8 hf
          obtain ⟨x5_10, e_, hf⟩ := mb_let_s hf
          refine mb_topi e_ ?_
          clear e_
          refine lv_istore (lv' := [(5, .int x5_10), (0, .ref (b0 0)), (1, .int x1), (2, .int x2), (3, .int x3), (4, .int x4_4)]) hx hb dX0_ruling_44 hl (by decide) rfl (fun ls hl => ?_)
          refine lv_iload hx hb dX0_ruling_46 (lv_at hl 0 rfl) ?_
          refine lv_if_eq (tgt := 64) hx hb dX0_ruling_48 (by decide) (fun c_15 => ?_) (fun c_15 => ?_)
          · have hf := mb_if_t c_15 hf
            obtain ⟨x4_11, e_, hf⟩ := mb_let_s hf
            refine lv_iinc (v := x4_11) (lv' := [(4, .int x4_11), (5, .int x5_10), (0, .ref (b0 0)), (1, .int x1), (2, .int x2), (3, .int x3)]) hx hb dX0_ruling_64 hl (k := 5) rfl (by rw [e_]; rfl) (by decide) rfl (fun ls hl => ?_)
            clear e_
            refine lv_goto (tgt := 8) hx hb dX0_ruling_67 (by decide) ?_
            exact ih_3 x4_11 _ _ _ hf hP hD hS (lv_sub hl [2, 3, 4, 5, 0] rfl)
          · have hf := mb_if_f c_15 hf
            refine lv_aload_n hx hb dX0_ruling_51 rfl (lv_at hl 1 rfl) ?_
            refine lv_iload hx hb dX0_ruling_52 (lv_at hl 5 rfl) ?_
            refine lv_iload_n hx hb dX0_ruling_54 rfl (lv_at hl 4 rfl) ?_
            obtain ⟨r_12, hz, hf⟩ := mb_bd1_s hf
            refine gc_i (r0 := r_12) (ws' := (wC_Decrees k b0 P0)) (wr := ([] : va_W)) (va_runV (As := [.int x4_4, .int x3]) (rest := []) ⟨hx, hb, hml, hown, hts⟩ (c_Decrees_onDay l D k H.size b0 P0 x4_4 x3 r_12 hz) (cwV 2 hts gX0_ruling_X0_onDay rfl rfl rfl (by decide +kernel) ⟨Nat.le_of_ble_eq_true rfl, Nat.le_of_ble_eq_true rfl⟩) (gp_V (ci := 0) (q0 := 0) (q := (RX0, TX0, 8)) hP hD hK hN [0, 1, 2, 3, 4, 5] (by decide +kernel) rfl rfl rfl) rfl rfl hl.1 rfl (lv_room (Nat.le_of_ble_eq_true rfl)) dX0_ruling_55 ⟨Nat.zero_le _, Nat.zero_le _⟩) hP hD hS hA [0, 1, 2, 3, 4, 5] [] rfl rfl (by decide +kernel) (by decide +kernel) [0, 1, 2, 3, 4, 5] (by decide +kernel) rfl (fun H locs hP hD hS => ?_)
            clear hz
            refine lv_if_eq (tgt := 64) hx hb dX0_ruling_58 (by decide) (fun c_14 => ?_) (fun c_14 => ?_)
            · have hf := mb_if_t c_14 hf
              obtain ⟨x4_13, e_, hf⟩ := mb_let_s hf
              refine lv_iinc (v := x4_13) (lv' := [(4, .int x4_13), (5, .int x5_10), (0, .ref (b0 0)), (1, .int x1), (2, .int x2), (3, .int x3)]) hx hb dX0_ruling_64 hl (k := 5) rfl (by rw [e_]; rfl) (by decide) rfl (fun ls hl => ?_)
              clear e_
              refine lv_goto (tgt := 8) hx hb dX0_ruling_67 (by decide) ?_
              exact ih_3 x4_13 _ _ _ hf hP hD hS (lv_sub hl [2, 3, 4, 5, 0] rfl)
            · have hf := mb_if_f c_14 hf
              refine lv_iload hx hb dX0_ruling_61 (lv_at hl 5 rfl) ?_
              have hz := Option.some.inj hf
              subst hz
              exact hret _ _ _ _ dX0_ruling_63 hP hD hS
        obtain ⟨J39_16, eJ39_16, hf⟩ := mb_jn_s hf
        have j39_17 : ∀ (H : Heap) (locs : List Loc) (ls : Array Slot), J39_16 = some z → va_P D vwCl (wC_Decrees k b0 P0) H → va_D A (wC_Decrees k b0 P0) → va_S A s.heap H locs → lv_has ls 6 [(0, .ref (b0 0)), (1, .int x1), (2, .int x2), (3, .int x3), (4, .int x4_4)] → W p l e rm_Decrees_ruling s m args below meth c H locs 0 0 Q (F0 m 39 ls []) := by
          intro  H locs ls hf hP hD hS hl
          have hf := mb_j0 eJ39_16 hf
          refine lv_iconst (v := 1) hx hb dX0_ruling_39 (by decide) ?_
          refine lv_goto (tgt := 44) hx hb dX0_ruling_40 (by decide) ?_
          exact j44_9 (1 : Int32) _ _ _ hf hP hD hS (lv_sub hl [0, 1, 2, 3, 4] rfl)
        refine lv_if_ne (tgt := 39) hx hb dX0_ruling_23 (by decide) (fun c_20 => ?_) (fun c_20 => ?_)
        · have hf := mb_if_f c_20 hf
          exact j39_17  _ _ _ hf hP hD hS (lv_sub hl [0, 1, 2, 3, 4] rfl)
        · have hf := mb_if_t c_20 hf
          refine lv_aload_n hx hb dX0_ruling_26 rfl (lv_at hl 0 rfl) ?_
          refine lv_iload hx hb dX0_ruling_27 (lv_at hl 4 rfl) ?_
          refine lv_bipush (v := 98) hx hb dX0_ruling_29 (by decide) ?_
          refine lv_iload_n hx hb dX0_ruling_31 rfl (lv_at hl 1 rfl) ?_
          refine lv_iload_n hx hb dX0_ruling_32 rfl (lv_at hl 2 rfl) ?_
          obtain ⟨r_18, hz, hf⟩ := mb_bd1_s hf
          refine gc_i (r0 := r_18) (ws' := (wC_Decrees k b0 P0)) (wr := ([] : va_W)) (va_runV (As := [.int x4_4, .int (98 : Int32), .int x1, .int x2]) (rest := []) ⟨hx, hb, hml, hown, hts⟩ (c_Decrees_ofUse l D k H.size b0 P0 x4_4 (98 : Int32) x1 x2 r_18 hz) (cwV 4 hts gX0_ruling_X0_ofUse rfl rfl rfl (by decide +kernel) ⟨Nat.le_of_ble_eq_true rfl, Nat.le_of_ble_eq_true rfl⟩) (gp_V (ci := 0) (q0 := 0) (q := (RX0, TX0, 8)) hP hD hK hN [0, 1, 2, 3, 4, 5] (by decide +kernel) rfl rfl rfl) rfl rfl hl.1 rfl (lv_room (Nat.le_of_ble_eq_true rfl)) dX0_ruling_33 ⟨Nat.zero_le _, Nat.zero_le _⟩) hP hD hS hA [0, 1, 2, 3, 4, 5] [] rfl rfl (by decide +kernel) (by decide +kernel) [0, 1, 2, 3, 4, 5] (by decide +kernel) rfl (fun H locs hP hD hS => ?_)
          clear hz
          refine lv_if_eq (tgt := 43) hx hb dX0_ruling_36 (by decide) (fun c_19 => ?_) (fun c_19 => ?_)
          · have hf := mb_if_t c_19 hf
            refine lv_iconst (v := 0) hx hb dX0_ruling_43 (by decide) ?_
            exact j44_9 (0 : Int32) _ _ _ hf hP hD hS (lv_sub hl [0, 1, 2, 3, 4] rfl)
          · have hf := mb_if_f c_19 hf
            exact j39_17  _ _ _ hf hP hD hS (lv_sub hl [0, 1, 2, 3, 4] rfl)
  exact lp8_2 mb_fu x4_1 _ _ _ hf hP hD hS (lv_sub hl [1, 2, 3, 4, 0] rfl)
