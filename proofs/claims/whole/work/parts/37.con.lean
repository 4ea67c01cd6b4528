def f_One_owed (P1 : PI) (P2 : PI) (P3 : PI) (L3 : PL) (x1 : Int32) (x2 : Int32) (x3 : Int32) : Option (Int64 × PI × PL) := mb_bd1 (f_Papers_told P3 x1) (fun (r_1 : Int32) => (if r_1 = 0 then some ((-1 : Int64), P3, L3) else mb_bd1 (f_One_within x2 (-1 : Int32) (9999 : Int32)) (fun (r_2 : Int32) => (if r_2 = 0 then some ((-1 : Int64), P3, L3) else mb_bd1 (f_One_within x3 (0 : Int32) (1 : Int32)) (fun (r_3 : Int32) => (if r_3 = 0 then some ((-1 : Int64), P3, L3) else mb_jn (fun (y_4 : Int32) => mb_let y_4 (fun (x4_7 : Int32) => mb_bd3 (f_Papers_reckon P3 L3 P1 P2 x1 x4_7) (fun (r_8 : Int32) (P3_9 : PI) (L3_10 : PL) => (if r_8 = 0 then some ((-4 : Int64), P3_9, L3_10) else (if x3 = 0 then some ((L3_10 0 6), P3_9, L3_10) else some ((L3_10 0 7), P3_9, L3_10)))))) (fun J53_5 => (if x2 = (-1 : Int32) then mb_chk x1 10 (J53_5 (P3 3 x1.toNatClampNeg)) else J53_5 x2))))))))
def rm_One_owed : Room := { frames := 4, cells := 0, slots := 0, locals := 98 }
set_option maxHeartbeats 4000000 in
set_option maxRecDepth 100000 in
theorem c_One_owed (l : Launch) (D : va_G) (k : Nat → ClassId) (sz : Nat) (a0 : Nat → Nat → Nat) (P0 : PI) (P1 : PI) (P2 : PI) (P3 : PI) (L3 : PL) (x1 : Int32) (x2 : Int32) (x3 : Int32) (z : Int64 × PI × PL) (hf : f_One_owed P1 P2 P3 L3 x1 x2 x3 = some z) : Met l yX11_owed wsX11_owed rm_One_owed (va_Pc [.ref (a0 0 0), .int x1, .int x2, .int x3] (gw_pre D vwCl (tyL k) (wC_One k a0 P0 ++ (wC_Units k (a0 1) P1 ++ (wC_Decrees k (a0 7) P2 ++ (wC_Papers k (a0 8) P3 L3)))) sz)) (va_Ql (fun (r : Int64) (_ : Unit) => r = z.1) (gw_b D vwCl (tyL k) (va_A (wC_One k a0 P0 ++ (wC_Units k (a0 1) P1 ++ (wC_Decrees k (a0 7) P2 ++ (wC_Papers k (a0 8) P3 L3)))) sz) (wC_One k a0 P0 ++ (wC_Units k (a0 1) P1 ++ (wC_Decrees k (a0 7) P2 ++ (wC_Papers k (a0 8) z.2.1 z.2.2))))) (va_A (wC_One k a0 P0 ++ (wC_Units k (a0 1) P1 ++ (wC_Decrees k (a0 7) P2 ++ (wC_Papers k (a0 8) P3 L3)))) sz)) 0 0 (va_A (wC_One k a0 P0 ++ (wC_Units k (a0 1) P1 ++ (wC_Decrees k (a0 7) P2 ++ (wC_Papers k (a0 8) P3 L3)))) sz) := by
  refine gm_l (cc := cX11_owed) (maxL := 5) (by decide) rfl (Nat.le_of_ble_eq_true rfl) ?_
  intro p e s m args below meth c A Q ls H locs hx hb hml hown hts hK hN hA hP hD hS hl hret
  have hown : s.vm.findClass RX11 = some m.cls := hown
  have hl : lv_has ls 5 [(0, .ref (a0 0 0)), (1, .int x1), (2, .int x2), (3, .int x3)] := hl
  have iw_One : ∀ w ∈ u_ws RX11 TX11 16, w ∈ wsX11_owed := by decide +kernel
  have iw_Papers : ∀ w ∈ u_ws RX3 TX3 9, w ∈ wsX11_owed := by decide +kernel
  have fl_10 := hts (.fieldLink RX11 10 "OneMeasure" "units" "LOneMeasure$Units;") (by decide +kernel)
  have fl_54 := hts (.fieldLink RX11 54 "OneMeasure" "decrees" "LOneMeasure$Decrees;") (by decide +kernel)
  have fl_61 := hts (.fieldLink RX11 61 "OneMeasure" "papers" "LOneMeasure$Papers;") (by decide +kernel)
  have fl_245 := hts (.fieldLink RX11 245 "OneMeasure$Papers" "day" "[I") (by decide +kernel)
  have fl_251 := hts (.fieldLink RX11 251 "OneMeasure$Papers" "least" "J") (by decide +kernel)
  have fl_252 := hts (.fieldLink RX11 252 "OneMeasure$Papers" "most" "J") (by decide +kernel)
  have lc_133 := hts (.constantLong RX11 133 (-1)) (by decide +kernel)
  have lc_155 := hts (.constantLong RX11 155 (-4)) (by decide +kernel)
  unfold f_One_owed at hf
  refine lv_aload_n hx hb dX11_owed_0 rfl (lv_at hl 0 rfl) ?_
  refine va_get (D := D) (ci := 11) (v := .ref (a0 8 0)) (C := RX11) (T := TX11) (N := 16) hx hb hts iw_One hown hK hP 0 rfl rfl 7 (by decide) fl_61 (fun _ h9 => h9) rfl dX11_owed_1 ?_
  refine lv_iload_n hx hb dX11_owed_4 rfl (lv_at hl 1 rfl) ?_
  obtain ⟨r_1, hz, hf⟩ := mb_bd1_s hf
  refine gc_i (r0 := r_1) (ws' := (wC_One k a0 P0 ++ (wC_Units k (a0 1) P1 ++ (wC_Decrees k (a0 7) P2 ++ (wC_Papers k (a0 8) P3 L3))))) (wr := (wC_One k a0 P0 ++ (wC_Units k (a0 1) P1 ++ (wC_Decrees k (a0 7) P2)))) (va_runV (As := [.int x1]) (rest := []) ⟨hx, hb, hml, hown, hts⟩ (c_Papers_told l D k H.size (a0 8) P3 L3 x1 r_1 hz) (cwV 1 hts gX11_owed_X3_told rfl rfl rfl (by decide +kernel) ⟨Nat.le_of_ble_eq_true rfl, Nat.le_of_ble_eq_true rfl⟩) (gp_V (ci := 3) (q0 := 0) (q := (RX3, TX3, 9)) hP hD hK hN [14, 15, 16, 17, 18, 19] (by decide +kernel) rfl rfl rfl) rfl rfl hl.1 rfl (lv_room (Nat.le_of_ble_eq_true rfl)) dX11_owed_5 ⟨Nat.zero_le _, Nat.zero_le _⟩) hP hD hS hA [14, 15, 16, 17, 18, 19] [0, 1, 2, 3, 4, 5, 6, 7, 8, 9, 10, 11, 12, 13] rfl rfl (by decide +kernel) (by decide +kernel) [0, 1, 2, 3, 4, 5, 6, 7, 8, 9, 10, 11, 12, 13, 14, 15, 16, 17, 18, 19] (by decide +kernel) rfl (fun H locs hP hD hS => ?_)
  clear hz
  refine lv_if_eq (tgt := 31) hx hb dX11_owed_8 (by decide) (fun c_17 => ?_) (fun c_17 => ?_)
  · have hf := mb_if_t c_17 hf
    refine lv_ldc2 (v := (-1)) hx hb hown lc_133 dX11_owed_31 ?_
    have hz := Option.some.inj hf
    subst hz
    exact hret _ _ _ _ dX11_owed_34 hP hD hS
  · have hf := mb_if_f c_17 hf
    refine lv_iload_n hx hb dX11_owed_11 rfl (lv_at hl 2 rfl) ?_
    refine lv_iconst (v := (-1)) hx hb dX11_owed_12 (by decide) ?_
    refine lv_sipush (v := 9999) hx hb dX11_owed_13 (by decide) ?_
    obtain ⟨r_2, hz, hf⟩ := mb_bd1_s hf
    refine gc_i (r0 := r_2) (ws' := (wC_One k a0 P0 ++ (wC_Units k (a0 1) P1 ++ (wC_Decrees k (a0 7) P2 ++ (wC_Papers k (a0 8) P3 L3))))) (wr := (wC_One k a0 P0 ++ (wC_Units k (a0 1) P1 ++ (wC_Decrees k (a0 7) P2 ++ (wC_Papers k (a0 8) P3 L3))))) (va_runS (As := [.int x2, .int (-1 : Int32), .int (9999 : Int32)]) (rest := []) ⟨hx, hb, hml, hown, hts⟩ (c_One_within l D k H.size x2 (-1 : Int32) (9999 : Int32) r_2 hz) (cwS 3 hts gX11_owed_X11_within rfl rfl rfl (by decide +kernel) ⟨Nat.le_of_ble_eq_true rfl, Nat.le_of_ble_eq_true rfl⟩) (gp_S hP hD hK hN [] (by decide +kernel) rfl) rfl rfl hl.1 rfl (lv_room (Nat.le_of_ble_eq_true rfl)) dX11_owed_16 ⟨Nat.zero_le _, Nat.zero_le _⟩) hP hD hS hA [] [0, 1, 2, 3, 4, 5, 6, 7, 8, 9, 10, 11, 12, 13, 14, 15, 16, 17, 18, 19] rfl rfl (by decide +kernel) (by decide +kernel) [0, 1, 2, 3, 4, 5, 6, 7, 8, 9, 10, 11, 12, 13, 14, 15, 16, 17, 18, 19] (by decide +kernel) rfl (fun H locs hP hD hS => ?_)
    clear hz
    refine lv_if_eq (tgt := 31) hx hb dX11_owed_19 (by decide) (fun c_16 => ?_) (fun c_16 => ?_)
    · have hf := mb_if_t c_16 hf
      refine lv_ldc2 (v := (-1)) hx hb hown lc_133 dX11_owed_31 ?_
      have hz := Option.some.inj hf
      subst hz
      exact hret _ _ _ _ dX11_owed_34 hP hD hS
    · have hf := mb_if_f c_16 hf
      refine lv_iload_n hx hb dX11_owed_22 rfl (lv_at hl 3 rfl) ?_
      refine lv_iconst (v := 0) hx hb dX11_owed_23 (by decide) ?_
      refine lv_iconst (v := 1) hx hb dX11_owed_24 (by decide) ?_
      obtain ⟨r_3, hz, hf⟩ := mb_bd1_s hf
      refine gc_i (r0 := r_3) (ws' := (wC_One k a0 P0 ++ (wC_Units k (a0 1) P1 ++ (wC_Decrees k (a0 7) P2 ++ (wC_Papers k (a0 8) P3 L3))))) (wr := (wC_One k a0 P0 ++ (wC_Units k (a0 1) P1 ++ (wC_Decrees k (a0 7) P2 ++ (wC_Papers k (a0 8) P3 L3))))) (va_runS (As := [.int x3, .int (0 : Int32), .int (1 : Int32)]) (rest := []) ⟨hx, hb, hml, hown, hts⟩ (c_One_within l D k H.size x3 (0 : Int32) (1 : Int32) r_3 hz) (cwS 3 hts gX11_owed_X11_within rfl rfl rfl (by decide +kernel) ⟨Nat.le_of_ble_eq_true rfl, Nat.le_of_ble_eq_true rfl⟩) (gp_S hP hD hK hN [] (by decide +kernel) rfl) rfl rfl hl.1 rfl (lv_room (Nat.le_of_ble_eq_true rfl)) dX11_owed_25 ⟨Nat.zero_le _, Nat.zero_le _⟩) hP hD hS hA [] [0, 1, 2, 3, 4, 5, 6, 7, 8, 9, 10, 11, 12, 13, 14, 15, 16, 17, 18, 19] rfl rfl (by decide +kernel) (by decide +kernel) [0, 1, 2, 3, 4, 5, 6, 7, 8, 9, 10, 11, 12, 13, 14, 15, 16, 17, 18, 19] (by decide +kernel) rfl (fun H locs hP hD hS => ?_)
      clear hz
      refine lv_if_ne (tgt := 35) hx hb dX11_owed_28 (by decide) (fun c_15 => ?_) (fun c_15 => ?_)
      · have hf := mb_if_f c_15 hf
        refine lv_iload_n hx hb dX11_owed_35 rfl (lv_at hl 2 rfl) ?_
        refine lv_iconst (v := (-1)) hx hb dX11_owed_36 (by decide) ?_
        obtain ⟨J53_5, eJ53_5, hf⟩ := mb_jn_s hf
        have j53_6 : ∀ (y_4 : Int32) (H : Heap) (locs : List Loc) (ls : Array Slot), J53_5 y_4 = some z → va_P D vwCl (wC_One k a0 P0 ++ (wC_Units k (a0 1) P1 ++ (wC_Decrees k (a0 7) P2 ++ (wC_Papers k (a0 8) P3 L3)))) H → va_D A (wC_One k a0 P0 ++ (wC_Units k (a0 1) P1 ++ (wC_Decrees k (a0 7) P2 ++ (wC_Papers k (a0 8) P3 L3)))) → va_S A s.heap H locs → lv_has ls 5 [(0, .ref (a0 0 0)), (1, .int x1), (3, .int x3)] → W p l e rm_One_owed s m args below meth c H locs 0 0 Q (F0 m 53 ls [.int y_4]) := by
          intro y_4 H locs ls hf hP hD hS hl
          have hf := mb_j1 eJ53_5 hf
          obtain ⟨x4_7, e_, hf⟩ := mb_let_s hf
          refine mb_topi e_ ?_
          clear e_
          refine lv_istore (lv' := [(4, .int x4_7), (0, .ref (a0 0 0)), (1, .int x1), (3, .int x3)]) hx hb dX11_owed_53 hl (by decide) rfl (fun ls hl => ?_)
          refine lv_aload_n hx hb dX11_owed_55 rfl (lv_at hl 1 rfl) ?_
          refine va_get (D := D) (ci := 11) (v := .ref (a0 8 0)) (C := RX11) (T := TX11) (N := 16) hx hb hts iw_One hown hK hP 0 rfl rfl 7 (by decide) fl_61 (fun _ h9 => h9) rfl dX11_owed_56 ?_
          refine lv_iload_n hx hb dX11_owed_59 rfl (lv_at hl 2 rfl) ?_
          refine lv_iload hx hb dX11_owed_60 (lv_at hl 0 rfl) ?_
          refine lv_aload_n hx hb dX11_owed_62 rfl (lv_at hl 1 rfl) ?_
          refine va_get (D := D) (ci := 11) (v := .ref (a0 1 0)) (C := RX11) (T := TX11) (N := 16) hx hb hts iw_One hown hK hP 0 rfl rfl 0 (by decide) fl_10 (fun _ h9 => h9) rfl dX11_owed_63 ?_
          refine lv_aload_n hx hb dX11_owed_66 rfl (lv_at hl 1 rfl) ?_
          refine va_get (D := D) (ci := 11) (v := .ref (a0 7 0)) (C := RX11) (T := TX11) (N := 16) hx hb hts iw_One hown hK hP 0 rfl rfl 6 (by decide) fl_54 (fun _ h9 => h9) rfl dX11_owed_67 ?_
          obtain ⟨r_8, P3_9, L3_10, hz, hf⟩ := mb_bd3_s hf
          refine gc_i (r0 := r_8) (ws' := (wC_One k a0 P0 ++ (wC_Units k (a0 1) P1 ++ (wC_Decrees k (a0 7) P2 ++ (wC_Papers k (a0 8) P3_9 L3_10))))) (wr := (wC_One k a0 P0)) (va_runV (As := [.int x1, .int x4_7, .ref (a0 1 0), .ref (a0 7 0)]) (rest := []) ⟨hx, hb, hml, hown, hts⟩ (c_Papers_reckon l D k H.size (a0 8) (a0 1) (a0 7) P3 L3 P1 P2 x1 x4_7 (r_8, P3_9, L3_10) hz) (cwV 4 hts gX11_owed_X3_reckon rfl rfl rfl (by decide +kernel) ⟨Nat.le_of_ble_eq_true rfl, Nat.le_of_ble_eq_true rfl⟩) (gp_V (ci := 3) (q0 := 0) (q := (RX3, TX3, 9)) hP hD hK hN [14, 15, 16, 17, 18, 19, 4, 5, 6, 7, 8, 9, 10, 11, 12, 13] (by decide +kernel) rfl rfl rfl) rfl rfl hl.1 rfl (lv_room (Nat.le_of_ble_eq_true rfl)) dX11_owed_70 ⟨Nat.zero_le _, Nat.zero_le _⟩) hP hD hS hA [14, 15, 16, 17, 18, 19, 4, 5, 6, 7, 8, 9, 10, 11, 12, 13] [0, 1, 2, 3] rfl rfl (by decide +kernel) (by decide +kernel) [0, 1, 2, 3, 10, 11, 12, 13, 14, 15, 16, 17, 18, 19, 4, 5, 6, 7, 8, 9] (by decide +kernel) rfl (fun H locs hP hD hS => ?_)
          clear hz
          refine lv_if_ne (tgt := 80) hx hb dX11_owed_73 (by decide) (fun c_12 => ?_) (fun c_12 => ?_)
          · have hf := mb_if_f c_12 hf
            refine lv_iload_n hx hb dX11_owed_80 rfl (lv_at hl 3 rfl) ?_
            refine lv_if_ne (tgt := 94) hx hb dX11_owed_81 (by decide) (fun c_11 => ?_) (fun c_11 => ?_)
            · have hf := mb_if_f c_11 hf
              refine lv_aload_n hx hb dX11_owed_94 rfl (lv_at hl 1 rfl) ?_
              refine va_get (D := D) (ci := 11) (v := .ref (a0 8 0)) (C := RX11) (T := TX11) (N := 16) hx hb hts iw_One hown hK hP 0 rfl rfl 7 (by decide) fl_61 (fun _ h9 => h9) rfl dX11_owed_95 ?_
              refine va_get (D := D) (ci := 3) (v := .long (L3_10 0 7)) (C := RX3) (T := TX3) (N := 9) hx hb hts iw_Papers hown hK hP 14 rfl rfl 7 (by decide) fl_252 (fun _ h9 => h9) rfl dX11_owed_98 ?_
              have hz := Option.some.inj hf
              subst hz
              exact hret _ _ _ _ dX11_owed_101 hP hD hS
            · have hf := mb_if_t c_11 hf
              refine lv_aload_n hx hb dX11_owed_84 rfl (lv_at hl 1 rfl) ?_
              refine va_get (D := D) (ci := 11) (v := .ref (a0 8 0)) (C := RX11) (T := TX11) (N := 16) hx hb hts iw_One hown hK hP 0 rfl rfl 7 (by decide) fl_61 (fun _ h9 => h9) rfl dX11_owed_85 ?_
              refine va_get (D := D) (ci := 3) (v := .long (L3_10 0 6)) (C := RX3) (T := TX3) (N := 9) hx hb hts iw_Papers hown hK hP 14 rfl rfl 6 (by decide) fl_251 (fun _ h9 => h9) rfl dX11_owed_88 ?_
              refine lv_goto (tgt := 101) hx hb dX11_owed_91 (by decide) ?_
              have hz := Option.some.inj hf
              subst hz
              exact hret _ _ _ _ dX11_owed_101 hP hD hS
          · have hf := mb_if_t c_12 hf
            refine lv_ldc2 (v := (-4)) hx hb hown lc_155 dX11_owed_76 ?_
            have hz := Option.some.inj hf
            subst hz
            exact hret _ _ _ _ dX11_owed_79 hP hD hS
        refine lv_icmp_ne (tgt := 52) hx hb dX11_owed_37 (by decide) (fun c_14 => ?_) (fun c_14 => ?_)
        · have hf := mb_if_f c_14 hf
          refine lv_iload_n hx hb dX11_owed_52 rfl (lv_at hl 2 rfl) ?_
          exact j53_6 x2 _ _ _ hf hP hD hS (lv_sub hl [0, 1, 3] rfl)
        · have hf := mb_if_t c_14 hf
          refine lv_aload_n hx hb dX11_owed_40 rfl (lv_at hl 0 rfl) ?_
          refine va_get (D := D) (ci := 11) (v := .ref (a0 8 0)) (C := RX11) (T := TX11) (N := 16) hx hb hts iw_One hown hK hP 0 rfl rfl 7 (by decide) fl_61 (fun _ h9 => h9) rfl dX11_owed_41 ?_
          refine va_get (D := D) (ci := 3) (v := .ref (a0 8 3)) (C := RX3) (T := TX3) (N := 9) hx hb hts iw_Papers hown hK hP 14 rfl rfl 2 (by decide) fl_245 (fun _ h9 => h9) rfl dX11_owed_44 ?_
          refine lv_iload_n hx hb dX11_owed_47 rfl (lv_at hl 1 rfl) ?_
          obtain ⟨h_13, hf⟩ := mb_chk_s hf
          refine va_iald hx hb hK hP 17 0 rfl rfl h_13 dX11_owed_48 ?_
          refine lv_goto (tgt := 53) hx hb dX11_owed_49 (by decide) ?_
          exact j53_6 (P3 3 x1.toNatClampNeg) _ _ _ hf hP hD hS (lv_sub hl [0, 1, 3] rfl)
      · have hf := mb_if_t c_15 hf
        refine lv_ldc2 (v := (-1)) hx hb hown lc_133 dX11_owed_31 ?_
        have hz := Option.some.inj hf
        subst hz
        exact hret _ _ _ _ dX11_owed_34 hP hD hS
def f_One_gained (P1 : PI) (P2 : PI) (P3 : PI) (L3 : PL) (x1 : Int32) (x2 : Int32) : Option (Int64 × PI × PL) := mb_bd1 (f_Papers_told P3 x1) (fun (r_1 : Int32) => (if r_1 = 0 then some ((-1000000000000000 : Int64), P3, L3) else mb_bd1 (f_One_isDay x2) (fun (r_2 : Int32) => (if r_2 = 0 then some ((-1000000000000000 : Int64), P3, L3) else mb_chk x1 10 (mb_bd3 (f_Papers_reckon P3 L3 P1 P2 x1 (P3 3 x1.toNatClampNeg)) (fun (r_4 : Int32) (P3_5 : PI) (L3_6 : PL) => (if r_4 = 0 then some ((-1000000000000004 : Int64), P3_5, L3_6) else mb_let (L3_6 0 6) (fun (x3_7 : Int64) => mb_bd3 (f_Papers_reckon P3_5 L3_6 P1 P2 x1 x2) (fun (r_8 : Int32) (P3_9 : PI) (L3_10 : PL) => (if r_8 = 0 then some ((-1000000000000004 : Int64), P3_9, L3_10) else some (((L3_10 0 7) - x3_7), P3_9, L3_10)))))))))))
def rm_One_gained : Room := { frames := 4, cells := 0, slots := 0, locals := 98 }
set_option maxHeartbeats 4000000 in
set_option maxRecDepth 100000 in
theorem c_One_gained (l : Launch) (D : va_G) (k : Nat → ClassId) (sz : Nat) (a0 : Nat → Nat → Nat) (P0 : PI) (P1 : PI) (P2 : PI) (P3 : PI) (L3 : PL) (x1 : Int32) (x2 : Int32) (z : Int64 × PI × PL) (hf : f_One_gained P1 P2 P3 L3 x1 x2 = some z) : Met l yX11_gained wsX11_gained rm_One_gained (va_Pc [.ref (a0 0 0), .int x1, .int x2] (gw_pre D vwCl (tyL k) (wC_One k a0 P0 ++ (wC_Units k (a0 1) P1 ++ (wC_Decrees k (a0 7) P2 ++ (wC_Papers k (a0 8) P3 L3)))) sz)) (va_Ql (fun (r : Int64) (_ : Unit) => r = z.1) (gw_b D vwCl (tyL k) (va_A (wC_One k a0 P0 ++ (wC_Units k (a0 1) P1 ++ (wC_Decrees k (a0 7) P2 ++ (wC_Papers k (a0 8) P3 L3)))) sz) (wC_One k a0 P0 ++ (wC_Units k (a0 1) P1 ++ (wC_Decrees k (a0 7) P2 ++ (wC_Papers k (a0 8) z.2.1 z.2.2))))) (va_A (wC_One k a0 P0 ++ (wC_Units k (a0 1) P1 ++ (wC_Decrees k (a0 7) P2 ++ (wC_Papers k (a0 8) P3 L3)))) sz)) 0 0 (va_A (wC_One k a0 P0 ++ (wC_Units k (a0 1) P1 ++ (wC_Decrees k (a0 7) P2 ++ (wC_Papers k (a0 8) P3 L3)))) sz) := by
  refine gm_l (cc := cX11_gained) (maxL := 5) (by decide) rfl (Nat.le_of_ble_eq_true rfl) ?_
  intro p e s m args below meth c A Q ls H locs hx hb hml hown hts hK hN hA hP hD hS hl hret
  have hown : s.vm.findClass RX11 = some m.cls := hown
  have hl : lv_has ls 5 [(0, .ref (a0 0 0)), (1, .int x1), (2, .int x2)] := hl
  have iw_One : ∀ w ∈ u_ws RX11 TX11 16, w ∈ wsX11_gained := by decide +kernel
  have iw_Papers : ∀ w ∈ u_ws RX3 TX3 9, w ∈ wsX11_gained := by decide +kernel
  have fl_10 := hts (.fieldLink RX11 10 "OneMeasure" "units" "LOneMeasure$Units;") (by decide +kernel)
  have fl_54 := hts (.fieldLink RX11 54 "OneMeasure" "decrees" "LOneMeasure$Decrees;") (by decide +kernel)
  have fl_61 := hts (.fieldLink RX11 61 "OneMeasure" "papers" "LOneMeasure$Papers;") (by decide +kernel)
  have fl_245 := hts (.fieldLink RX11 245 "OneMeasure$Papers" "day" "[I") (by decide +kernel)
  have fl_251 := hts (.fieldLink RX11 251 "OneMeasure$Papers" "least" "J") (by decide +kernel)
  have fl_252 := hts (.fieldLink RX11 252 "OneMeasure$Papers" "most" "J") (by decide +kernel)
  have lc_255 := hts (.constantLong RX11 255 (-1000000000000000)) (by decide +kernel)
  have lc_257 := hts (.constantLong RX11 257 (-1000000000000004)) (by decide +kernel)
  unfold f_One_gained at hf
  refine lv_aload_n hx hb dX11_gained_0 rfl (lv_at hl 0 rfl) ?_
  refine va_get (D := D) (ci := 11) (v := .ref (a0 8 0)) (C := RX11) (T := TX11) (N := 16) hx hb hts iw_One hown hK hP 0 rfl rfl 7 (by decide) fl_61 (fun _ h9 => h9) rfl dX11_gained_1 ?_
  refine lv_iload_n hx hb dX11_gained_4 rfl (lv_at hl 1 rfl) ?_
  obtain ⟨r_1, hz, hf⟩ := mb_bd1_s hf
  refine gc_i (r0 := r_1) (ws' := (wC_One k a0 P0 ++ (wC_Units k (a0 1) P1 ++ (wC_Decrees k (a0 7) P2 ++ (wC_Papers k (a0 8) P3 L3))))) (wr := (wC_One k a0 P0 ++ (wC_Units k (a0 1) P1 ++ (wC_Decrees k (a0 7) P2)))) (va_runV (As := [.int x1]) (rest := []) ⟨hx, hb, hml, hown, hts⟩ (c_Papers_told l D k H.size (a0 8) P3 L3 x1 r_1 hz) (cwV 1 hts gX11_gained_X3_told rfl rfl rfl (by decide +kernel) ⟨Nat.le_of_ble_eq_true rfl, Nat.le_of_ble_eq_true rfl⟩) (gp_V (ci := 3) (q0 := 0) (q := (RX3, TX3, 9)) hP hD hK hN [14, 15, 16, 17, 18, 19] (by decide +kernel) rfl rfl rfl) rfl rfl hl.1 rfl (lv_room (Nat.le_of_ble_eq_true rfl)) dX11_gained_5 ⟨Nat.zero_le _, Nat.zero_le _⟩) hP hD hS hA [14, 15, 16, 17, 18, 19] [0, 1, 2, 3, 4, 5, 6, 7, 8, 9, 10, 11, 12, 13] rfl rfl (by decide +kernel) (by decide +kernel) [0, 1, 2, 3, 4, 5, 6, 7, 8, 9, 10, 11, 12, 13, 14, 15, 16, 17, 18, 19] (by decide +kernel) rfl (fun H locs hP hD hS => ?_)
  clear hz
  refine lv_if_eq (tgt := 18) hx hb dX11_gained_8 (by decide) (fun c_14 => ?_) (fun c_14 => ?_)
  · have hf := mb_if_t c_14 hf
    refine lv_ldc2 (v := (-1000000000000000)) hx hb hown lc_255 dX11_gained_18 ?_
    have hz := Option.some.inj hf
    subst hz
    exact hret _ _ _ _ dX11_gained_21 hP hD hS
  · have hf := mb_if_f c_14 hf
    refine lv_iload_n hx hb dX11_gained_11 rfl (lv_at hl 2 rfl) ?_
    obtain ⟨r_2, hz, hf⟩ := mb_bd1_s hf
    refine gc_i (r0 := r_2) (ws' := (wC_One k a0 P0 ++ (wC_Units k (a0 1) P1 ++ (wC_Decrees k (a0 7) P2 ++ (wC_Papers k (a0 8) P3 L3))))) (wr := (wC_One k a0 P0 ++ (wC_Units k (a0 1) P1 ++ (wC_Decrees k (a0 7) P2 ++ (wC_Papers k (a0 8) P3 L3))))) (va_runS (As := [.int x2]) (rest := []) ⟨hx, hb, hml, hown, hts⟩ (c_One_isDay l D k H.size x2 r_2 hz) (cwS 1 hts gX11_gained_X11_isDay rfl rfl rfl (by decide +kernel) ⟨Nat.le_of_ble_eq_true rfl, Nat.le_of_ble_eq_true rfl⟩) (gp_S hP hD hK hN [] (by decide +kernel) rfl) rfl rfl hl.1 rfl (lv_room (Nat.le_of_ble_eq_true rfl)) dX11_gained_12 ⟨Nat.zero_le _, Nat.zero_le _⟩) hP hD hS hA [] [0, 1, 2, 3, 4, 5, 6, 7, 8, 9, 10, 11, 12, 13, 14, 15, 16, 17, 18, 19] rfl rfl (by decide +kernel) (by decide +kernel) [0, 1, 2, 3, 4, 5, 6, 7, 8, 9, 10, 11, 12, 13, 14, 15, 16, 17, 18, 19] (by decide +kernel) rfl (fun H locs hP hD hS => ?_)
    clear hz
    refine lv_if_ne (tgt := 22) hx hb dX11_gained_15 (by decide) (fun c_13 => ?_) (fun c_13 => ?_)
    · have hf := mb_if_f c_13 hf
      refine lv_aload_n hx hb dX11_gained_22 rfl (lv_at hl 0 rfl) ?_
      refine va_get (D := D) (ci := 11) (v := .ref (a0 8 0)) (C := RX11) (T := TX11) (N := 16) hx hb hts iw_One hown hK hP 0 rfl rfl 7 (by decide) fl_61 (fun _ h9 => h9) rfl dX11_gained_23 ?_
      refine lv_iload_n hx hb dX11_gained_26 rfl (lv_at hl 1 rfl) ?_
      refine lv_aload_n hx hb dX11_gained_27 rfl (lv_at hl 0 rfl) ?_
      refine va_get (D := D) (ci := 11) (v := .ref (a0 8 0)) (C := RX11) (T := TX11) (N := 16) hx hb hts iw_One hown hK hP 0 rfl rfl 7 (by decide) fl_61 (fun _ h9 => h9) rfl dX11_gained_28 ?_
      refine va_get (D := D) (ci := 3) (v := .ref (a0 8 3)) (C := RX3) (T := TX3) (N := 9) hx hb hts iw_Papers hown hK hP 14 rfl rfl 2 (by decide) fl_245 (fun _ h9 => h9) rfl dX11_gained_31 ?_
      refine lv_iload_n hx hb dX11_gained_34 rfl (lv_at hl 1 rfl) ?_
      obtain ⟨h_3, hf⟩ := mb_chk_s hf
      refine va_iald hx hb hK hP 17 0 rfl rfl h_3 dX11_gained_35 ?_
      refine lv_aload_n hx hb dX11_gained_36 rfl (lv_at hl 0 rfl) ?_
      refine va_get (D := D) (ci := 11) (v := .ref (a0 1 0)) (C := RX11) (T := TX11) (N := 16) hx hb hts iw_One hown hK hP 0 rfl rfl 0 (by decide) fl_10 (fun _ h9 => h9) rfl dX11_gained_37 ?_
      refine lv_aload_n hx hb dX11_gained_40 rfl (lv_at hl 0 rfl) ?_
      refine va_get (D := D) (ci := 11) (v := .ref (a0 7 0)) (C := RX11) (T := TX11) (N := 16) hx hb hts iw_One hown hK hP 0 rfl rfl 6 (by decide) fl_54 (fun _ h9 => h9) rfl dX11_gained_41 ?_
      obtain ⟨r_4, P3_5, L3_6, hz, hf⟩ := mb_bd3_s hf
      refine gc_i (r0 := r_4) (ws' := (wC_One k a0 P0 ++ (wC_Units k (a0 1) P1 ++ (wC_Decrees k (a0 7) P2 ++ (wC_Papers k (a0 8) P3_5 L3_6))))) (wr := (wC_One k a0 P0)) (va_runV (As := [.int x1, .int (P3 3 x1.toNatClampNeg), .ref (a0 1 0), .ref (a0 7 0)]) (rest := []) ⟨hx, hb, hml, hown, hts⟩ (c_Papers_reckon l D k H.size (a0 8) (a0 1) (a0 7) P3 L3 P1 P2 x1 (P3 3 x1.toNatClampNeg) (r_4, P3_5, L3_6) hz) (cwV 4 hts gX11_gained_X3_reckon rfl rfl rfl (by decide +kernel) ⟨Nat.le_of_ble_eq_true rfl, Nat.le_of_ble_eq_true rfl⟩) (gp_V (ci := 3) (q0 := 0) (q := (RX3, TX3, 9)) hP hD hK hN [14, 15, 16, 17, 18, 19, 4, 5, 6, 7, 8, 9, 10, 11, 12, 13] (by decide +kernel) rfl rfl rfl) rfl rfl hl.1 rfl (lv_room (Nat.le_of_ble_eq_true rfl)) dX11_gained_44 ⟨Nat.zero_le _, Nat.zero_le _⟩) hP hD hS hA [14, 15, 16, 17, 18, 19, 4, 5, 6, 7, 8, 9, 10, 11, 12, 13] [0, 1, 2, 3] rfl rfl (by decide +kernel) (by decide +kernel) [0, 1, 2, 3, 10, 11, 12, 13, 14, 15, 16, 17, 18, 19, 4, 5, 6, 7, 8, 9] (by decide +kernel) rfl (fun H locs hP hD hS => ?_)
      clear hz
      refine lv_if_ne (tgt := 54) hx hb dX11_gained_47 (by decide) (fun c_12 => ?_) (fun c_12 => ?_)
      · have hf := mb_if_f c_12 hf
        refine lv_aload_n hx hb dX11_gained_54 rfl (lv_at hl 0 rfl) ?_
        refine va_get (D := D) (ci := 11) (v := .ref (a0 8 0)) (C := RX11) (T := TX11) (N := 16) hx hb hts iw_One hown hK hP 0 rfl rfl 7 (by decide) fl_61 (fun _ h9 => h9) rfl dX11_gained_55 ?_
        refine va_get (D := D) (ci := 3) (v := .long (L3_6 0 6)) (C := RX3) (T := TX3) (N := 9) hx hb hts iw_Papers hown hK hP 14 rfl rfl 6 (by decide) fl_251 (fun _ h9 => h9) rfl dX11_gained_58 ?_
        obtain ⟨x3_7, e_, hf⟩ := mb_let_s hf
        refine mb_topl e_ ?_
        clear e_
        refine lv_lstore_n (lv' := [(3, .long x3_7), (0, .ref (a0 0 0)), (1, .int x1), (2, .int x2)]) hx hb dX11_gained_61 rfl hl (by decide) rfl (fun ls hl => ?_)
        refine lv_aload_n hx hb dX11_gained_62 rfl (lv_at hl 1 rfl) ?_
        refine va_get (D := D) (ci := 11) (v := .ref (a0 8 0)) (C := RX11) (T := TX11) (N := 16) hx hb hts iw_One hown hK hP 0 rfl rfl 7 (by decide) fl_61 (fun _ h9 => h9) rfl dX11_gained_63 ?_
        refine lv_iload_n hx hb dX11_gained_66 rfl (lv_at hl 2 rfl) ?_
        refine lv_iload_n hx hb dX11_gained_67 rfl (lv_at hl 3 rfl) ?_
        refine lv_aload_n hx hb dX11_gained_68 rfl (lv_at hl 1 rfl) ?_
        refine va_get (D := D) (ci := 11) (v := .ref (a0 1 0)) (C := RX11) (T := TX11) (N := 16) hx hb hts iw_One hown hK hP 0 rfl rfl 0 (by decide) fl_10 (fun _ h9 => h9) rfl dX11_gained_69 ?_
        refine lv_aload_n hx hb dX11_gained_72 rfl (lv_at hl 1 rfl) ?_
        refine va_get (D := D) (ci := 11) (v := .ref (a0 7 0)) (C := RX11) (T := TX11) (N := 16) hx hb hts iw_One hown hK hP 0 rfl rfl 6 (by decide) fl_54 (fun _ h9 => h9) rfl dX11_gained_73 ?_
        obtain ⟨r_8, P3_9, L3_10, hz, hf⟩ := mb_bd3_s hf
        refine gc_i (r0 := r_8) (ws' := (wC_One k a0 P0 ++ (wC_Units k (a0 1) P1 ++ (wC_Decrees k (a0 7) P2 ++ (wC_Papers k (a0 8) P3_9 L3_10))))) (wr := (wC_One k a0 P0)) (va_runV (As := [.int x1, .int x2, .ref (a0 1 0), .ref (a0 7 0)]) (rest := []) ⟨hx, hb, hml, hown, hts⟩ (c_Papers_reckon l D k H.size (a0 8) (a0 1) (a0 7) P3_5 L3_6 P1 P2 x1 x2 (r_8, P3_9, L3_10) hz) (cwV 4 hts gX11_gained_X3_reckon rfl rfl rfl (by decide +kernel) ⟨Nat.le_of_ble_eq_true rfl, Nat.le_of_ble_eq_true rfl⟩) (gp_V (ci := 3) (q0 := 0) (q := (RX3, TX3, 9)) hP hD hK hN [14, 15, 16, 17, 18, 19, 4, 5, 6, 7, 8, 9, 10, 11, 12, 13] (by decide +kernel) rfl rfl rfl) rfl rfl hl.1 rfl (lv_room (Nat.le_of_ble_eq_true rfl)) dX11_gained_76 ⟨Nat.zero_le _, Nat.zero_le _⟩) hP hD hS hA [14, 15, 16, 17, 18, 19, 4, 5, 6, 7, 8, 9, 10, 11, 12, 13] [0, 1, 2, 3] rfl rfl (by decide +kernel) (by decide +kernel) [0, 1, 2, 3, 10, 11, 12, 13, 14, 15, 16, 17, 18, 19, 4, 5, 6, 7, 8, 9] (by decide +kernel) rfl (fun H locs hP hD hS => ?_)
        clear hz
        refine lv_if_ne (tgt := 86) hx hb dX11_gained_79 (by decide) (fun c_11 => ?_) (fun c_11 => ?_)
        · have hf := mb_if_f c_11 hf
          refine lv_aload_n hx hb dX11_gained_86 rfl (lv_at hl 1 rfl) ?_
          refine va_get (D := D) (ci := 11) (v := .ref (a0 8 0)) (C := RX11) (T := TX11) (N := 16) hx hb hts iw_One hown hK hP 0 rfl rfl 7 (by decide) fl_61 (fun _ h9 => h9) rfl dX11_gained_87 ?_
          refine va_get (D := D) (ci := 3) (v := .long (L3_10 0 7)) (C := RX3) (T := TX3) (N := 9) hx hb hts iw_Papers hown hK hP 14 rfl rfl 7 (by decide) fl_252 (fun _ h9 => h9) rfl dX11_gained_90 ?_
          refine lv_lload_n hx hb dX11_gained_93 rfl (lv_at hl 0 rfl) ?_
          refine lv_lsub hx hb dX11_gained_94 ?_
          have hz := Option.some.inj hf
          subst hz
          exact hret _ _ _ _ dX11_gained_95 hP hD hS
        · have hf := mb_if_t c_11 hf
          refine lv_ldc2 (v := (-1000000000000004)) hx hb hown lc_257 dX11_gained_82 ?_
          have hz := Option.some.inj hf
          subst hz
          exact hret _ _ _ _ dX11_gained_85 hP hD hS
      · have hf := mb_if_t c_12 hf
        refine lv_ldc2 (v := (-1000000000000004)) hx hb hown lc_257 dX11_gained_50 ?_
        have hz := Option.some.inj hf
        subst hz
        exact hret _ _ _ _ dX11_gained_53 hP hD hS
    · have hf := mb_if_t c_13 hf
      refine lv_ldc2 (v := (-1000000000000000)) hx hb hown lc_255 dX11_gained_18 ?_
      have hz := Option.some.inj hf
      subst hz
      exact hret _ _ _ _ dX11_gained_21 hP hD hS
def f_Rods_add (P0 : PI) (x1 : Int32) (x2 : Int32) (x3 : Int32) (x4 : Int32) (x5 : Int32) : Option (Int32 × PI) := mb_chk (P0 0 0) 12 (mb_let (mb_u2 P0 3 (P0 0 0).toNatClampNeg x1) (fun (P0_1 : PI) => mb_chk (P0_1 0 0) 12 (mb_let (mb_u2 P0_1 4 (P0_1 0 0).toNatClampNeg x2) (fun (P0_3 : PI) => mb_chk (P0_3 0 0) 12 (mb_let (mb_u2 P0_3 5 (P0_3 0 0).toNatClampNeg x3) (fun (P0_5 : PI) => mb_chk (P0_5 0 0) 12 (mb_let (mb_u2 P0_5 6 (P0_5 0 0).toNatClampNeg x4) (fun (P0_7 : PI) => mb_chk (P0_7 0 0) 12 (mb_let (mb_u2 P0_7 7 (P0_7 0 0).toNatClampNeg (P0_7 0 1)) (fun (P0_9 : PI) => mb_chk (P0_9 0 0) 12 (mb_let (mb_u2 P0_9 8 (P0_9 0 0).toNatClampNeg (0 : Int32)) (fun (P0_11 : PI) => mb_chk (P0_11 0 0) 12 (mb_let (mb_u2 P0_11 9 (P0_11 0 0).toNatClampNeg x5) (fun (P0_13 : PI) => mb_chk (P0_13 0 0) 12 (mb_let (mb_u2 P0_13 10 (P0_13 0 0).toNatClampNeg (0 : Int32)) (fun (P0_15 : PI) => mb_chk (P0_15 0 0) 12 (mb_let (mb_u2 P0_15 11 (P0_15 0 0).toNatClampNeg (0 : Int32)) (fun (P0_17 : PI) => mb_let (mb_uo P0_17 0 ((P0_17 0 0) + (1 : Int32))) (fun (P0_19 : PI) => some ((P0_17 0 0), P0_19))))))))))))))))))))
def rm_Rods_add : Room := { frames := 0, cells := 0, slots := 0, locals := 0 }
set_option maxHeartbeats 4000000 in
set_option maxRecDepth 100000 in
theorem c_Rods_add (l : Launch) (D : va_G) (k : Nat → ClassId) (sz : Nat) (b0 : Nat → Nat) (P0 : PI) (L0 : PL) (x1 : Int32) (x2 : Int32) (x3 : Int32) (x4 : Int32) (x5 : Int32) (z : Int32 × PI) (hf : f_Rods_add P0 x1 x2 x3 x4 x5 = some z) : Met l yX4_add wsX4_add rm_Rods_add (va_Pc [.ref (b0 0), .int x1, .int x2, .int x3, .int x4, .int x5] (gw_pre D vwCl (tyL k) (wC_Rods k b0 P0 L0) sz)) (va_Qi (fun (r : Int32) (_ : Unit) => r = z.1) (gw_b D vwCl (tyL k) (va_A (wC_Rods k b0 P0 L0) sz) (wC_Rods k b0 z.2 L0)) (va_A (wC_Rods k b0 P0 L0) sz)) 0 0 (va_A (wC_Rods k b0 P0 L0) sz) := by
  refine gm_i (cc := cX4_add) (maxL := 6) (by decide) rfl (Nat.le_of_ble_eq_true rfl) ?_
  intro p e s m args below meth c A Q ls H locs hx hb hml hown hts hK hN hA hP hD hS hl hret
  have hown : s.vm.findClass RX4 = some m.cls := hown
  have hl : lv_has ls 6 [(0, .ref (b0 0)), (1, .int x1), (2, .int x2), (3, .int x3), (4, .int x4), (5, .int x5)] := hl
  have iw_Rods : ∀ w ∈ u_ws RX4 TX4 13, w ∈ wsX4_add := by decide +kernel
  have fl_9 := hts (.fieldLink RX4 9 "OneMeasure$Rods" "count" "I") (by decide +kernel)
  have fl_15 := hts (.fieldLink RX4 15 "OneMeasure$Rods" "week" "I") (by decide +kernel)
  have fl_18 := hts (.fieldLink RX4 18 "OneMeasure$Rods" "unit" "[I") (by decide +kernel)
  have fl_22 := hts (.fieldLink RX4 22 "OneMeasure$Rods" "district" "[I") (by decide +kernel)
  have fl_25 := hts (.fieldLink RX4 25 "OneMeasure$Rods" "offAtFirst" "[I") (by decide +kernel)
  have fl_28 := hts (.fieldLink RX4 28 "OneMeasure$Rods" "wear" "[I") (by decide +kernel)
  have fl_31 := hts (.fieldLink RX4 31 "OneMeasure$Rods" "firstWeek" "[I") (by decide +kernel)
  have fl_34 := hts (.fieldLink RX4 34 "OneMeasure$Rods" "worn" "[I") (by decide +kernel)
  have fl_37 := hts (.fieldLink RX4 37 "OneMeasure$Rods" "sales" "[I") (by decide +kernel)
  have fl_40 := hts (.fieldLink RX4 40 "OneMeasure$Rods" "sealed" "[I") (by decide +kernel)
  have fl_43 := hts (.fieldLink RX4 43 "OneMeasure$Rods" "seized" "[I") (by decide +kernel)
  unfold f_Rods_add at hf
  refine lv_aload_n hx hb dX4_add_0 rfl (lv_at hl 0 rfl) ?_
  refine va_get (D := D) (ci := 4) (v := .ref (b0 3)) (C := RX4) (T := TX4) (N := 13) hx hb hts iw_Rods hown hK hP 0 rfl rfl 2 (by decide) fl_18 (fun _ h9 => h9) rfl dX4_add_1 ?_
  refine lv_aload_n hx hb dX4_add_4 rfl (lv_at hl 0 rfl) ?_
  refine va_get (D := D) (ci := 4) (v := .int (P0 0 0)) (C := RX4) (T := TX4) (N := 13) hx hb hts iw_Rods hown hK hP 0 rfl rfl 0 (by decide) fl_9 (fun _ h9 => h9) rfl dX4_add_5 ?_
  refine lv_iload_n hx hb dX4_add_8 rfl (lv_at hl 1 rfl) ?_
  obtain ⟨h_2, hf⟩ := mb_chk_s hf
  obtain ⟨P0_1, e_, hf⟩ := mb_let_s hf
  refine va_iast hx hb hK hP hD hS 1 0 rfl rfl h_2 dX4_add_9 (fun H locs hP hD hS => ?_)
  have hP : va_P D vwCl (wC_Rods k b0 P0_1 L0) H := by rw [e_]; exact hP
  have hD : va_D A (wC_Rods k b0 P0_1 L0) := by rw [e_]; exact hD
  clear e_
  refine lv_aload_n hx hb dX4_add_10 rfl (lv_at hl 0 rfl) ?_
  refine va_get (D := D) (ci := 4) (v := .ref (b0 4)) (C := RX4) (T := TX4) (N := 13) hx hb hts iw_Rods hown hK hP 0 rfl rfl 3 (by decide) fl_22 (fun _ h9 => h9) rfl dX4_add_11 ?_
  refine lv_aload_n hx hb dX4_add_14 rfl (lv_at hl 0 rfl) ?_
  refine va_get (D := D) (ci := 4) (v := .int (P0_1 0 0)) (C := RX4) (T := TX4) (N := 13) hx hb hts iw_Rods hown hK hP 0 rfl rfl 0 (by decide) fl_9 (fun _ h9 => h9) rfl dX4_add_15 ?_
  refine lv_iload_n hx hb dX4_add_18 rfl (lv_at hl 2 rfl) ?_
  obtain ⟨h_4, hf⟩ := mb_chk_s hf
  obtain ⟨P0_3, e_, hf⟩ := mb_let_s hf
  refine va_iast hx hb hK hP hD hS 2 0 rfl rfl h_4 dX4_add_19 (fun H locs hP hD hS => ?_)
  have hP : va_P D vwCl (wC_Rods k b0 P0_3 L0) H := by rw [e_]; exact hP
  have hD : va_D A (wC_Rods k b0 P0_3 L0) := by rw [e_]; exact hD
  clear e_
  refine lv_aload_n hx hb dX4_add_20 rfl (lv_at hl 0 rfl) ?_
  refine va_get (D := D) (ci := 4) (v := .ref (b0 5)) (C := RX4) (T := TX4) (N := 13) hx hb hts iw_Rods hown hK hP 0 rfl rfl 4 (by decide) fl_25 (fun _ h9 => h9) rfl dX4_add_21 ?_
  refine lv_aload_n hx hb dX4_add_24 rfl (lv_at hl 0 rfl) ?_
  refine va_get (D := D) (ci := 4) (v := .int (P0_3 0 0)) (C := RX4) (T := TX4) (N := 13) hx hb hts iw_Rods hown hK hP 0 rfl rfl 0 (by decide) fl_9 (fun _ h9 => h9) rfl dX4_add_25 ?_
  refine lv_iload_n hx hb dX4_add_28 rfl (lv_at hl 3 rfl) ?_
  obtain ⟨h_6, hf⟩ := mb_chk_s hf
  obtain ⟨P0_5, e_, hf⟩ := mb_let_s hf
  refine va_iast hx hb hK hP hD hS 3 0 rfl rfl h_6 dX4_add_29 (fun H locs hP hD hS => ?_)
  have hP : va_P D vwCl (wC_Rods k b0 P0_5 L0) H := by rw [e_]; exact hP
  have hD : va_D A (wC_Rods k b0 P0_5 L0) := by rw [e_]; exact hD
  clear e_
  refine lv_aload_n hx hb dX4_add_30 rfl (lv_at hl 0 rfl) ?_
  refine va_get (D := D) (ci := 4) (v := .ref (b0 6)) (C := RX4) (T := TX4) (N := 13) hx hb hts iw_Rods hown hK hP 0 rfl rfl 5 (by decide) fl_28 (fun _ h9 => h9) rfl dX4_add_31 ?_
  refine lv_aload_n hx hb dX4_add_34 rfl (lv_at hl 0 rfl) ?_
  refine va_get (D := D) (ci := 4) (v := .int (P0_5 0 0)) (C := RX4) (T := TX4) (N := 13) hx hb hts iw_Rods hown hK hP 0 rfl rfl 0 (by decide) fl_9 (fun _ h9 => h9) rfl dX4_add_35 ?_
  refine lv_iload hx hb dX4_add_38 (lv_at hl 4 rfl) ?_
  obtain ⟨h_8, hf⟩ := mb_chk_s hf
  obtain ⟨P0_7, e_, hf⟩ := mb_let_s hf
  refine va_iast hx hb hK hP hD hS 4 0 rfl rfl h_8 dX4_add_40 (fun H locs hP hD hS => ?_)
  have hP : va_P D vwCl (wC_Rods k b0 P0_7 L0) H := by rw [e_]; exact hP
  have hD : va_D A (wC_Rods k b0 P0_7 L0) := by rw [e_]; exact hD
  clear e_
  refine lv_aload_n hx hb dX4_add_41 rfl (lv_at hl 0 rfl) ?_
  refine va_get (D := D) (ci := 4) (v := .ref (b0 7)) (C := RX4) (T := TX4) (N := 13) hx hb hts iw_Rods hown hK hP 0 rfl rfl 6 (by decide) fl_31 (fun _ h9 => h9) rfl dX4_add_42 ?_
  refine lv_aload_n hx hb dX4_add_45 rfl (lv_at hl 0 rfl) ?_
  refine va_get (D := D) (ci := 4) (v := .int (P0_7 0 0)) (C := RX4) (T := TX4) (N := 13) hx hb hts iw_Rods hown hK hP 0 rfl rfl 0 (by decide) fl_9 (fun _ h9 => h9) rfl dX4_add_46 ?_
  refine lv_aload_n hx hb dX4_add_49 rfl (lv_at hl 0 rfl) ?_
  refine va_get (D := D) (ci := 4) (v := .int (P0_7 0 1)) (C := RX4) (T := TX4) (N := 13) hx hb hts iw_Rods hown hK hP 0 rfl rfl 1 (by decide) fl_15 (fun _ h9 => h9) rfl dX4_add_50 ?_
  obtain ⟨h_10, hf⟩ := mb_chk_s hf
  obtain ⟨P0_9, e_, hf⟩ := mb_let_s hf
  refine va_iast hx hb hK hP hD hS 5 0 rfl rfl h_10 dX4_add_53 (fun H locs hP hD hS => ?_)
  have hP : va_P D vwCl (wC_Rods k b0 P0_9 L0) H := by rw [e_]; exact hP
  have hD : va_D A (wC_Rods k b0 P0_9 L0) := by rw [e_]; exact hD
  clear e_
  refine lv_aload_n hx hb dX4_add_54 rfl (lv_at hl 0 rfl) ?_
  refine va_get (D := D) (ci := 4) (v := .ref (b0 8)) (C := RX4) (T := TX4) (N := 13) hx hb hts iw_Rods hown hK hP 0 rfl rfl 7 (by decide) fl_34 (fun _ h9 => h9) rfl dX4_add_55 ?_
  refine lv_aload_n hx hb dX4_add_58 rfl (lv_at hl 0 rfl) ?_
  refine va_get (D := D) (ci := 4) (v := .int (P0_9 0 0)) (C := RX4) (T := TX4) (N := 13) hx hb hts iw_Rods hown hK hP 0 rfl rfl 0 (by decide) fl_9 (fun _ h9 => h9) rfl dX4_add_59 ?_
  refine lv_iconst (v := 0) hx hb dX4_add_62 (by decide) ?_
  obtain ⟨h_12, hf⟩ := mb_chk_s hf
  obtain ⟨P0_11, e_, hf⟩ := mb_let_s hf
  refine va_iast hx hb hK hP hD hS 6 0 rfl rfl h_12 dX4_add_63 (fun H locs hP hD hS => ?_)
  have hP : va_P D vwCl (wC_Rods k b0 P0_11 L0) H := by rw [e_]; exact hP
  have hD : va_D A (wC_Rods k b0 P0_11 L0) := by rw [e_]; exact hD
  clear e_
  refine lv_aload_n hx hb dX4_add_64 rfl (lv_at hl 0 rfl) ?_
  refine va_get (D := D) (ci := 4) (v := .ref (b0 9)) (C := RX4) (T := TX4) (N := 13) hx hb hts iw_Rods hown hK hP 0 rfl rfl 8 (by decide) fl_37 (fun _ h9 => h9) rfl dX4_add_65 ?_
  refine lv_aload_n hx hb dX4_add_68 rfl (lv_at hl 0 rfl) ?_
  refine va_get (D := D) (ci := 4) (v := .int (P0_11 0 0)) (C := RX4) (T := TX4) (N := 13) hx hb hts iw_Rods hown hK hP 0 rfl rfl 0 (by decide) fl_9 (fun _ h9 => h9) rfl dX4_add_69 ?_
  refine lv_iload hx hb dX4_add_72 (lv_at hl 5 rfl) ?_
  obtain ⟨h_14, hf⟩ := mb_chk_s hf
  obtain ⟨P0_13, e_, hf⟩ := mb_let_s hf
  refine va_iast hx hb hK hP hD hS 7 0 rfl rfl h_14 dX4_add_74 (fun H locs hP hD hS => ?_)
  have hP : va_P D vwCl (wC_Rods k b0 P0_13 L0) H := by rw [e_]; exact hP
  have hD : va_D A (wC_Rods k b0 P0_13 L0) := by rw [e_]; exact hD
  clear e_
  refine lv_aload_n hx hb dX4_add_75 rfl (lv_at hl 0 rfl) ?_
  refine va_get (D := D) (ci := 4) (v := .ref (b0 10)) (C := RX4) (T := TX4) (N := 13) hx hb hts iw_Rods hown hK hP 0 rfl rfl 9 (by decide) fl_40 (fun _ h9 => h9) rfl dX4_add_76 ?_
  refine lv_aload_n hx hb dX4_add_79 rfl (lv_at hl 0 rfl) ?_
  refine va_get (D := D) (ci := 4) (v := .int (P0_13 0 0)) (C := RX4) (T := TX4) (N := 13) hx hb hts iw_Rods hown hK hP 0 rfl rfl 0 (by decide) fl_9 (fun _ h9 => h9) rfl dX4_add_80 ?_
  refine lv_iconst (v := 0) hx hb dX4_add_83 (by decide) ?_
  obtain ⟨h_16, hf⟩ := mb_chk_s hf
  obtain ⟨P0_15, e_, hf⟩ := mb_let_s hf
  refine va_iast hx hb hK hP hD hS 8 0 rfl rfl h_16 dX4_add_84 (fun H locs hP hD hS => ?_)
  have hP : va_P D vwCl (wC_Rods k b0 P0_15 L0) H := by rw [e_]; exact hP
  have hD : va_D A (wC_Rods k b0 P0_15 L0) := by rw [e_]; exact hD
  clear e_
  refine lv_aload_n hx hb dX4_add_85 rfl (lv_at hl 0 rfl) ?_
  refine va_get (D := D) (ci := 4) (v := .ref (b0 11)) (C := RX4) (T := TX4) (N := 13) hx hb hts iw_Rods hown hK hP 0 rfl rfl 10 (by decide) fl_43 (fun _ h9 => h9) rfl dX4_add_86 ?_
  refine lv_aload_n hx hb dX4_add_89 rfl (lv_at hl 0 rfl) ?_
  refine va_get (D := D) (ci := 4) (v := .int (P0_15 0 0)) (C := RX4) (T := TX4) (N := 13) hx hb hts iw_Rods hown hK hP 0 rfl rfl 0 (by decide) fl_9 (fun _ h9 => h9) rfl dX4_add_90 ?_
  refine lv_iconst (v := 0) hx hb dX4_add_93 (by decide) ?_
  obtain ⟨h_18, hf⟩ := mb_chk_s hf
  obtain ⟨P0_17, e_, hf⟩ := mb_let_s hf
  refine va_iast hx hb hK hP hD hS 9 0 rfl rfl h_18 dX4_add_94 (fun H locs hP hD hS => ?_)
  have hP : va_P D vwCl (wC_Rods k b0 P0_17 L0) H := by rw [e_]; exact hP
  have hD : va_D A (wC_Rods k b0 P0_17 L0) := by rw [e_]; exact hD
  clear e_
  refine lv_aload_n hx hb dX4_add_95 rfl (lv_at hl 0 rfl) ?_
  refine lv_dup hx hb dX4_add_96 rfl ?_
  refine va_get (D := D) (ci := 4) (v := .int (P0_17 0 0)) (C := RX4) (T := TX4) (N := 13) hx hb hts iw_Rods hown hK hP 0 rfl rfl 0 (by decide) fl_9 (fun _ h9 => h9) rfl dX4_add_97 ?_
  refine lv_dup_x1 hx hb dX4_add_100 rfl rfl ?_
  refine lv_iconst (v := 1) hx hb dX4_add_101 (by decide) ?_
  refine lv_iadd hx hb dX4_add_102 ?_
  obtain ⟨P0_19, e_, hf⟩ := mb_let_s hf
  refine va_put (D := D) (ci := 4) (v := .int ((P0_17 0 0) + (1 : Int32))) (ty := .int) (C := RX4) (T := TX4) (N := 13) hx hb hts iw_Rods tyX4 tyX4_ok nmX4 hown hK hP hD hS 0 rfl rfl 0 (by decide) fl_9 (fun _ h9 => h9) rfl (by decide +kernel) rfl rfl (Nat.le_of_ble_eq_true rfl) dX4_add_103 (fun H locs hP hD hS => ?_)
  have hP : va_P D vwCl (wC_Rods k b0 P0_19 L0) H := by rw [e_]; exact hP
  have hD : va_D A (wC_Rods k b0 P0_19 L0) := by rw [e_]; exact hD
  clear e_
  have hz := Option.some.inj hf
  subst hz
  exact hret _ _ _ _ dX4_add_106 hP hD hS
def f_One_rod (P1 : PI) (P2 : PI) (x1 : Int32) (x2 : Int32) (x3 : Int32) (x4 : Int32) (x5 : Int32) : Option (Int32 × PI) := mb_bd1 (f_Units_told P1 x1) (fun (r_1 : Int32) => (if r_1 = 0 then some ((-1 : Int32), P2) else mb_bd1 (f_One_isDistrict x2) (fun (r_2 : Int32) => (if r_2 = 0 then some ((-1 : Int32), P2) else mb_bd1 (f_One_within x3 (-200 : Int32) (200 : Int32)) (fun (r_3 : Int32) => (if r_3 = 0 then some ((-1 : Int32), P2) else mb_bd1 (f_One_within x4 (0 : Int32) (20 : Int32)) (fun (r_4 : Int32) => (if r_4 = 0 then some ((-1 : Int32), P2) else mb_bd1 (f_One_within x5 (0 : Int32) (1000 : Int32)) (fun (r_5 : Int32) => (if r_5 = 0 then some ((-1 : Int32), P2) else (if (P2 0 0) < (12 : Int32) then mb_bd2 (f_Rods_add P2 x1 x2 x3 x4 x5) (fun (r_6 : Int32) (P2_7 : PI) => some (r_6, P2_7)) else some ((-3 : Int32), P2))))))))))))
def rm_One_rod : Room := { frames := 2, cells := 0, slots := 0, locals := 42 }
set_option maxHeartbeats 4000000 in
set_option maxRecDepth 100000 in
theorem c_One_rod (l : Launch) (D : va_G) (k : Nat → ClassId) (sz : Nat) (a0 : Nat → Nat → Nat) (P0 : PI) (P1 : PI) (P2 : PI) (L2 : PL) (x1 : Int32) (x2 : Int32) (x3 : Int32) (x4 : Int32) (x5 : Int32) (z : Int32 × PI) (hf : f_One_rod P1 P2 x1 x2 x3 x4 x5 = some z) : Met l yX11_rod wsX11_rod rm_One_rod (va_Pc [.ref (a0 0 0), .int x1, .int x2, .int x3, .int x4, .int x5] (gw_pre D vwCl (tyL k) (wC_One k a0 P0 ++ (wC_Units k (a0 1) P1 ++ (wC_Rods k (a0 9) P2 L2))) sz)) (va_Qi (fun (r : Int32) (_ : Unit) => r = z.1) (gw_b D vwCl (tyL k) (va_A (wC_One k a0 P0 ++ (wC_Units k (a0 1) P1 ++ (wC_Rods k (a0 9) P2 L2))) sz) (wC_One k a0 P0 ++ (wC_Units k (a0 1) P1 ++ (wC_Rods k (a0 9) z.2 L2)))) (va_A (wC_One k a0 P0 ++ (wC_Units k (a0 1) P1 ++ (wC_Rods k (a0 9) P2 L2))) sz)) 0 0 (va_A (wC_One k a0 P0 ++ (wC_Units k (a0 1) P1 ++ (wC_Rods k (a0 9) P2 L2))) sz) := by
  refine gm_i (cc := cX11_rod) (maxL := 6) (by decide) rfl (Nat.le_of_ble_eq_true rfl) ?_
  intro p e s m args below meth c A Q ls H locs hx hb hml hown hts hK hN hA hP hD hS hl hret
  have hown : s.vm.findClass RX11 = some m.cls := hown
  have hl : lv_has ls 6 [(0, .ref (a0 0 0)), (1, .int x1), (2, .int x2), (3, .int x3), (4, .int x4), (5, .int x5)] := hl
  have iw_One : ∀ w ∈ u_ws RX11 TX11 16, w ∈ wsX11_rod := by decide +kernel
  have iw_Rods : ∀ w ∈ u_ws RX4 TX4 13, w ∈ wsX11_rod := by decide +kernel
  have fl_10 := hts (.fieldLink RX11 10 "OneMeasure" "units" "LOneMeasure$Units;") (by decide +kernel)
  have fl_68 := hts (.fieldLink RX11 68 "OneMeasure" "rods" "LOneMeasure$Rods;") (by decide +kernel)
  have fl_259 := hts (.fieldLink RX11 259 "OneMeasure$Rods" "count" "I") (by decide +kernel)
  unfold f_One_rod at hf
  refine lv_aload_n hx hb dX11_rod_0 rfl (lv_at hl 0 rfl) ?_
  refine va_get (D := D) (ci := 11) (v := .ref (a0 1 0)) (C := RX11) (T := TX11) (N := 16) hx hb hts iw_One hown hK hP 0 rfl rfl 0 (by decide) fl_10 (fun _ h9 => h9) rfl dX11_rod_1 ?_
  refine lv_iload_n hx hb dX11_rod_4 rfl (lv_at hl 1 rfl) ?_
  obtain ⟨r_1, hz, hf⟩ := mb_bd1_s hf
  refine gc_i (r0 := r_1) (ws' := (wC_One k a0 P0 ++ (wC_Units k (a0 1) P1 ++ (wC_Rods k (a0 9) P2 L2)))) (wr := (wC_One k a0 P0 ++ (wC_Rods k (a0 9) P2 L2))) (va_runV (As := [.int x1]) (rest := []) ⟨hx, hb, hml, hown, hts⟩ (c_Units_told l D k H.size (a0 1) P1 x1 r_1 hz) (cwV 1 hts gX11_rod_X9_told rfl rfl rfl (by decide +kernel) ⟨Nat.le_of_ble_eq_true rfl, Nat.le_of_ble_eq_true rfl⟩) (gp_V (ci := 9) (q0 := 0) (q := (RX9, TX9, 4)) hP hD hK hN [4, 5, 6, 7] (by decide +kernel) rfl rfl rfl) rfl rfl hl.1 rfl (lv_room (Nat.le_of_ble_eq_true rfl)) dX11_rod_5 ⟨Nat.zero_le _, Nat.zero_le _⟩) hP hD hS hA [4, 5, 6, 7] [0, 1, 2, 3, 8, 9, 10, 11, 12, 13, 14, 15, 16, 17, 18, 19] rfl rfl (by decide +kernel) (by decide +kernel) [0, 1, 2, 3, 16, 17, 18, 19, 4, 5, 6, 7, 8, 9, 10, 11, 12, 13, 14, 15] (by decide +kernel) rfl (fun H locs hP hD hS => ?_)
  clear hz
  refine lv_if_eq (tgt := 31) hx hb dX11_rod_8 (by decide) (fun c_13 => ?_) (fun c_13 => ?_)
  · have hf := mb_if_t c_13 hf
    refine lv_iconst (v := (-1)) hx hb dX11_rod_31 (by decide) ?_
    have hz := Option.some.inj hf
    subst hz
    exact hret _ _ _ _ dX11_rod_32 hP hD hS
  · have hf := mb_if_f c_13 hf
    refine lv_iload_n hx hb dX11_rod_11 rfl (lv_at hl 2 rfl) ?_
    obtain ⟨r_2, hz, hf⟩ := mb_bd1_s hf
    refine gc_i (r0 := r_2) (ws' := (wC_One k a0 P0 ++ (wC_Units k (a0 1) P1 ++ (wC_Rods k (a0 9) P2 L2)))) (wr := (wC_One k a0 P0 ++ (wC_Units k (a0 1) P1 ++ (wC_Rods k (a0 9) P2 L2)))) (va_runS (As := [.int x2]) (rest := []) ⟨hx, hb, hml, hown, hts⟩ (c_One_isDistrict l D k H.size x2 r_2 hz) (cwS 1 hts gX11_rod_X11_isDistrict rfl rfl rfl (by decide +kernel) ⟨Nat.le_of_ble_eq_true rfl, Nat.le_of_ble_eq_true rfl⟩) (gp_S hP hD hK hN [] (by decide +kernel) rfl) rfl rfl hl.1 rfl (lv_room (Nat.le_of_ble_eq_true rfl)) dX11_rod_12 ⟨Nat.zero_le _, Nat.zero_le _⟩) hP hD hS hA [] [0, 1, 2, 3, 4, 5, 6, 7, 8, 9, 10, 11, 12, 13, 14, 15, 16, 17, 18, 19] rfl rfl (by decide +kernel) (by decide +kernel) [0, 1, 2, 3, 4, 5, 6, 7, 8, 9, 10, 11, 12, 13, 14, 15, 16, 17, 18, 19] (by decide +kernel) rfl (fun H locs hP hD hS => ?_)
    clear hz
    refine lv_if_eq (tgt := 31) hx hb dX11_rod_15 (by decide) (fun c_12 => ?_) (fun c_12 => ?_)
    · have hf := mb_if_t c_12 hf
      refine lv_iconst (v := (-1)) hx hb dX11_rod_31 (by decide) ?_
      have hz := Option.some.inj hf
      subst hz
      exact hret _ _ _ _ dX11_rod_32 hP hD hS
    · have hf := mb_if_f c_12 hf
      refine lv_iload_n hx hb dX11_rod_18 rfl (lv_at hl 3 rfl) ?_
      refine lv_sipush (v := (-200)) hx hb dX11_rod_19 (by decide) ?_
      refine lv_sipush (v := 200) hx hb dX11_rod_22 (by decide) ?_
      obtain ⟨r_3, hz, hf⟩ := mb_bd1_s hf
      refine gc_i (r0 := r_3) (ws' := (wC_One k a0 P0 ++ (wC_Units k (a0 1) P1 ++ (wC_Rods k (a0 9) P2 L2)))) (wr := (wC_One k a0 P0 ++ (wC_Units k (a0 1) P1 ++ (wC_Rods k (a0 9) P2 L2)))) (va_runS (As := [.int x3, .int (-200 : Int32), .int (200 : Int32)]) (rest := []) ⟨hx, hb, hml, hown, hts⟩ (c_One_within l D k H.size x3 (-200 : Int32) (200 : Int32) r_3 hz) (cwS 3 hts gX11_rod_X11_within rfl rfl rfl (by decide +kernel) ⟨Nat.le_of_ble_eq_true rfl, Nat.le_of_ble_eq_true rfl⟩) (gp_S hP hD hK hN [] (by decide +kernel) rfl) rfl rfl hl.1 rfl (lv_room (Nat.le_of_ble_eq_true rfl)) dX11_rod_25 ⟨Nat.zero_le _, Nat.zero_le _⟩) hP hD hS hA [] [0, 1, 2, 3, 4, 5, 6, 7, 8, 9, 10, 11, 12, 13, 14, 15, 16, 17, 18, 19] rfl rfl (by decide +kernel) (by decide +kernel) [0, 1, 2, 3, 4, 5, 6, 7, 8, 9, 10, 11, 12, 13, 14, 15, 16, 17, 18, 19] (by decide +kernel) rfl (fun H locs hP hD hS => ?_)
      clear hz
      refine lv_if_ne (tgt := 33) hx hb dX11_rod_28 (by decide) (fun c_11 => ?_) (fun c_11 => ?_)
      · have hf := mb_if_f c_11 hf
        refine lv_iload hx hb dX11_rod_33 (lv_at hl 4 rfl) ?_
        refine lv_iconst (v := 0) hx hb dX11_rod_35 (by decide) ?_
        refine lv_bipush (v := 20) hx hb dX11_rod_36 (by decide) ?_
        obtain ⟨r_4, hz, hf⟩ := mb_bd1_s hf
        refine gc_i (r0 := r_4) (ws' := (wC_One k a0 P0 ++ (wC_Units k (a0 1) P1 ++ (wC_Rods k (a0 9) P2 L2)))) (wr := (wC_One k a0 P0 ++ (wC_Units k (a0 1) P1 ++ (wC_Rods k (a0 9) P2 L2)))) (va_runS (As := [.int x4, .int (0 : Int32), .int (20 : Int32)]) (rest := []) ⟨hx, hb, hml, hown, hts⟩ (c_One_within l D k H.size x4 (0 : Int32) (20 : Int32) r_4 hz) (cwS 3 hts gX11_rod_X11_within rfl rfl rfl (by decide +kernel) ⟨Nat.le_of_ble_eq_true rfl, Nat.le_of_ble_eq_true rfl⟩) (gp_S hP hD hK hN [] (by decide +kernel) rfl) rfl rfl hl.1 rfl (lv_room (Nat.le_of_ble_eq_true rfl)) dX11_rod_38 ⟨Nat.zero_le _, Nat.zero_le _⟩) hP hD hS hA [] [0, 1, 2, 3, 4, 5, 6, 7, 8, 9, 10, 11, 12, 13, 14, 15, 16, 17, 18, 19] rfl rfl (by decide +kernel) (by decide +kernel) [0, 1, 2, 3, 4, 5, 6, 7, 8, 9, 10, 11, 12, 13, 14, 15, 16, 17, 18, 19] (by decide +kernel) rfl (fun H locs hP hD hS => ?_)
        clear hz
        refine lv_if_eq (tgt := 56) hx hb dX11_rod_41 (by decide) (fun c_10 => ?_) (fun c_10 => ?_)
        · have hf := mb_if_t c_10 hf
          refine lv_iconst (v := (-1)) hx hb dX11_rod_56 (by decide) ?_
          have hz := Option.some.inj hf
          subst hz
          exact hret _ _ _ _ dX11_rod_57 hP hD hS
        · have hf := mb_if_f c_10 hf
          refine lv_iload hx hb dX11_rod_44 (lv_at hl 5 rfl) ?_
          refine lv_iconst (v := 0) hx hb dX11_rod_46 (by decide) ?_
          refine lv_sipush (v := 1000) hx hb dX11_rod_47 (by decide) ?_
          obtain ⟨r_5, hz, hf⟩ := mb_bd1_s hf
          refine gc_i (r0 := r_5) (ws' := (wC_One k a0 P0 ++ (wC_Units k (a0 1) P1 ++ (wC_Rods k (a0 9) P2 L2)))) (wr := (wC_One k a0 P0 ++ (wC_Units k (a0 1) P1 ++ (wC_Rods k (a0 9) P2 L2)))) (va_runS (As := [.int x5, .int (0 : Int32), .int (1000 : Int32)]) (rest := []) ⟨hx, hb, hml, hown, hts⟩ (c_One_within l D k H.size x5 (0 : Int32) (1000 : Int32) r_5 hz) (cwS 3 hts gX11_rod_X11_within rfl rfl rfl (by decide +kernel) ⟨Nat.le_of_ble_eq_true rfl, Nat.le_of_ble_eq_true rfl⟩) (gp_S hP hD hK hN [] (by decide +kernel) rfl) rfl rfl hl.1 rfl (lv_room (Nat.le_of_ble_eq_true rfl)) dX11_rod_50 ⟨Nat.zero_le _, Nat.zero_le _⟩) hP hD hS hA [] [0, 1, 2, 3, 4, 5, 6, 7, 8, 9, 10, 11, 12, 13, 14, 15, 16, 17, 18, 19] rfl rfl (by decide +kernel) (by decide +kernel) [0, 1, 2, 3, 4, 5, 6, 7, 8, 9, 10, 11, 12, 13, 14, 15, 16, 17, 18, 19] (by decide +kernel) rfl (fun H locs hP hD hS => ?_)
          clear hz
          refine lv_if_ne (tgt := 58) hx hb dX11_rod_53 (by decide) (fun c_9 => ?_) (fun c_9 => ?_)
          · have hf := mb_if_f c_9 hf
            refine lv_aload_n hx hb dX11_rod_58 rfl (lv_at hl 0 rfl) ?_
            refine va_get (D := D) (ci := 11) (v := .ref (a0 9 0)) (C := RX11) (T := TX11) (N := 16) hx hb hts iw_One hown hK hP 0 rfl rfl 8 (by decide) fl_68 (fun _ h9 => h9) rfl dX11_rod_59 ?_
            refine va_get (D := D) (ci := 4) (v := .int (P2 0 0)) (C := RX4) (T := TX4) (N := 13) hx hb hts iw_Rods hown hK hP 8 rfl rfl 0 (by decide) fl_259 (fun _ h9 => h9) rfl dX11_rod_62 ?_
            refine lv_bipush (v := 12) hx hb dX11_rod_65 (by decide) ?_
            refine lv_icmp_lt (tgt := 73) hx hb dX11_rod_67 (by decide) (fun c_8 => ?_) (fun c_8 => ?_)
            · have hf := mb_if_t c_8 hf
              refine lv_aload_n hx hb dX11_rod_73 rfl (lv_at hl 0 rfl) ?_
              refine va_get (D := D) (ci := 11) (v := .ref (a0 9 0)) (C := RX11) (T := TX11) (N := 16) hx hb hts iw_One hown hK hP 0 rfl rfl 8 (by decide) fl_68 (fun _ h9 => h9) rfl dX11_rod_74 ?_
              refine lv_iload_n hx hb dX11_rod_77 rfl (lv_at hl 1 rfl) ?_
              refine lv_iload_n hx hb dX11_rod_78 rfl (lv_at hl 2 rfl) ?_
              refine lv_iload_n hx hb dX11_rod_79 rfl (lv_at hl 3 rfl) ?_
              refine lv_iload hx hb dX11_rod_80 (lv_at hl 4 rfl) ?_
              refine lv_iload hx hb dX11_rod_82 (lv_at hl 5 rfl) ?_
              obtain ⟨r_6, P2_7, hz, hf⟩ := mb_bd2_s hf
              refine gc_i (r0 := r_6) (ws' := (wC_One k a0 P0 ++ (wC_Units k (a0 1) P1 ++ (wC_Rods k (a0 9) P2_7 L2)))) (wr := (wC_One k a0 P0 ++ (wC_Units k (a0 1) P1))) (va_runV (As := [.int x1, .int x2, .int x3, .int x4, .int x5]) (rest := []) ⟨hx, hb, hml, hown, hts⟩ (c_Rods_add l D k H.size (a0 9) P2 L2 x1 x2 x3 x4 x5 (r_6, P2_7) hz) (cwV 5 hts gX11_rod_X4_add rfl rfl rfl (by decide +kernel) ⟨Nat.le_of_ble_eq_true rfl, Nat.le_of_ble_eq_true rfl⟩) (gp_V (ci := 4) (q0 := 0) (q := (RX4, TX4, 13)) hP hD hK hN [8, 9, 10, 11, 12, 13, 14, 15, 16, 17, 18, 19] (by decide +kernel) rfl rfl rfl) rfl rfl hl.1 rfl (lv_room (Nat.le_of_ble_eq_true rfl)) dX11_rod_84 ⟨Nat.zero_le _, Nat.zero_le _⟩) hP hD hS hA [8, 9, 10, 11, 12, 13, 14, 15, 16, 17, 18, 19] [0, 1, 2, 3, 4, 5, 6, 7] rfl rfl (by decide +kernel) (by decide +kernel) [0, 1, 2, 3, 4, 5, 6, 7, 8, 9, 10, 11, 12, 13, 14, 15, 16, 17, 18, 19] (by decide +kernel) rfl (fun H locs hP hD hS => ?_)
              clear hz
              have hz := Option.some.inj hf
              subst hz
              exact hret _ _ _ _ dX11_rod_87 hP hD hS
            · have hf := mb_if_f c_8 hf
              refine lv_bipush (v := (-3)) hx hb dX11_rod_70 (by decide) ?_
              have hz := Option.some.inj hf
              subst hz
              exact hret _ _ _ _ dX11_rod_72 hP hD hS
          · have hf := mb_if_t c_9 hf
            refine lv_iconst (v := (-1)) hx hb dX11_rod_56 (by decide) ?_
            have hz := Option.some.inj hf
            subst hz
            exact hret _ _ _ _ dX11_rod_57 hP hD hS
      · have hf := mb_if_t c_11 hf
        refine lv_iconst (v := (-1)) hx hb dX11_rod_31 (by decide) ?_
        have hz := Option.some.inj hf
        subst hz
        exact hret _ _ _ _ dX11_rod_32 hP hD hS
def f_One_allowed (P0 : PI) (x1 : Int32) : Option (Int32 × PI) := mb_bd1 (f_One_within x1 (0 : Int32) (200 : Int32)) (fun (r_1 : Int32) => (if r_1 = 0 then some ((-1 : Int32), P0) else mb_let (P0 0 15) (fun (x2_2 : Int32) => mb_let (mb_uo P0 15 x1) (fun (P0_3 : PI) => some (x2_2, P0_3)))))
def rm_One_allowed : Room := { frames := 1, cells := 0, slots := 0, locals := 22 }
set_option maxHeartbeats 4000000 in
set_option maxRecDepth 100000 in
theorem c_One_allowed (l : Launch) (D : va_G) (k : Nat → ClassId) (sz : Nat) (a0 : Nat → Nat → Nat) (P0 : PI) (x1 : Int32) (z : Int32 × PI) (hf : f_One_allowed P0 x1 = some z) : Met l yX11_allowed wsX11_allowed rm_One_allowed (va_Pc [.ref (a0 0 0), .int x1] (gw_pre D vwCl (tyL k) (wC_One k a0 P0) sz)) (va_Qi (fun (r : Int32) (_ : Unit) => r = z.1) (gw_b D vwCl (tyL k) (va_A (wC_One k a0 P0) sz) (wC_One k a0 z.2)) (va_A (wC_One k a0 P0) sz)) 0 0 (va_A (wC_One k a0 P0) sz) := by
  refine gm_i (cc := cX11_allowed) (maxL := 3) (by decide) rfl (Nat.le_of_ble_eq_true rfl) ?_
  intro p e s m args below meth c A Q ls H locs hx hb hml hown hts hK hN hA hP hD hS hl hret
  have hown : s.vm.findClass RX11 = some m.cls := hown
  have hl : lv_has ls 3 [(0, .ref (a0 0 0)), (1, .int x1)] := hl
  have iw_One : ∀ w ∈ u_ws RX11 TX11 16, w ∈ wsX11_allowed := by decide +kernel
  have fl_102 := hts (.fieldLink RX11 102 "OneMeasure" "tolerance" "I") (by decide +kernel)
  unfold f_One_allowed at hf
  refine lv_iload_n hx hb dX11_allowed_0 rfl (lv_at hl 1 rfl) ?_
  refine lv_iconst (v := 0) hx hb dX11_allowed_1 (by decide) ?_
  refine lv_sipush (v := 200) hx hb dX11_allowed_2 (by decide) ?_
  obtain ⟨r_1, hz, hf⟩ := mb_bd1_s hf
  refine gc_i (r0 := r_1) (ws' := (wC_One k a0 P0)) (wr := (wC_One k a0 P0)) (va_runS (As := [.int x1, .int (0 : Int32), .int (200 : Int32)]) (rest := []) ⟨hx, hb, hml, hown, hts⟩ (c_One_within l D k H.size x1 (0 : Int32) (200 : Int32) r_1 hz) (cwS 3 hts gX11_allowed_X11_within rfl rfl rfl (by decide +kernel) ⟨Nat.le_of_ble_eq_true rfl, Nat.le_of_ble_eq_true rfl⟩) (gp_S hP hD hK hN [] (by decide +kernel) rfl) rfl rfl hl.1 rfl (lv_room (Nat.le_of_ble_eq_true rfl)) dX11_allowed_5 ⟨Nat.zero_le _, Nat.zero_le _⟩) hP hD hS hA [] [0, 1, 2, 3] rfl rfl (by decide +kernel) (by decide +kernel) [0, 1, 2, 3] (by decide +kernel) rfl (fun H locs hP hD hS => ?_)
  clear hz
  refine lv_if_ne (tgt := 13) hx hb dX11_allowed_8 (by decide) (fun c_4 => ?_) (fun c_4 => ?_)
  · have hf := mb_if_f c_4 hf
    refine lv_aload_n hx hb dX11_allowed_13 rfl (lv_at hl 0 rfl) ?_
    refine va_get (D := D) (ci := 11) (v := .int (P0 0 15)) (C := RX11) (T := TX11) (N := 16) hx hb hts iw_One hown hK hP 0 rfl rfl 15 (by decide) fl_102 (fun _ h9 => h9) rfl dX11_allowed_14 ?_
    obtain ⟨x2_2, e_, hf⟩ := mb_let_s hf
    refine mb_topi e_ ?_
    clear e_
    refine lv_istore_n (lv' := [(2, .int x2_2), (0, .ref (a0 0 0)), (1, .int x1)]) hx hb dX11_allowed_17 rfl hl (by decide) rfl (fun ls hl => ?_)
    refine lv_aload_n hx hb dX11_allowed_18 rfl (lv_at hl 1 rfl) ?_
    refine lv_iload_n hx hb dX11_allowed_19 rfl (lv_at hl 2 rfl) ?_
    obtain ⟨P0_3, e_, hf⟩ := mb_let_s hf
    refine va_put (D := D) (ci := 11) (v := .int x1) (ty := .int) (C := RX11) (T := TX11) (N := 16) hx hb hts iw_One tyX11 tyX11_ok nmX11 hown hK hP hD hS 0 rfl rfl 15 (by decide) fl_102 (fun _ h9 => h9) rfl (by decide +kernel) rfl rfl (Nat.le_of_ble_eq_true rfl) dX11_allowed_20 (fun H locs hP hD hS => ?_)
    have hP : va_P D vwCl (wC_One k a0 P0_3) H := by rw [e_]; exact hP
    have hD : va_D A (wC_One k a0 P0_3) := by rw [e_]; exact hD
    clear e_
    refine lv_iload_n hx hb dX11_allowed_23 rfl (lv_at hl 0 rfl) ?_
    have hz := Option.some.inj hf
    subst hz
    exact hret _ _ _ _ dX11_allowed_24 hP hD hS
  · have hf := mb_if_t c_4 hf
    refine lv_iconst (v := (-1)) hx hb dX11_allowed_11 (by decide) ?_
    have hz := Option.some.inj hf
    subst hz
    exact hret _ _ _ _ dX11_allowed_12 hP hD hS
def f_One_plan (P0 : PI) (x1 : Int32) (x2 : Int32) : Option (Int32 × PI) := mb_bd1 (f_One_within x1 (0 : Int32) (9 : Int32)) (fun (r_1 : Int32) => (if r_1 = 0 then some ((-1 : Int32), P0) else mb_bd1 (f_One_within x2 (0 : Int32) (63 : Int32)) (fun (r_2 : Int32) => (if r_2 = 0 then some ((-1 : Int32), P0) else mb_chk x1 10 (mb_let (P0 12 x1.toNatClampNeg) (fun (x3_4 : Int32) => mb_chk x1 10 (mb_let (mb_u2 P0 12 x1.toNatClampNeg x2) (fun (P0_5 : PI) => some (x3_4, P0_5)))))))))
def rm_One_plan : Room := { frames := 1, cells := 0, slots := 0, locals := 22 }
set_option maxHeartbeats 4000000 in
set_option maxRecDepth 100000 in
theorem c_One_plan (l : Launch) (D : va_G) (k : Nat → ClassId) (sz : Nat) (a0 : Nat → Nat → Nat) (P0 : PI) (x1 : Int32) (x2 : Int32) (z : Int32 × PI) (hf : f_One_plan P0 x1 x2 = some z) : Met l yX11_plan wsX11_plan rm_One_plan (va_Pc [.ref (a0 0 0), .int x1, .int x2] (gw_pre D vwCl (tyL k) (wC_One k a0 P0) sz)) (va_Qi (fun (r : Int32) (_ : Unit) => r = z.1) (gw_b D vwCl (tyL k) (va_A (wC_One k a0 P0) sz) (wC_One k a0 z.2)) (va_A (wC_One k a0 P0) sz)) 0 0 (va_A (wC_One k a0 P0) sz) := by
  refine gm_i (cc := cX11_plan) (maxL := 4) (by decide) rfl (Nat.le_of_ble_eq_true rfl) ?_
  intro p e s m args below meth c A Q ls H locs hx hb hml hown hts hK hN hA hP hD hS hl hret
  have hown : s.vm.findClass RX11 = some m.cls := hown
  have hl : lv_has ls 4 [(0, .ref (a0 0 0)), (1, .int x1), (2, .int x2)] := hl
  have iw_One : ∀ w ∈ u_ws RX11 TX11 16, w ∈ wsX11_plan := by decide +kernel
  have fl_86 := hts (.fieldLink RX11 86 "OneMeasure" "visits" "[I") (by decide +kernel)
  unfold f_One_plan at hf
  refine lv_iload_n hx hb dX11_plan_0 rfl (lv_at hl 1 rfl) ?_
  refine lv_iconst (v := 0) hx hb dX11_plan_1 (by decide) ?_
  refine lv_bipush (v := 9) hx hb dX11_plan_2 (by decide) ?_
  obtain ⟨r_1, hz, hf⟩ := mb_bd1_s hf
  refine gc_i (r0 := r_1) (ws' := (wC_One k a0 P0)) (wr := (wC_One k a0 P0)) (va_runS (As := [.int x1, .int (0 : Int32), .int (9 : Int32)]) (rest := []) ⟨hx, hb, hml, hown, hts⟩ (c_One_within l D k H.size x1 (0 : Int32) (9 : Int32) r_1 hz) (cwS 3 hts gX11_plan_X11_within rfl rfl rfl (by decide +kernel) ⟨Nat.le_of_ble_eq_true rfl, Nat.le_of_ble_eq_true rfl⟩) (gp_S hP hD hK hN [] (by decide +kernel) rfl) rfl rfl hl.1 rfl (lv_room (Nat.le_of_ble_eq_true rfl)) dX11_plan_4 ⟨Nat.zero_le _, Nat.zero_le _⟩) hP hD hS hA [] [0, 1, 2, 3] rfl rfl (by decide +kernel) (by decide +kernel) [0, 1, 2, 3] (by decide +kernel) rfl (fun H locs hP hD hS => ?_)
  clear hz
  refine lv_if_eq (tgt := 20) hx hb dX11_plan_7 (by decide) (fun c_8 => ?_) (fun c_8 => ?_)
  · have hf := mb_if_t c_8 hf
    refine lv_iconst (v := (-1)) hx hb dX11_plan_20 (by decide) ?_
    have hz := Option.some.inj hf
    subst hz
    exact hret _ _ _ _ dX11_plan_21 hP hD hS
  · have hf := mb_if_f c_8 hf
    refine lv_iload_n hx hb dX11_plan_10 rfl (lv_at hl 2 rfl) ?_
    refine lv_iconst (v := 0) hx hb dX11_plan_11 (by decide) ?_
    refine lv_bipush (v := 63) hx hb dX11_plan_12 (by decide) ?_
    obtain ⟨r_2, hz, hf⟩ := mb_bd1_s hf
    refine gc_i (r0 := r_2) (ws' := (wC_One k a0 P0)) (wr := (wC_One k a0 P0)) (va_runS (As := [.int x2, .int (0 : Int32), .int (63 : Int32)]) (rest := []) ⟨hx, hb, hml, hown, hts⟩ (c_One_within l D k H.size x2 (0 : Int32) (63 : Int32) r_2 hz) (cwS 3 hts gX11_plan_X11_within rfl rfl rfl (by decide +kernel) ⟨Nat.le_of_ble_eq_true rfl, Nat.le_of_ble_eq_true rfl⟩) (gp_S hP hD hK hN [] (by decide +kernel) rfl) rfl rfl hl.1 rfl (lv_room (Nat.le_of_ble_eq_true rfl)) dX11_plan_14 ⟨Nat.zero_le _, Nat.zero_le _⟩) hP hD hS hA [] [0, 1, 2, 3] rfl rfl (by decide +kernel) (by decide +kernel) [0, 1, 2, 3] (by decide +kernel) rfl (fun H locs hP hD hS => ?_)
    clear hz
    refine lv_if_ne (tgt := 22) hx hb dX11_plan_17 (by decide) (fun c_7 => ?_) (fun c_7 => ?_)
    · have hf := mb_if_f c_7 hf
      refine lv_aload_n hx hb dX11_plan_22 rfl (lv_at hl 0 rfl) ?_
      refine va_get (D := D) (ci := 11) (v := .ref (a0 0 12)) (C := RX11) (T := TX11) (N := 16) hx hb hts iw_One hown hK hP 0 rfl rfl 11 (by decide) fl_86 (fun _ h9 => h9) rfl dX11_plan_23 ?_
      refine lv_iload_n hx hb dX11_plan_26 rfl (lv_at hl 1 rfl) ?_
      obtain ⟨h_3, hf⟩ := mb_chk_s hf
      refine va_iald hx hb hK hP 1 0 rfl rfl h_3 dX11_plan_27 ?_
      obtain ⟨x3_4, e_, hf⟩ := mb_let_s hf
      refine mb_topi e_ ?_
      clear e_
      refine lv_istore_n (lv' := [(3, .int x3_4), (0, .ref (a0 0 0)), (1, .int x1), (2, .int x2)]) hx hb dX11_plan_28 rfl hl (by decide) rfl (fun ls hl => ?_)
      refine lv_aload_n hx hb dX11_plan_29 rfl (lv_at hl 1 rfl) ?_
      refine va_get (D := D) (ci := 11) (v := .ref (a0 0 12)) (C := RX11) (T := TX11) (N := 16) hx hb hts iw_One hown hK hP 0 rfl rfl 11 (by decide) fl_86 (fun _ h9 => h9) rfl dX11_plan_30 ?_
      refine lv_iload_n hx hb dX11_plan_33 rfl (lv_at hl 2 rfl) ?_
      refine lv_iload_n hx hb dX11_plan_34 rfl (lv_at hl 3 rfl) ?_
      obtain ⟨h_6, hf⟩ := mb_chk_s hf
      obtain ⟨P0_5, e_, hf⟩ := mb_let_s hf
      refine va_iast hx hb hK hP hD hS 1 0 rfl rfl h_6 dX11_plan_35 (fun H locs hP hD hS => ?_)
      have hP : va_P D vwCl (wC_One k a0 P0_5) H := by rw [e_]; exact hP
      have hD : va_D A (wC_One k a0 P0_5) := by rw [e_]; exact hD
      clear e_
      refine lv_iload_n hx hb dX11_plan_36 rfl (lv_at hl 0 rfl) ?_
      have hz := Option.some.inj hf
      subst hz
      exact hret _ _ _ _ dX11_plan_37 hP hD hS
    · have hf := mb_if_t c_7 hf
      refine lv_iconst (v := (-1)) hx hb dX11_plan_20 (by decide) ?_
      have hz := Option.some.inj hf
      subst hz
      exact hret _ _ _ _ dX11_plan_21 hP hD hS
def f_Rods_offAfter (P0 : PI) (x1 : Int32) (x2 : Int32) : Option (Int32) := mb_chk x1 12 (mb_chk x1 12 (mb_let (if (-500 : Int32) < ((P0 5 x1.toNatClampNeg) - ((P0 6 x1.toNatClampNeg) * x2)) then ((P0 5 x1.toNatClampNeg) - ((P0 6 x1.toNatClampNeg) * x2)) else (-500 : Int32)) (fun (v_3 : Int32) => some v_3)))
def rm_Rods_offAfter : Room := { frames := 1, cells := 0, slots := 0, locals := 40 }
set_option maxHeartbeats 4000000 in
set_option maxRecDepth 100000 in
theorem c_Rods_offAfter (l : Launch) (D : va_G) (k : Nat → ClassId) (sz : Nat) (b0 : Nat → Nat) (P0 : PI) (L0 : PL) (x1 : Int32) (x2 : Int32) (z : Int32) (hf : f_Rods_offAfter P0 x1 x2 = some z) : Met l yX4_offAfter wsX4_offAfter rm_Rods_offAfter (va_Pc [.ref (b0 0), .int x1, .int x2] (gw_pre D vwCl (tyL k) (wC_Rods k b0 P0 L0) sz)) (va_Qi (fun (r : Int32) (_ : Unit) => r = z) (gw_b D vwCl (tyL k) (va_A (wC_Rods k b0 P0 L0) sz) (wC_Rods k b0 P0 L0)) (va_A (wC_Rods k b0 P0 L0) sz)) 0 0 (va_A (wC_Rods k b0 P0 L0) sz) := by
  refine gm_i (cc := cX4_offAfter) (maxL := 3) (by decide) rfl (Nat.le_of_ble_eq_true rfl) ?_
  intro p e s m args below meth c A Q ls H locs hx hb hml hown hts hK hN hA hP hD hS hl hret
  have hown : s.vm.findClass RX4 = some m.cls := hown
  have hl : lv_has ls 3 [(0, .ref (b0 0)), (1, .int x1), (2, .int x2)] := hl
  have iw_Rods : ∀ w ∈ u_ws RX4 TX4 13, w ∈ wsX4_offAfter := by decide +kernel
  have fl_25 := hts (.fieldLink RX4 25 "OneMeasure$Rods" "offAtFirst" "[I") (by decide +kernel)
  have fl_28 := hts (.fieldLink RX4 28 "OneMeasure$Rods" "wear" "[I") (by decide +kernel)
  have ml_53 := hts (.methodLink RX4 53 Lib.Math.max.name) (by decide +kernel)
  have maxI_st := hts (.static Lib.Math.max.name) (by decide +kernel)
  have ma_ini := hts (.initialized "java/lang/Math") (by decide +kernel)
  have maxI_code := hts (.code Lib.Math.max.name Lib.Math.max.code 2 (some .int)) (by decide +kernel)
  unfold f_Rods_offAfter at hf
  refine lv_sipush (v := (-500)) hx hb dX4_offAfter_0 (by decide) ?_
  refine lv_aload_n hx hb dX4_offAfter_3 rfl (lv_at hl 0 rfl) ?_
  refine va_get (D := D) (ci := 4) (v := .ref (b0 5)) (C := RX4) (T := TX4) (N := 13) hx hb hts iw_Rods hown hK hP 0 rfl rfl 4 (by decide) fl_25 (fun _ h9 => h9) rfl dX4_offAfter_4 ?_
  refine lv_iload_n hx hb dX4_offAfter_7 rfl (lv_at hl 1 rfl) ?_
  obtain ⟨h_1, hf⟩ := mb_chk_s hf
  refine va_iald hx hb hK hP 3 0 rfl rfl h_1 dX4_offAfter_8 ?_
  refine lv_aload_n hx hb dX4_offAfter_9 rfl (lv_at hl 0 rfl) ?_
  refine va_get (D := D) (ci := 4) (v := .ref (b0 6)) (C := RX4) (T := TX4) (N := 13) hx hb hts iw_Rods hown hK hP 0 rfl rfl 5 (by decide) fl_28 (fun _ h9 => h9) rfl dX4_offAfter_10 ?_
  refine lv_iload_n hx hb dX4_offAfter_13 rfl (lv_at hl 1 rfl) ?_
  obtain ⟨h_2, hf⟩ := mb_chk_s hf
  refine va_iald hx hb hK hP 4 0 rfl rfl h_2 dX4_offAfter_14 ?_
  refine lv_iload_n hx hb dX4_offAfter_15 rfl (lv_at hl 2 rfl) ?_
  refine lv_imul hx hb dX4_offAfter_16 ?_
  refine lv_isub hx hb dX4_offAfter_17 ?_
  obtain ⟨v_3, e_, hf⟩ := mb_let_s hf
  refine va_mmax hx hb (hml.trans hl.1.symm) hown ml_53 maxI_st ma_ini maxI_code (Nat.le_of_ble_eq_true rfl) (Nat.le_of_ble_eq_true rfl) (Nat.zero_le _) (Nat.zero_le _) dX4_offAfter_18 ?_
  refine mb_topi e_ ?_
  clear e_
  have hz := Option.some.inj hf
  subst hz
  exact hret _ _ _ _ dX4_offAfter_21 hP hD hS
def f_Rods_shortIn (P0 : PI) (P1 : PI) (x1 : Int32) (x2 : Int32) : Option (Int64) := mb_chk x1 12 (mb_chk x1 12 (mb_chk (P0 3 x1.toNatClampNeg) 16 (mb_bd1 (f_Rods_offAfter P0 x1 x2) (fun (r_4 : Int32) => mb_dvl (1000 : Int64) (some (((((P0 9 x1.toNatClampNeg)).toInt64 * ((P1 2 (P0 3 x1.toNatClampNeg).toNatClampNeg)).toInt64) * ((-r_4)).toInt64) / (1000 : Int64)))))))
def rm_Rods_shortIn : Room := { frames := 2, cells := 0, slots := 0, locals := 62 }
set_option maxHeartbeats 4000000 in
set_option maxRecDepth 100000 in
theorem c_Rods_shortIn (l : Launch) (D : va_G) (k : Nat → ClassId) (sz : Nat) (b0 : Nat → Nat) (b3 : Nat → Nat) (P0 : PI) (L0 : PL) (P1 : PI) (x1 : Int32) (x2 : Int32) (z : Int64) (hf : f_Rods_shortIn P0 P1 x1 x2 = some z) : Met l yX4_shortIn wsX4_shortIn rm_Rods_shortIn (va_Pc [.ref (b0 0), .int x1, .int x2, .ref (b3 0)] (gw_pre D vwCl (tyL k) (wC_Rods k b0 P0 L0 ++ (wC_Units k b3 P1)) sz)) (va_Ql (fun (r : Int64) (_ : Unit) => r = z) (gw_b D vwCl (tyL k) (va_A (wC_Rods k b0 P0 L0 ++ (wC_Units k b3 P1)) sz) (wC_Rods k b0 P0 L0 ++ (wC_Units k b3 P1))) (va_A (wC_Rods k b0 P0 L0 ++ (wC_Units k b3 P1)) sz)) 0 0 (va_A (wC_Rods k b0 P0 L0 ++ (wC_Units k b3 P1)) sz) := by
  refine gm_l (cc := cX4_shortIn) (maxL := 4) (by decide) rfl (Nat.le_of_ble_eq_true rfl) ?_
  intro p e s m args below meth c A Q ls H locs hx hb hml hown hts hK hN hA hP hD hS hl hret
  have hown : s.vm.findClass RX4 = some m.cls := hown
  have hl : lv_has ls 4 [(0, .ref (b0 0)), (1, .int x1), (2, .int x2), (3, .ref (b3 0))] := hl
  have iw_Rods : ∀ w ∈ u_ws RX4 TX4 13, w ∈ wsX4_shortIn := by decide +kernel
  have iw_Units : ∀ w ∈ u_ws RX9 TX9 4, w ∈ wsX4_shortIn := by decide +kernel
  have fl_18 := hts (.fieldLink RX4 18 "OneMeasure$Rods" "unit" "[I") (by decide +kernel)
  have fl_37 := hts (.fieldLink RX4 37 "OneMeasure$Rods" "sales" "[I") (by decide +kernel)
  have fl_59 := hts (.fieldLink RX4 59 "OneMeasure$Units" "size" "[I") (by decide +kernel)
  have lc_67 := hts (.constantLong RX4 67 (1000)) (by decide +kernel)
  unfold f_Rods_shortIn at hf
  refine lv_aload_n hx hb dX4_shortIn_0 rfl (lv_at hl 0 rfl) ?_
  refine va_get (D := D) (ci := 4) (v := .ref (b0 9)) (C := RX4) (T := TX4) (N := 13) hx hb hts iw_Rods hown hK hP 0 rfl rfl 8 (by decide) fl_37 (fun _ h9 => h9) rfl dX4_shortIn_1 ?_
  refine lv_iload_n hx hb dX4_shortIn_4 rfl (lv_at hl 1 rfl) ?_
  obtain ⟨h_1, hf⟩ := mb_chk_s hf
  refine va_iald hx hb hK hP 7 0 rfl rfl h_1 dX4_shortIn_5 ?_
  refine lv_i2l hx hb dX4_shortIn_6 rfl ?_
  refine lv_aload_n hx hb dX4_shortIn_7 rfl (lv_at hl 3 rfl) ?_
  refine va_get (D := D) (ci := 9) (v := .ref (b3 2)) (C := RX9) (T := TX9) (N := 4) hx hb hts iw_Units hown hK hP 12 rfl rfl 1 (by decide) fl_59 (fun _ h9 => h9) rfl dX4_shortIn_8 ?_
  refine lv_aload_n hx hb dX4_shortIn_11 rfl (lv_at hl 0 rfl) ?_
  refine va_get (D := D) (ci := 4) (v := .ref (b0 3)) (C := RX4) (T := TX4) (N := 13) hx hb hts iw_Rods hown hK hP 0 rfl rfl 2 (by decide) fl_18 (fun _ h9 => h9) rfl dX4_shortIn_12 ?_
  refine lv_iload_n hx hb dX4_shortIn_15 rfl (lv_at hl 1 rfl) ?_
  obtain ⟨h_2, hf⟩ := mb_chk_s hf
  refine va_iald hx hb hK hP 1 0 rfl rfl h_2 dX4_shortIn_16 ?_
  obtain ⟨h_3, hf⟩ := mb_chk_s hf
  refine va_iald hx hb hK hP 14 0 rfl rfl h_3 dX4_shortIn_17 ?_
  refine lv_i2l hx hb dX4_shortIn_18 rfl ?_
  refine lv_lmul hx hb dX4_shortIn_19 ?_
  refine lv_aload_n hx hb dX4_shortIn_20 rfl (lv_at hl 0 rfl) ?_
  refine lv_iload_n hx hb dX4_shortIn_21 rfl (lv_at hl 1 rfl) ?_
  refine lv_iload_n hx hb dX4_shortIn_22 rfl (lv_at hl 2 rfl) ?_
  obtain ⟨r_4, hz, hf⟩ := mb_bd1_s hf
  refine gc_i (r0 := r_4) (ws' := (wC_Rods k b0 P0 L0 ++ (wC_Units k b3 P1))) (wr := (wC_Units k b3 P1)) (va_runV (As := [.int x1, .int x2]) (rest := [.long (((P0 9 x1.toNatClampNeg)).toInt64 * ((P1 2 (P0 3 x1.toNatClampNeg).toNatClampNeg)).toInt64)]) ⟨hx, hb, hml, hown, hts⟩ (c_Rods_offAfter l D k H.size b0 P0 L0 x1 x2 r_4 hz) (cwV 2 hts gX4_shortIn_X4_offAfter rfl rfl rfl (by decide +kernel) ⟨Nat.le_of_ble_eq_true rfl, Nat.le_of_ble_eq_true rfl⟩) (gp_V (ci := 4) (q0 := 0) (q := (RX4, TX4, 13)) hP hD hK hN [0, 1, 2, 3, 4, 5, 6, 7, 8, 9, 10, 11] (by decide +kernel) rfl rfl rfl) rfl rfl hl.1 rfl (lv_room (Nat.le_of_ble_eq_true rfl)) dX4_shortIn_23 ⟨Nat.zero_le _, Nat.zero_le _⟩) hP hD hS hA [0, 1, 2, 3, 4, 5, 6, 7, 8, 9, 10, 11] [12, 13, 14, 15] rfl rfl (by decide +kernel) (by decide +kernel) [4, 5, 6, 7, 8, 9, 10, 11, 12, 13, 14, 15, 0, 1, 2, 3] (by decide +kernel) rfl (fun H locs hP hD hS => ?_)
  clear hz
  refine lv_ineg hx hb dX4_shortIn_26 ?_
  refine lv_i2l hx hb dX4_shortIn_27 rfl ?_
  refine lv_lmul hx hb dX4_shortIn_28 ?_
  refine lv_ldc2 (v := (1000)) hx hb hown lc_67 dX4_shortIn_29 ?_
  obtain ⟨h_5, hf⟩ := mb_dvl_s hf
  refine lv_ldiv hx hb dX4_shortIn_32 h_5 ?_
  have hz := Option.some.inj hf
  subst hz
  exact hret _ _ _ _ dX4_shortIn_33 hP hD hS
def f_Rods_sell (P0 : PI) (L0 : PL) (P1 : PI) (x1 : Int32) : Option (PL) := mb_chk x1 12 (mb_bd1 (f_Rods_shortIn P0 P1 x1 (P0 8 x1.toNatClampNeg)) (fun (r_2 : Int64) => mb_let r_2 (fun (x3_3 : Int64) => (if (lg_cmp x3_3 (0 : Int64)) ≤ 0 then mb_chk x1 12 (mb_chk (P0 4 x1.toNatClampNeg) 6 (mb_chk (P0 4 x1.toNatClampNeg) 6 (mb_let (mb_u2L L0 13 (P0 4 x1.toNatClampNeg).toNatClampNeg ((L0 13 (P0 4 x1.toNatClampNeg).toNatClampNeg) - x3_3)) (fun (L0_6 : PL) => some L0_6)))) else mb_chk x1 12 (mb_chk (P0 4 x1.toNatClampNeg) 6 (mb_chk (P0 4 x1.toNatClampNeg) 6 (mb_let (mb_u2L L0 12 (P0 4 x1.toNatClampNeg).toNatClampNeg ((L0 12 (P0 4 x1.toNatClampNeg).toNatClampNeg) + x3_3)) (fun (L0_10 : PL) => some L0_10))))))))
def rm_Rods_sell : Room := { frames := 3, cells := 0, slots := 0, locals := 85 }
set_option maxHeartbeats 4000000 in
set_option maxRecDepth 100000 in
theorem c_Rods_sell (l : Launch) (D : va_G) (k : Nat → ClassId) (sz : Nat) (b0 : Nat → Nat) (b2 : Nat → Nat) (P0 : PI) (L0 : PL) (P1 : PI) (x1 : Int32) (z : PL) (hf : f_Rods_sell P0 L0 P1 x1 = some z) : Met l yX4_sell wsX4_sell rm_Rods_sell (va_Pc [.ref (b0 0), .int x1, .ref (b2 0)] (gw_pre D vwCl (tyL k) (wC_Rods k b0 P0 L0 ++ (wC_Units k b2 P1)) sz)) (va_Qv (fun (_ : Unit) => True) (gw_b D vwCl (tyL k) (va_A (wC_Rods k b0 P0 L0 ++ (wC_Units k b2 P1)) sz) (wC_Rods k b0 P0 z ++ (wC_Units k b2 P1))) (va_A (wC_Rods k b0 P0 L0 ++ (wC_Units k b2 P1)) sz)) 0 0 (va_A (wC_Rods k b0 P0 L0 ++ (wC_Units k b2 P1)) sz) := by
  refine gm_v (cc := cX4_sell) (maxL := 5) (by decide) rfl (Nat.le_of_ble_eq_true rfl) ?_
  intro p e s m args below meth c A Q ls H locs hx hb hml hown hts hK hN hA hP hD hS hl hret
  have hown : s.vm.findClass RX4 = some m.cls := hown
  have hl : lv_has ls 5 [(0, .ref (b0 0)), (1, .int x1), (2, .ref (b2 0))] := hl
  have iw_Rods : ∀ w ∈ u_ws RX4 TX4 13, w ∈ wsX4_sell := by decide +kernel
  have fl_22 := hts (.fieldLink RX4 22 "OneMeasure$Rods" "district" "[I") (by decide +kernel)
  have fl_34 := hts (.fieldLink RX4 34 "OneMeasure$Rods" "worn" "[I") (by decide +kernel)
  have fl_46 := hts (.fieldLink RX4 46 "OneMeasure$Rods" "taken" "[J") (by decide +kernel)
  have fl_50 := hts (.fieldLink RX4 50 "OneMeasure$Rods" "given" "[J") (by decide +kernel)
  unfold f_Rods_sell at hf
  refine lv_aload_n hx hb dX4_sell_0 rfl (lv_at hl 0 rfl) ?_
  refine lv_iload_n hx hb dX4_sell_1 rfl (lv_at hl 1 rfl) ?_
  refine lv_aload_n hx hb dX4_sell_2 rfl (lv_at hl 0 rfl) ?_
  refine va_get (D := D) (ci := 4) (v := .ref (b0 8)) (C := RX4) (T := TX4) (N := 13) hx hb hts iw_Rods hown hK hP 0 rfl rfl 7 (by decide) fl_34 (fun _ h9 => h9) rfl dX4_sell_3 ?_
  refine lv_iload_n hx hb dX4_sell_6 rfl (lv_at hl 1 rfl) ?_
  obtain ⟨h_1, hf⟩ := mb_chk_s hf
  refine va_iald hx hb hK hP 6 0 rfl rfl h_1 dX4_sell_7 ?_
  refine lv_aload_n hx hb dX4_sell_8 rfl (lv_at hl 2 rfl) ?_
  obtain ⟨r_2, hz, hf⟩ := mb_bd1_s hf
  refine gc_l (r0 := r_2) (ws' := (wC_Rods k b0 P0 L0 ++ (wC_Units k b2 P1))) (wr := ([] : va_W)) (va_runV (As := [.int x1, .int (P0 8 x1.toNatClampNeg), .ref (b2 0)]) (rest := []) ⟨hx, hb, hml, hown, hts⟩ (c_Rods_shortIn l D k H.size b0 b2 P0 L0 P1 x1 (P0 8 x1.toNatClampNeg) r_2 hz) (cwV 3 hts gX4_sell_X4_shortIn rfl rfl rfl (by decide +kernel) ⟨Nat.le_of_ble_eq_true rfl, Nat.le_of_ble_eq_true rfl⟩) (gp_V (ci := 4) (q0 := 0) (q := (RX4, TX4, 13)) hP hD hK hN [0, 1, 2, 3, 4, 5, 6, 7, 8, 9, 10, 11, 12, 13, 14, 15] (by decide +kernel) rfl rfl rfl) rfl rfl hl.1 rfl (lv_room (Nat.le_of_ble_eq_true rfl)) dX4_sell_9 ⟨Nat.zero_le _, Nat.zero_le _⟩) hP hD hS hA [0, 1, 2, 3, 4, 5, 6, 7, 8, 9, 10, 11, 12, 13, 14, 15] [] rfl rfl (by decide +kernel) (by decide +kernel) [0, 1, 2, 3, 4, 5, 6, 7, 8, 9, 10, 11, 12, 13, 14, 15] (by decide +kernel) rfl (fun H locs hP hD hS => ?_)
  clear hz
  obtain ⟨x3_3, e_, hf⟩ := mb_let_s hf
  refine mb_topl e_ ?_
  clear e_
  refine lv_lstore_n (lv' := [(3, .long x3_3), (0, .ref (b0 0)), (1, .int x1), (2, .ref (b2 0))]) hx hb dX4_sell_12 rfl hl (by decide) rfl (fun ls hl => ?_)
  refine lv_lload_n hx hb dX4_sell_13 rfl (lv_at hl 0 rfl) ?_
  refine lv_lconst (v := 0) hx hb dX4_sell_14 (by decide) ?_
  refine W.lcmp hx hb dX4_sell_15 ?_
  refine lv_if_le (tgt := 37) hx hb dX4_sell_16 (by decide) (fun c_12 => ?_) (fun c_12 => ?_)
  · have hf := mb_if_t c_12 hf
    refine lv_aload_n hx hb dX4_sell_37 rfl (lv_at hl 1 rfl) ?_
    refine va_get (D := D) (ci := 4) (v := .ref (b0 13)) (C := RX4) (T := TX4) (N := 13) hx hb hts iw_Rods hown hK hP 0 rfl rfl 12 (by decide) fl_50 (fun _ h9 => h9) rfl dX4_sell_38 ?_
    refine lv_aload_n hx hb dX4_sell_41 rfl (lv_at hl 1 rfl) ?_
    refine va_get (D := D) (ci := 4) (v := .ref (b0 4)) (C := RX4) (T := TX4) (N := 13) hx hb hts iw_Rods hown hK hP 0 rfl rfl 3 (by decide) fl_22 (fun _ h9 => h9) rfl dX4_sell_42 ?_
    refine lv_iload_n hx hb dX4_sell_45 rfl (lv_at hl 2 rfl) ?_
    obtain ⟨h_4, hf⟩ := mb_chk_s hf
    refine va_iald hx hb hK hP 2 0 rfl rfl h_4 dX4_sell_46 ?_
    refine lv_dup2_11 hx hb dX4_sell_47 rfl rfl ?_
    obtain ⟨h_5, hf⟩ := mb_chk_s hf
    refine va_lald hx hb hK hP 11 1 rfl rfl h_5 dX4_sell_48 ?_
    refine lv_lload_n hx hb dX4_sell_49 rfl (lv_at hl 0 rfl) ?_
    refine lv_lsub hx hb dX4_sell_50 ?_
    obtain ⟨h_7, hf⟩ := mb_chk_s hf
    obtain ⟨L0_6, e_, hf⟩ := mb_let_s hf
    refine va_last hx hb hK hP hD hS 11 1 rfl rfl h_7 dX4_sell_51 (fun H locs hP hD hS => ?_)
    have hP : va_P D vwCl (wC_Rods k b0 P0 L0_6 ++ (wC_Units k b2 P1)) H := by rw [e_]; exact hP
    have hD : va_D A (wC_Rods k b0 P0 L0_6 ++ (wC_Units k b2 P1)) := by rw [e_]; exact hD
    clear e_
    have hz := Option.some.inj hf
    subst hz
    exact hret _ _ _ _ dX4_sell_52 hP hD hS
  · have hf := mb_if_f c_12 hf
    refine lv_aload_n hx hb dX4_sell_19 rfl (lv_at hl 1 rfl) ?_
    refine va_get (D := D) (ci := 4) (v := .ref (b0 12)) (C := RX4) (T := TX4) (N := 13) hx hb hts iw_Rods hown hK hP 0 rfl rfl 11 (by decide) fl_46 (fun _ h9 => h9) rfl dX4_sell_20 ?_
    refine lv_aload_n hx hb dX4_sell_23 rfl (lv_at hl 1 rfl) ?_
    refine va_get (D := D) (ci := 4) (v := .ref (b0 4)) (C := RX4) (T := TX4) (N := 13) hx hb hts iw_Rods hown hK hP 0 rfl rfl 3 (by decide) fl_22 (fun _ h9 => h9) rfl dX4_sell_24 ?_
    refine lv_iload_n hx hb dX4_sell_27 rfl (lv_at hl 2 rfl) ?_
    obtain ⟨h_8, hf⟩ := mb_chk_s hf
    refine va_iald hx hb hK hP 2 0 rfl rfl h_8 dX4_sell_28 ?_
    refine lv_dup2_11 hx hb dX4_sell_29 rfl rfl ?_
    obtain ⟨h_9, hf⟩ := mb_chk_s hf
    refine va_lald hx hb hK hP 10 1 rfl rfl h_9 dX4_sell_30 ?_
    refine lv_lload_n hx hb dX4_sell_31 rfl (lv_at hl 0 rfl) ?_
    refine lv_ladd hx hb dX4_sell_32 ?_
    obtain ⟨h_11, hf⟩ := mb_chk_s hf
    obtain ⟨L0_10, e_, hf⟩ := mb_let_s hf
    refine va_last hx hb hK hP hD hS 10 1 rfl rfl h_11 dX4_sell_33 (fun H locs hP hD hS => ?_)
    have hP : va_P D vwCl (wC_Rods k b0 P0 L0_10 ++ (wC_Units k b2 P1)) H := by rw [e_]; exact hP
    have hD : va_D A (wC_Rods k b0 P0 L0_10 ++ (wC_Units k b2 P1)) := by rw [e_]; exact hD
    clear e_
    refine lv_goto (tgt := 52) hx hb dX4_sell_34 (by decide) ?_
    have hz := Option.some.inj hf
    subst hz
    exact hret _ _ _ _ dX4_sell_52 hP hD hS
def f_Rods_isForfeit (P0 : PI) (P1 : PI) (x1 : Int32) (x2 : Int32) (x3 : Int32) (x5 : Int32) : Option (Int32) := mb_bd1 (f_Rods_offAfter P0 x1 x2) (fun (r_1 : Int32) => mb_let (if 0 ≤ r_1 then r_1 else 0 - r_1) (fun (v_2 : Int32) => (if v_2 ≤ x5 then mb_chk x1 12 (mb_chk x1 12 (mb_bd1 (f_Decrees_lets P1 (P0 3 x1.toNatClampNeg) (P0 4 x1.toNatClampNeg) ((7 : Int32) * x3)) (fun (r_5 : Int32) => (if r_5 = 0 then some (1 : Int32) else some (0 : Int32))))) else some (1 : Int32))))
def rm_Rods_isForfeit : Room := { frames := 3, cells := 0, slots := 0, locals := 73 }
set_option maxHeartbeats 4000000 in
set_option maxRecDepth 100000 in
theorem c_Rods_isForfeit (l : Launch) (D : va_G) (k : Nat → ClassId) (sz : Nat) (b0 : Nat → Nat) (b4 : Nat → Nat) (P0 : PI) (L0 : PL) (P1 : PI) (x1 : Int32) (x2 : Int32) (x3 : Int32) (x5 : Int32) (z : Int32) (hf : f_Rods_isForfeit P0 P1 x1 x2 x3 x5 = some z) : Met l yX4_isForfeit wsX4_isForfeit rm_Rods_isForfeit (va_Pc [.ref (b0 0), .int x1, .int x2, .int x3, .ref (b4 0), .int x5] (gw_pre D vwCl (tyL k) (wC_Rods k b0 P0 L0 ++ (wC_Decrees k b4 P1)) sz)) (va_Qi (fun (r : Int32) (_ : Unit) => r = z) (gw_b D vwCl (tyL k) (va_A (wC_Rods k b0 P0 L0 ++ (wC_Decrees k b4 P1)) sz) (wC_Rods k b0 P0 L0 ++ (wC_Decrees k b4 P1))) (va_A (wC_Rods k b0 P0 L0 ++ (wC_Decrees k b4 P1)) sz)) 0 0 (va_A (wC_Rods k b0 P0 L0 ++ (wC_Decrees k b4 P1)) sz) := by
  refine gm_z (cc := cX4_isForfeit) (maxL := 6) (by decide) rfl (Nat.le_of_ble_eq_true rfl) ?_
  intro p e s m args below meth c A Q ls H locs hx hb hml hown hts hK hN hA hP hD hS hl hret
  have hown : s.vm.findClass RX4 = some m.cls := hown
  have hl : lv_has ls 6 [(0, .ref (b0 0)), (1, .int x1), (2, .int x2), (3, .int x3), (4, .ref (b4 0)), (5, .int x5)] := hl
  have iw_Rods : ∀ w ∈ u_ws RX4 TX4 13, w ∈ wsX4_isForfeit := by decide +kernel
  have fl_18 := hts (.fieldLink RX4 18 "OneMeasure$Rods" "unit" "[I") (by decide +kernel)
  have fl_22 := hts (.fieldLink RX4 22 "OneMeasure$Rods" "district" "[I") (by decide +kernel)
  have ml_69 := hts (.methodLink RX4 69 Lib.Math.abs.name) (by decide +kernel)
  have absI_st := hts (.static Lib.Math.abs.name) (by decide +kernel)
  have ma_ini := hts (.initialized "java/lang/Math") (by decide +kernel)
  have absI_code := hts (.code Lib.Math.abs.name Lib.Math.abs.code 1 (some .int)) (by decide +kernel)
  unfold f_Rods_isForfeit at hf
  refine lv_aload_n hx hb dX4_isForfeit_0 rfl (lv_at hl 0 rfl) ?_
  refine lv_iload_n hx hb dX4_isForfeit_1 rfl (lv_at hl 1 rfl) ?_
  refine lv_iload_n hx hb dX4_isForfeit_2 rfl (lv_at hl 2 rfl) ?_
  obtain ⟨r_1, hz, hf⟩ := mb_bd1_s hf
  refine gc_i (r0 := r_1) (ws' := (wC_Rods k b0 P0 L0 ++ (wC_Decrees k b4 P1))) (wr := (wC_Decrees k b4 P1)) (va_runV (As := [.int x1, .int x2]) (rest := []) ⟨hx, hb, hml, hown, hts⟩ (c_Rods_offAfter l D k H.size b0 P0 L0 x1 x2 r_1 hz) (cwV 2 hts gX4_isForfeit_X4_offAfter rfl rfl rfl (by decide +kernel) ⟨Nat.le_of_ble_eq_true rfl, Nat.le_of_ble_eq_true rfl⟩) (gp_V (ci := 4) (q0 := 0) (q := (RX4, TX4, 13)) hP hD hK hN [0, 1, 2, 3, 4, 5, 6, 7, 8, 9, 10, 11] (by decide +kernel) rfl rfl rfl) rfl rfl hl.1 rfl (lv_room (Nat.le_of_ble_eq_true rfl)) dX4_isForfeit_3 ⟨Nat.zero_le _, Nat.zero_le _⟩) hP hD hS hA [0, 1, 2, 3, 4, 5, 6, 7, 8, 9, 10, 11] [12, 13, 14, 15, 16, 17] rfl rfl (by decide +kernel) (by decide +kernel) [6, 7, 8, 9, 10, 11, 12, 13, 14, 15, 16, 17, 0, 1, 2, 3, 4, 5] (by decide +kernel) rfl (fun H locs hP hD hS => ?_)
  clear hz
  obtain ⟨v_2, e_, hf⟩ := mb_let_s hf
  refine va_mabs hx hb (hml.trans hl.1.symm) hown ml_69 absI_st ma_ini absI_code (Nat.le_of_ble_eq_true rfl) (Nat.le_of_ble_eq_true rfl) (Nat.zero_le _) (Nat.zero_le _) dX4_isForfeit_6 ?_
  refine mb_topi e_ ?_
  clear e_
  refine lv_iload hx hb dX4_isForfeit_9 (lv_at hl 5 rfl) ?_
  refine lv_icmp_le (tgt := 16) hx hb dX4_isForfeit_11 (by decide) (fun c_7 => ?_) (fun c_7 => ?_)
  · have hf := mb_if_t c_7 hf
    refine lv_aload hx hb dX4_isForfeit_16 (lv_at hl 4 rfl) ?_
    refine lv_aload_n hx hb dX4_isForfeit_18 rfl (lv_at hl 0 rfl) ?_
    refine va_get (D := D) (ci := 4) (v := .ref (b0 3)) (C := RX4) (T := TX4) (N := 13) hx hb hts iw_Rods hown hK hP 0 rfl rfl 2 (by decide) fl_18 (fun _ h9 => h9) rfl dX4_isForfeit_19 ?_
    refine lv_iload_n hx hb dX4_isForfeit_22 rfl (lv_at hl 1 rfl) ?_
    obtain ⟨h_3, hf⟩ := mb_chk_s hf
    refine va_iald hx hb hK hP 1 0 rfl rfl h_3 dX4_isForfeit_23 ?_
    refine lv_aload_n hx hb dX4_isForfeit_24 rfl (lv_at hl 0 rfl) ?_
    refine va_get (D := D) (ci := 4) (v := .ref (b0 4)) (C := RX4) (T := TX4) (N := 13) hx hb hts iw_Rods hown hK hP 0 rfl rfl 3 (by decide) fl_22 (fun _ h9 => h9) rfl dX4_isForfeit_25 ?_
    refine lv_iload_n hx hb dX4_isForfeit_28 rfl (lv_at hl 1 rfl) ?_
    obtain ⟨h_4, hf⟩ := mb_chk_s hf
    refine va_iald hx hb hK hP 2 0 rfl rfl h_4 dX4_isForfeit_29 ?_
    refine lv_bipush (v := 7) hx hb dX4_isForfeit_30 (by decide) ?_
    refine lv_iload_n hx hb dX4_isForfeit_32 rfl (lv_at hl 3 rfl) ?_
    refine lv_imul hx hb dX4_isForfeit_33 ?_
    obtain ⟨r_5, hz, hf⟩ := mb_bd1_s hf
    refine gc_i (r0 := r_5) (ws' := (wC_Rods k b0 P0 L0 ++ (wC_Decrees k b4 P1))) (wr := (wC_Rods k b0 P0 L0)) (va_runV (As := [.int (P0 3 x1.toNatClampNeg), .int (P0 4 x1.toNatClampNeg), .int ((7 : Int32) * x3)]) (rest := []) ⟨hx, hb, hml, hown, hts⟩ (c_Decrees_lets l D k H.size b4 P1 (P0 3 x1.toNatClampNeg) (P0 4 x1.toNatClampNeg) ((7 : Int32) * x3) r_5 hz) (cwV 3 hts gX4_isForfeit_X0_lets rfl rfl rfl (by decide +kernel) ⟨Nat.le_of_ble_eq_true rfl, Nat.le_of_ble_eq_true rfl⟩) (gp_V (ci := 0) (q0 := 0) (q := (RX0, TX0, 8)) hP hD hK hN [12, 13, 14, 15, 16, 17] (by decide +kernel) rfl rfl rfl) rfl rfl hl.1 rfl (lv_room (Nat.le_of_ble_eq_true rfl)) dX4_isForfeit_34 ⟨Nat.zero_le _, Nat.zero_le _⟩) hP hD hS hA [12, 13, 14, 15, 16, 17] [0, 1, 2, 3, 4, 5, 6, 7, 8, 9, 10, 11] rfl rfl (by decide +kernel) (by decide +kernel) [0, 1, 2, 3, 4, 5, 6, 7, 8, 9, 10, 11, 12, 13, 14, 15, 16, 17] (by decide +kernel) rfl (fun H locs hP hD hS => ?_)
    clear hz
    refine lv_if_ne (tgt := 44) hx hb dX4_isForfeit_37 (by decide) (fun c_6 => ?_) (fun c_6 => ?_)
    · have hf := mb_if_f c_6 hf
      refine lv_iconst (v := 0) hx hb dX4_isForfeit_44 (by decide) ?_
      have hz := Option.some.inj hf
      subst hz
      exact hret _ _ _ _ mb_n0 dX4_isForfeit_45 hP hD hS
    · have hf := mb_if_t c_6 hf
      refine lv_iconst (v := 1) hx hb dX4_isForfeit_40 (by decide) ?_
      refine lv_goto (tgt := 45) hx hb dX4_isForfeit_41 (by decide) ?_
      have hz := Option.some.inj hf
      subst hz
      exact hret _ _ _ _ mb_n1 dX4_isForfeit_45 hP hD hS
  · have hf := mb_if_f c_7 hf
    refine lv_iconst (v := 1) hx hb dX4_isForfeit_14 (by decide) ?_
    have hz := Option.some.inj hf
    subst hz
    exact hret _ _ _ _ mb_n1 dX4_isForfeit_15 hP hD hS
