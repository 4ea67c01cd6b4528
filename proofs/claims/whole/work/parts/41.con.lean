def f_One_keep (P0 : PI) (P1 : PI) (L1 : PL) (P2 : PI) (P3 : PI) (L3 : PL) (P4 : PI) (L4 : PL) (P5 : PI) (P6 : PI) : Option (Int32 × PI × PI × PL × PI × PL × PI × PI) := (if (P0 0 14) < (2 : Int32) then mb_chk (P0 0 14) 2 (if (P0 0 14) = 0 then mb_bd2 (f_Rods_copyFrom P3 L3 P1 L1) (fun (P3_3 : PI) (L3_4 : PL) => mb_chk (P0 0 14) 2 (if (P0 0 14) = 0 then mb_bd1 (f_Folk_copyFrom P5 P2) (fun (P5_7 : PI) => mb_let (mb_uo P0 14 ((P0 0 14) + (1 : Int32))) (fun (P0_8 : PI) => some ((P0_8 0 14), P0_8, P3_3, L3_4, P4, L4, P5_7, P6))) else mb_bd1 (f_Folk_copyFrom P6 P2) (fun (P6_9 : PI) => mb_let (mb_uo P0 14 ((P0 0 14) + (1 : Int32))) (fun (P0_10 : PI) => some ((P0_10 0 14), P0_10, P3_3, L3_4, P4, L4, P5, P6_9))))) else mb_bd2 (f_Rods_copyFrom P4 L4 P1 L1) (fun (P4_11 : PI) (L4_12 : PL) => mb_chk (P0 0 14) 2 (if (P0 0 14) = 0 then mb_bd1 (f_Folk_copyFrom P5 P2) (fun (P5_15 : PI) => mb_let (mb_uo P0 14 ((P0 0 14) + (1 : Int32))) (fun (P0_16 : PI) => some ((P0_16 0 14), P0_16, P3, L3, P4_11, L4_12, P5_15, P6))) else mb_bd1 (f_Folk_copyFrom P6 P2) (fun (P6_17 : PI) => mb_let (mb_uo P0 14 ((P0 0 14) + (1 : Int32))) (fun (P0_18 : PI) => some ((P0_18 0 14), P0_18, P3, L3, P4_11, L4_12, P5, P6_17)))))) else some ((-3 : Int32), P0, P3, L3, P4, L4, P5, P6))
def rm_One_keep : Room := { frames := 2, cells := 0, slots := 0, locals := 81 }
set_option maxHeartbeats 4000000 in
set_option maxRecDepth 100000 in
theorem c_One_keep (l : Launch) (D : va_G) (k : Nat → ClassId) (sz : Nat) (a0 : Nat → Nat → Nat) (P0 : PI) (P1 : PI) (L1 : PL) (P2 : PI) (P3 : PI) (L3 : PL) (P4 : PI) (L4 : PL) (P5 : PI) (P6 : PI) (z : Int32 × PI × PI × PL × PI × PL × PI × PI) (hf : f_One_keep P0 P1 L1 P2 P3 L3 P4 L4 P5 P6 = some z) : Met l yX11_keep wsX11_keep rm_One_keep (va_Pc [.ref (a0 0 0)] (gw_pre D vwCl (tyL k) (wC_One k a0 P0 ++ (wC_Rods k (a0 9) P1 L1 ++ (wC_Folk k (a0 11) P2 ++ (wC_Rods k (a0 20) P3 L3 ++ (wC_Rods k (a0 21) P4 L4 ++ (wC_Folk k (a0 22) P5 ++ (wC_Folk k (a0 23) P6))))))) sz)) (va_Qi (fun (r : Int32) (_ : Unit) => r = z.1) (gw_b D vwCl (tyL k) (va_A (wC_One k a0 P0 ++ (wC_Rods k (a0 9) P1 L1 ++ (wC_Folk k (a0 11) P2 ++ (wC_Rods k (a0 20) P3 L3 ++ (wC_Rods k (a0 21) P4 L4 ++ (wC_Folk k (a0 22) P5 ++ (wC_Folk k (a0 23) P6))))))) sz) (wC_One k a0 z.2.1 ++ (wC_Rods k (a0 9) P1 L1 ++ (wC_Folk k (a0 11) P2 ++ (wC_Rods k (a0 20) z.2.2.1 z.2.2.2.1 ++ (wC_Rods k (a0 21) z.2.2.2.2.1 z.2.2.2.2.2.1 ++ (wC_Folk k (a0 22) z.2.2.2.2.2.2.1 ++ (wC_Folk k (a0 23) z.2.2.2.2.2.2.2)))))))) (va_A (wC_One k a0 P0 ++ (wC_Rods k (a0 9) P1 L1 ++ (wC_Folk k (a0 11) P2 ++ (wC_Rods k (a0 20) P3 L3 ++ (wC_Rods k (a0 21) P4 L4 ++ (wC_Folk k (a0 22) P5 ++ (wC_Folk k (a0 23) P6))))))) sz)) 0 0 (va_A (wC_One k a0 P0 ++ (wC_Rods k (a0 9) P1 L1 ++ (wC_Folk k (a0 11) P2 ++ (wC_Rods k (a0 20) P3 L3 ++ (wC_Rods k (a0 21) P4 L4 ++ (wC_Folk k (a0 22) P5 ++ (wC_Folk k (a0 23) P6))))))) sz) := by
  refine gm_i (cc := cX11_keep) (maxL := 1) (by decide) rfl (Nat.le_of_ble_eq_true rfl) ?_
  intro p e s m args below meth c A Q ls H locs hx hb hml hown hts hK hN hA hP hD hS hl hret
  have hown : s.vm.findClass RX11 = some m.cls := hown
  have hl : lv_has ls 1 [(0, .ref (a0 0 0))] := hl
  have iw_One : ∀ w ∈ u_ws RX11 TX11 16, w ∈ wsX11_keep := by decide +kernel
  have fl_68 := hts (.fieldLink RX11 68 "OneMeasure" "rods" "LOneMeasure$Rods;") (by decide +kernel)
  have fl_82 := hts (.fieldLink RX11 82 "OneMeasure" "folk" "LOneMeasure$Folk;") (by decide +kernel)
  have fl_90 := hts (.fieldLink RX11 90 "OneMeasure" "keptRods" "[LOneMeasure$Rods;") (by decide +kernel)
  have fl_94 := hts (.fieldLink RX11 94 "OneMeasure" "keptFolk" "[LOneMeasure$Folk;") (by decide +kernel)
  have fl_98 := hts (.fieldLink RX11 98 "OneMeasure" "kept" "I") (by decide +kernel)
  unfold f_One_keep at hf
  refine lv_aload_n hx hb dX11_keep_0 rfl (lv_at hl 0 rfl) ?_
  refine va_get (D := D) (ci := 11) (v := .int (P0 0 14)) (C := RX11) (T := TX11) (N := 16) hx hb hts iw_One hown hK hP 0 rfl rfl 14 (by decide) fl_98 (fun _ h9 => h9) rfl dX11_keep_1 ?_
  refine lv_iconst (v := 2) hx hb dX11_keep_4 (by decide) ?_
  refine lv_icmp_lt (tgt := 11) hx hb dX11_keep_5 (by decide) (fun c_19 => ?_) (fun c_19 => ?_)
  · have hf := mb_if_t c_19 hf
    refine lv_aload_n hx hb dX11_keep_11 rfl (lv_at hl 0 rfl) ?_
    refine va_get (D := D) (ci := 11) (v := .ref (a0 0 13)) (C := RX11) (T := TX11) (N := 16) hx hb hts iw_One hown hK hP 0 rfl rfl 12 (by decide) fl_90 (fun _ h9 => h9) rfl dX11_keep_12 ?_
    refine lv_aload_n hx hb dX11_keep_15 rfl (lv_at hl 0 rfl) ?_
    refine va_get (D := D) (ci := 11) (v := .int (P0 0 14)) (C := RX11) (T := TX11) (N := 16) hx hb hts iw_One hown hK hP 0 rfl rfl 14 (by decide) fl_98 (fun _ h9 => h9) rfl dX11_keep_16 ?_
    obtain ⟨h_1, hf⟩ := mb_chk_s hf
    refine va_aldq hx hb hK hP 2 2 rfl rfl h_1 dX11_keep_19 ?_
    by_cases c_2 : (P0 0 14) = 0
    · have hf := mb_if_t c_2 hf
      refine W.eq (g2 := F0 m 20 ls [.ref (a0 20 0)]) (by rw [c_2]; rfl) ?_
      refine lv_aload_n hx hb dX11_keep_20 rfl (lv_at hl 0 rfl) ?_
      refine va_get (D := D) (ci := 11) (v := .ref (a0 9 0)) (C := RX11) (T := TX11) (N := 16) hx hb hts iw_One hown hK hP 0 rfl rfl 8 (by decide) fl_68 (fun _ h9 => h9) rfl dX11_keep_21 ?_
      obtain ⟨P3_3, L3_4, hz, hf⟩ := mb_bd2_s hf
      refine gc_v (ws' := (wC_One k a0 P0 ++ (wC_Rods k (a0 9) P1 L1 ++ (wC_Folk k (a0 11) P2 ++ (wC_Rods k (a0 20) P3_3 L3_4 ++ (wC_Rods k (a0 21) P4 L4 ++ (wC_Folk k (a0 22) P5 ++ (wC_Folk k (a0 23) P6)))))))) (wr := (wC_One k a0 P0 ++ (wC_Folk k (a0 11) P2 ++ (wC_Rods k (a0 21) P4 L4 ++ (wC_Folk k (a0 22) P5 ++ (wC_Folk k (a0 23) P6)))))) (va_runV (As := [.ref (a0 9 0)]) (rest := []) ⟨hx, hb, hml, hown, hts⟩ (c_Rods_copyFrom l D k H.size (a0 20) (a0 9) P3 L3 P1 L1 (P3_3, L3_4) hz) (cwV 1 hts gX11_keep_X4_copyFrom rfl rfl rfl (by decide +kernel) ⟨Nat.le_of_ble_eq_true rfl, Nat.le_of_ble_eq_true rfl⟩) (gp_V (ci := 4) (q0 := 0) (q := (RX4, TX4, 13)) hP hD hK hN [21, 22, 23, 24, 25, 26, 27, 28, 29, 30, 31, 32, 4, 5, 6, 7, 8, 9, 10, 11, 12, 13, 14, 15] (by decide +kernel) rfl rfl rfl) rfl rfl hl.1 rfl (lv_room (Nat.le_of_ble_eq_true rfl)) dX11_keep_24 ⟨Nat.zero_le _, Nat.zero_le _⟩) hP hD hS hA [21, 22, 23, 24, 25, 26, 27, 28, 29, 30, 31, 32, 4, 5, 6, 7, 8, 9, 10, 11, 12, 13, 14, 15] [0, 1, 2, 3, 16, 17, 18, 19, 20, 33, 34, 35, 36, 37, 38, 39, 40, 41, 42, 43, 44, 45, 46, 47, 48, 49, 50, 51, 52, 53, 54] rfl rfl (by decide +kernel) (by decide +kernel) [0, 1, 2, 3, 43, 44, 45, 46, 47, 48, 49, 50, 51, 52, 53, 54, 4, 5, 6, 7, 8, 31, 32, 33, 34, 35, 36, 37, 38, 39, 40, 41, 42, 9, 10, 11, 12, 13, 14, 15, 16, 17, 18, 19, 20, 21, 22, 23, 24, 25, 26, 27, 28, 29, 30] (by decide +kernel) rfl (fun H locs hP hD hS => ?_)
      clear hz
      refine lv_aload_n hx hb dX11_keep_27 rfl (lv_at hl 0 rfl) ?_
      refine va_get (D := D) (ci := 11) (v := .ref (a0 0 14)) (C := RX11) (T := TX11) (N := 16) hx hb hts iw_One hown hK hP 0 rfl rfl 13 (by decide) fl_94 (fun _ h9 => h9) rfl dX11_keep_28 ?_
      refine lv_aload_n hx hb dX11_keep_31 rfl (lv_at hl 0 rfl) ?_
      refine va_get (D := D) (ci := 11) (v := .int (P0 0 14)) (C := RX11) (T := TX11) (N := 16) hx hb hts iw_One hown hK hP 0 rfl rfl 14 (by decide) fl_98 (fun _ h9 => h9) rfl dX11_keep_32 ?_
      obtain ⟨h_5, hf⟩ := mb_chk_s hf
      refine va_aldq hx hb hK hP 3 3 rfl rfl h_5 dX11_keep_35 ?_
      by_cases c_6 : (P0 0 14) = 0
      · have hf := mb_if_t c_6 hf
        refine W.eq (g2 := F0 m 36 ls [.ref (a0 22 0)]) (by rw [c_6]; rfl) ?_
        refine lv_aload_n hx hb dX11_keep_36 rfl (lv_at hl 0 rfl) ?_
        refine va_get (D := D) (ci := 11) (v := .ref (a0 11 0)) (C := RX11) (T := TX11) (N := 16) hx hb hts iw_One hown hK hP 0 rfl rfl 10 (by decide) fl_82 (fun _ h9 => h9) rfl dX11_keep_37 ?_
        obtain ⟨P5_7, hz, hf⟩ := mb_bd1_s hf
        refine gc_v (ws' := (wC_One k a0 P0 ++ (wC_Rods k (a0 9) P1 L1 ++ (wC_Folk k (a0 11) P2 ++ (wC_Rods k (a0 20) P3_3 L3_4 ++ (wC_Rods k (a0 21) P4 L4 ++ (wC_Folk k (a0 22) P5_7 ++ (wC_Folk k (a0 23) P6)))))))) (wr := (wC_One k a0 P0 ++ (wC_Rods k (a0 9) P1 L1 ++ (wC_Rods k (a0 20) P3_3 L3_4 ++ (wC_Rods k (a0 21) P4 L4 ++ (wC_Folk k (a0 23) P6)))))) (va_runV (As := [.ref (a0 11 0)]) (rest := []) ⟨hx, hb, hml, hown, hts⟩ (c_Folk_copyFrom l D k H.size (a0 22) (a0 11) P5 P2 P5_7 hz) (cwV 1 hts gX11_keep_X1_copyFrom rfl rfl rfl (by decide +kernel) ⟨Nat.le_of_ble_eq_true rfl, Nat.le_of_ble_eq_true rfl⟩) (gp_V (ci := 1) (q0 := 0) (q := (RX1, TX1, 4)) hP hD hK hN [45, 46, 47, 48, 49, 16, 17, 18, 19, 20] (by decide +kernel) rfl rfl rfl) rfl rfl hl.1 rfl (lv_room (Nat.le_of_ble_eq_true rfl)) dX11_keep_40 ⟨Nat.zero_le _, Nat.zero_le _⟩) hP hD hS hA [45, 46, 47, 48, 49, 16, 17, 18, 19, 20] [0, 1, 2, 3, 4, 5, 6, 7, 8, 9, 10, 11, 12, 13, 14, 15, 21, 22, 23, 24, 25, 26, 27, 28, 29, 30, 31, 32, 33, 34, 35, 36, 37, 38, 39, 40, 41, 42, 43, 44, 50, 51, 52, 53, 54] rfl rfl (by decide +kernel) (by decide +kernel) [0, 1, 2, 3, 4, 5, 6, 7, 8, 9, 10, 11, 12, 13, 14, 15, 50, 51, 52, 53, 54, 16, 17, 18, 19, 20, 21, 22, 23, 24, 25, 26, 27, 28, 29, 30, 31, 32, 33, 34, 35, 36, 37, 38, 39, 45, 46, 47, 48, 49, 40, 41, 42, 43, 44] (by decide +kernel) rfl (fun H locs hP hD hS => ?_)
        clear hz
        refine lv_aload_n hx hb dX11_keep_43 rfl (lv_at hl 0 rfl) ?_
        refine lv_dup hx hb dX11_keep_44 rfl ?_
        refine va_get (D := D) (ci := 11) (v := .int (P0 0 14)) (C := RX11) (T := TX11) (N := 16) hx hb hts iw_One hown hK hP 0 rfl rfl 14 (by decide) fl_98 (fun _ h9 => h9) rfl dX11_keep_45 ?_
        refine lv_iconst (v := 1) hx hb dX11_keep_48 (by decide) ?_
        refine lv_iadd hx hb dX11_keep_49 ?_
        obtain ⟨P0_8, e_, hf⟩ := mb_let_s hf
        refine va_put (D := D) (ci := 11) (v := .int ((P0 0 14) + (1 : Int32))) (ty := .int) (C := RX11) (T := TX11) (N := 16) hx hb hts iw_One tyX11 tyX11_ok nmX11 hown hK hP hD hS 0 rfl rfl 14 (by decide) fl_98 (fun _ h9 => h9) rfl (by decide +kernel) rfl rfl (Nat.le_of_ble_eq_true rfl) dX11_keep_50 (fun H locs hP hD hS => ?_)
        have hP : va_P D vwCl (wC_One k a0 P0_8 ++ (wC_Rods k (a0 9) P1 L1 ++ (wC_Folk k (a0 11) P2 ++ (wC_Rods k (a0 20) P3_3 L3_4 ++ (wC_Rods k (a0 21) P4 L4 ++ (wC_Folk k (a0 22) P5_7 ++ (wC_Folk k (a0 23) P6))))))) H := by rw [e_]; exact hP
        have hD : va_D A (wC_One k a0 P0_8 ++ (wC_Rods k (a0 9) P1 L1 ++ (wC_Folk k (a0 11) P2 ++ (wC_Rods k (a0 20) P3_3 L3_4 ++ (wC_Rods k (a0 21) P4 L4 ++ (wC_Folk k (a0 22) P5_7 ++ (wC_Folk k (a0 23) P6))))))) := by rw [e_]; exact hD
        clear e_
        refine lv_aload_n hx hb dX11_keep_53 rfl (lv_at hl 0 rfl) ?_
        refine va_get (D := D) (ci := 11) (v := .int (P0_8 0 14)) (C := RX11) (T := TX11) (N := 16) hx hb hts iw_One hown hK hP 0 rfl rfl 14 (by decide) fl_98 (fun _ h9 => h9) rfl dX11_keep_54 ?_
        have hz := Option.some.inj hf
        subst hz
        exact hret _ _ _ _ dX11_keep_57 hP hD hS
      · have hf := mb_if_f c_6 hf
        refine W.eq (g2 := F0 m 36 ls [.ref (a0 23 0)]) (by rw [mb_two h_5 c_6]; rfl) ?_
        refine lv_aload_n hx hb dX11_keep_36 rfl (lv_at hl 0 rfl) ?_
        refine va_get (D := D) (ci := 11) (v := .ref (a0 11 0)) (C := RX11) (T := TX11) (N := 16) hx hb hts iw_One hown hK hP 0 rfl rfl 10 (by decide) fl_82 (fun _ h9 => h9) rfl dX11_keep_37 ?_
        obtain ⟨P6_9, hz, hf⟩ := mb_bd1_s hf
        refine gc_v (ws' := (wC_One k a0 P0 ++ (wC_Rods k (a0 9) P1 L1 ++ (wC_Folk k (a0 11) P2 ++ (wC_Rods k (a0 20) P3_3 L3_4 ++ (wC_Rods k (a0 21) P4 L4 ++ (wC_Folk k (a0 22) P5 ++ (wC_Folk k (a0 23) P6_9)))))))) (wr := (wC_One k a0 P0 ++ (wC_Rods k (a0 9) P1 L1 ++ (wC_Rods k (a0 20) P3_3 L3_4 ++ (wC_Rods k (a0 21) P4 L4 ++ (wC_Folk k (a0 22) P5)))))) (va_runV (As := [.ref (a0 11 0)]) (rest := []) ⟨hx, hb, hml, hown, hts⟩ (c_Folk_copyFrom l D k H.size (a0 23) (a0 11) P6 P2 P6_9 hz) (cwV 1 hts gX11_keep_X1_copyFrom rfl rfl rfl (by decide +kernel) ⟨Nat.le_of_ble_eq_true rfl, Nat.le_of_ble_eq_true rfl⟩) (gp_V (ci := 1) (q0 := 0) (q := (RX1, TX1, 4)) hP hD hK hN [50, 51, 52, 53, 54, 16, 17, 18, 19, 20] (by decide +kernel) rfl rfl rfl) rfl rfl hl.1 rfl (lv_room (Nat.le_of_ble_eq_true rfl)) dX11_keep_40 ⟨Nat.zero_le _, Nat.zero_le _⟩) hP hD hS hA [50, 51, 52, 53, 54, 16, 17, 18, 19, 20] [0, 1, 2, 3, 4, 5, 6, 7, 8, 9, 10, 11, 12, 13, 14, 15, 21, 22, 23, 24, 25, 26, 27, 28, 29, 30, 31, 32, 33, 34, 35, 36, 37, 38, 39, 40, 41, 42, 43, 44, 45, 46, 47, 48, 49] rfl rfl (by decide +kernel) (by decide +kernel) [0, 1, 2, 3, 4, 5, 6, 7, 8, 9, 10, 11, 12, 13, 14, 15, 50, 51, 52, 53, 54, 16, 17, 18, 19, 20, 21, 22, 23, 24, 25, 26, 27, 28, 29, 30, 31, 32, 33, 34, 35, 36, 37, 38, 39, 40, 41, 42, 43, 44, 45, 46, 47, 48, 49] (by decide +kernel) rfl (fun H locs hP hD hS => ?_)
        clear hz
        refine lv_aload_n hx hb dX11_keep_43 rfl (lv_at hl 0 rfl) ?_
        refine lv_dup hx hb dX11_keep_44 rfl ?_
        refine va_get (D := D) (ci := 11) (v := .int (P0 0 14)) (C := RX11) (T := TX11) (N := 16) hx hb hts iw_One hown hK hP 0 rfl rfl 14 (by decide) fl_98 (fun _ h9 => h9) rfl dX11_keep_45 ?_
        refine lv_iconst (v := 1) hx hb dX11_keep_48 (by decide) ?_
        refine lv_iadd hx hb dX11_keep_49 ?_
        obtain ⟨P0_10, e_, hf⟩ := mb_let_s hf
        refine va_put (D := D) (ci := 11) (v := .int ((P0 0 14) + (1 : Int32))) (ty := .int) (C := RX11) (T := TX11) (N := 16) hx hb hts iw_One tyX11 tyX11_ok nmX11 hown hK hP hD hS 0 rfl rfl 14 (by decide) fl_98 (fun _ h9 => h9) rfl (by decide +kernel) rfl rfl (Nat.le_of_ble_eq_true rfl) dX11_keep_50 (fun H locs hP hD hS => ?_)
        have hP : va_P D vwCl (wC_One k a0 P0_10 ++ (wC_Rods k (a0 9) P1 L1 ++ (wC_Folk k (a0 11) P2 ++ (wC_Rods k (a0 20) P3_3 L3_4 ++ (wC_Rods k (a0 21) P4 L4 ++ (wC_Folk k (a0 22) P5 ++ (wC_Folk k (a0 23) P6_9))))))) H := by rw [e_]; exact hP
        have hD : va_D A (wC_One k a0 P0_10 ++ (wC_Rods k (a0 9) P1 L1 ++ (wC_Folk k (a0 11) P2 ++ (wC_Rods k (a0 20) P3_3 L3_4 ++ (wC_Rods k (a0 21) P4 L4 ++ (wC_Folk k (a0 22) P5 ++ (wC_Folk k (a0 23) P6_9))))))) := by rw [e_]; exact hD
        clear e_
        refine lv_aload_n hx hb dX11_keep_53 rfl (lv_at hl 0 rfl) ?_
        refine va_get (D := D) (ci := 11) (v := .int (P0_10 0 14)) (C := RX11) (T := TX11) (N := 16) hx hb hts iw_One hown hK hP 0 rfl rfl 14 (by decide) fl_98 (fun _ h9 => h9) rfl dX11_keep_54 ?_
        have hz := Option.some.inj hf
        subst hz
        exact hret _ _ _ _ dX11_keep_57 hP hD hS
    · have hf := mb_if_f c_2 hf
      refine W.eq (g2 := F0 m 20 ls [.ref (a0 21 0)]) (by rw [mb_two h_1 c_2]; rfl) ?_
      refine lv_aload_n hx hb dX11_keep_20 rfl (lv_at hl 0 rfl) ?_
      refine va_get (D := D) (ci := 11) (v := .ref (a0 9 0)) (C := RX11) (T := TX11) (N := 16) hx hb hts iw_One hown hK hP 0 rfl rfl 8 (by decide) fl_68 (fun _ h9 => h9) rfl dX11_keep_21 ?_
      obtain ⟨P4_11, L4_12, hz, hf⟩ := mb_bd2_s hf
      refine gc_v (ws' := (wC_One k a0 P0 ++ (wC_Rods k (a0 9) P1 L1 ++ (wC_Folk k (a0 11) P2 ++ (wC_Rods k (a0 20) P3 L3 ++ (wC_Rods k (a0 21) P4_11 L4_12 ++ (wC_Folk k (a0 22) P5 ++ (wC_Folk k (a0 23) P6)))))))) (wr := (wC_One k a0 P0 ++ (wC_Folk k (a0 11) P2 ++ (wC_Rods k (a0 20) P3 L3 ++ (wC_Folk k (a0 22) P5 ++ (wC_Folk k (a0 23) P6)))))) (va_runV (As := [.ref (a0 9 0)]) (rest := []) ⟨hx, hb, hml, hown, hts⟩ (c_Rods_copyFrom l D k H.size (a0 21) (a0 9) P4 L4 P1 L1 (P4_11, L4_12) hz) (cwV 1 hts gX11_keep_X4_copyFrom rfl rfl rfl (by decide +kernel) ⟨Nat.le_of_ble_eq_true rfl, Nat.le_of_ble_eq_true rfl⟩) (gp_V (ci := 4) (q0 := 0) (q := (RX4, TX4, 13)) hP hD hK hN [33, 34, 35, 36, 37, 38, 39, 40, 41, 42, 43, 44, 4, 5, 6, 7, 8, 9, 10, 11, 12, 13, 14, 15] (by decide +kernel) rfl rfl rfl) rfl rfl hl.1 rfl (lv_room (Nat.le_of_ble_eq_true rfl)) dX11_keep_24 ⟨Nat.zero_le _, Nat.zero_le _⟩) hP hD hS hA [33, 34, 35, 36, 37, 38, 39, 40, 41, 42, 43, 44, 4, 5, 6, 7, 8, 9, 10, 11, 12, 13, 14, 15] [0, 1, 2, 3, 16, 17, 18, 19, 20, 21, 22, 23, 24, 25, 26, 27, 28, 29, 30, 31, 32, 45, 46, 47, 48, 49, 50, 51, 52, 53, 54] rfl rfl (by decide +kernel) (by decide +kernel) [0, 1, 2, 3, 43, 44, 45, 46, 47, 48, 49, 50, 51, 52, 53, 54, 4, 5, 6, 7, 8, 9, 10, 11, 12, 13, 14, 15, 16, 17, 18, 19, 20, 31, 32, 33, 34, 35, 36, 37, 38, 39, 40, 41, 42, 21, 22, 23, 24, 25, 26, 27, 28, 29, 30] (by decide +kernel) rfl (fun H locs hP hD hS => ?_)
      clear hz
      refine lv_aload_n hx hb dX11_keep_27 rfl (lv_at hl 0 rfl) ?_
      refine va_get (D := D) (ci := 11) (v := .ref (a0 0 14)) (C := RX11) (T := TX11) (N := 16) hx hb hts iw_One hown hK hP 0 rfl rfl 13 (by decide) fl_94 (fun _ h9 => h9) rfl dX11_keep_28 ?_
      refine lv_aload_n hx hb dX11_keep_31 rfl (lv_at hl 0 rfl) ?_
      refine va_get (D := D) (ci := 11) (v := .int (P0 0 14)) (C := RX11) (T := TX11) (N := 16) hx hb hts iw_One hown hK hP 0 rfl rfl 14 (by decide) fl_98 (fun _ h9 => h9) rfl dX11_keep_32 ?_
      obtain ⟨h_13, hf⟩ := mb_chk_s hf
      refine va_aldq hx hb hK hP 3 3 rfl rfl h_13 dX11_keep_35 ?_
      by_cases c_14 : (P0 0 14) = 0
      · have hf := mb_if_t c_14 hf
        refine W.eq (g2 := F0 m 36 ls [.ref (a0 22 0)]) (by rw [c_14]; rfl) ?_
        refine lv_aload_n hx hb dX11_keep_36 rfl (lv_at hl 0 rfl) ?_
        refine va_get (D := D) (ci := 11) (v := .ref (a0 11 0)) (C := RX11) (T := TX11) (N := 16) hx hb hts iw_One hown hK hP 0 rfl rfl 10 (by decide) fl_82 (fun _ h9 => h9) rfl dX11_keep_37 ?_
        obtain ⟨P5_15, hz, hf⟩ := mb_bd1_s hf
        refine gc_v (ws' := (wC_One k a0 P0 ++ (wC_Rods k (a0 9) P1 L1 ++ (wC_Folk k (a0 11) P2 ++ (wC_Rods k (a0 20) P3 L3 ++ (wC_Rods k (a0 21) P4_11 L4_12 ++ (wC_Folk k (a0 22) P5_15 ++ (wC_Folk k (a0 23) P6)))))))) (wr := (wC_One k a0 P0 ++ (wC_Rods k (a0 9) P1 L1 ++ (wC_Rods k (a0 20) P3 L3 ++ (wC_Rods k (a0 21) P4_11 L4_12 ++ (wC_Folk k (a0 23) P6)))))) (va_runV (As := [.ref (a0 11 0)]) (rest := []) ⟨hx, hb, hml, hown, hts⟩ (c_Folk_copyFrom l D k H.size (a0 22) (a0 11) P5 P2 P5_15 hz) (cwV 1 hts gX11_keep_X1_copyFrom rfl rfl rfl (by decide +kernel) ⟨Nat.le_of_ble_eq_true rfl, Nat.le_of_ble_eq_true rfl⟩) (gp_V (ci := 1) (q0 := 0) (q := (RX1, TX1, 4)) hP hD hK hN [45, 46, 47, 48, 49, 16, 17, 18, 19, 20] (by decide +kernel) rfl rfl rfl) rfl rfl hl.1 rfl (lv_room (Nat.le_of_ble_eq_true rfl)) dX11_keep_40 ⟨Nat.zero_le _, Nat.zero_le _⟩) hP hD hS hA [45, 46, 47, 48, 49, 16, 17, 18, 19, 20] [0, 1, 2, 3, 4, 5, 6, 7, 8, 9, 10, 11, 12, 13, 14, 15, 21, 22, 23, 24, 25, 26, 27, 28, 29, 30, 31, 32, 33, 34, 35, 36, 37, 38, 39, 40, 41, 42, 43, 44, 50, 51, 52, 53, 54] rfl rfl (by decide +kernel) (by decide +kernel) [0, 1, 2, 3, 4, 5, 6, 7, 8, 9, 10, 11, 12, 13, 14, 15, 50, 51, 52, 53, 54, 16, 17, 18, 19, 20, 21, 22, 23, 24, 25, 26, 27, 28, 29, 30, 31, 32, 33, 34, 35, 36, 37, 38, 39, 45, 46, 47, 48, 49, 40, 41, 42, 43, 44] (by decide +kernel) rfl (fun H locs hP hD hS => ?_)
        clear hz
        refine lv_aload_n hx hb dX11_keep_43 rfl (lv_at hl 0 rfl) ?_
        refine lv_dup hx hb dX11_keep_44 rfl ?_
        refine va_get (D := D) (ci := 11) (v := .int (P0 0 14)) (C := RX11) (T := TX11) (N := 16) hx hb hts iw_One hown hK hP 0 rfl rfl 14 (by decide) fl_98 (fun _ h9 => h9) rfl dX11_keep_45 ?_
        refine lv_iconst (v := 1) hx hb dX11_keep_48 (by decide) ?_
        refine lv_iadd hx hb dX11_keep_49 ?_
        obtain ⟨P0_16, e_, hf⟩ := mb_let_s hf
        refine va_put (D := D) (ci := 11) (v := .int ((P0 0 14) + (1 : Int32))) (ty := .int) (C := RX11) (T := TX11) (N := 16) hx hb hts iw_One tyX11 tyX11_ok nmX11 hown hK hP hD hS 0 rfl rfl 14 (by decide) fl_98 (fun _ h9 => h9) rfl (by decide +kernel) rfl rfl (Nat.le_of_ble_eq_true rfl) dX11_keep_50 (fun H locs hP hD hS => ?_)
        have hP : va_P D vwCl (wC_One k a0 P0_16 ++ (wC_Rods k (a0 9) P1 L1 ++ (wC_Folk k (a0 11) P2 ++ (wC_Rods k (a0 20) P3 L3 ++ (wC_Rods k (a0 21) P4_11 L4_12 ++ (wC_Folk k (a0 22) P5_15 ++ (wC_Folk k (a0 23) P6))))))) H := by rw [e_]; exact hP
        have hD : va_D A (wC_One k a0 P0_16 ++ (wC_Rods k (a0 9) P1 L1 ++ (wC_Folk k (a0 11) P2 ++ (wC_Rods k (a0 20) P3 L3 ++ (wC_Rods k (a0 21) P4_11 L4_12 ++ (wC_Folk k (a0 22) P5_15 ++ (wC_Folk k (a0 23) P6))))))) := by rw [e_]; exact hD
        clear e_
        refine lv_aload_n hx hb dX11_keep_53 rfl (lv_at hl 0 rfl) ?_
        refine va_get (D := D) (ci := 11) (v := .int (P0_16 0 14)) (C := RX11) (T := TX11) (N := 16) hx hb hts iw_One hown hK hP 0 rfl rfl 14 (by decide) fl_98 (fun _ h9 => h9) rfl dX11_keep_54 ?_
        have hz := Option.some.inj hf
        subst hz
        exact hret _ _ _ _ dX11_keep_57 hP hD hS
      · have hf := mb_if_f c_14 hf
        refine W.eq (g2 := F0 m 36 ls [.ref (a0 23 0)]) (by rw [mb_two h_13 c_14]; rfl) ?_
        refine lv_aload_n hx hb dX11_keep_36 rfl (lv_at hl 0 rfl) ?_
        refine va_get (D := D) (ci := 11) (v := .ref (a0 11 0)) (C := RX11) (T := TX11) (N := 16) hx hb hts iw_One hown hK hP 0 rfl rfl 10 (by decide) fl_82 (fun _ h9 => h9) rfl dX11_keep_37 ?_
        obtain ⟨P6_17, hz, hf⟩ := mb_bd1_s hf
        refine gc_v (ws' := (wC_One k a0 P0 ++ (wC_Rods k (a0 9) P1 L1 ++ (wC_Folk k (a0 11) P2 ++ (wC_Rods k (a0 20) P3 L3 ++ (wC_Rods k (a0 21) P4_11 L4_12 ++ (wC_Folk k (a0 22) P5 ++ (wC_Folk k (a0 23) P6_17)))))))) (wr := (wC_One k a0 P0 ++ (wC_Rods k (a0 9) P1 L1 ++ (wC_Rods k (a0 20) P3 L3 ++ (wC_Rods k (a0 21) P4_11 L4_12 ++ (wC_Folk k (a0 22) P5)))))) (va_runV (As := [.ref (a0 11 0)]) (rest := []) ⟨hx, hb, hml, hown, hts⟩ (c_Folk_copyFrom l D k H.size (a0 23) (a0 11) P6 P2 P6_17 hz) (cwV 1 hts gX11_keep_X1_copyFrom rfl rfl rfl (by decide +kernel) ⟨Nat.le_of_ble_eq_true rfl, Nat.le_of_ble_eq_true rfl⟩) (gp_V (ci := 1) (q0 := 0) (q := (RX1, TX1, 4)) hP hD hK hN [50, 51, 52, 53, 54, 16, 17, 18, 19, 20] (by decide +kernel) rfl rfl rfl) rfl rfl hl.1 rfl (lv_room (Nat.le_of_ble_eq_true rfl)) dX11_keep_40 ⟨Nat.zero_le _, Nat.zero_le _⟩) hP hD hS hA [50, 51, 52, 53, 54, 16, 17, 18, 19, 20] [0, 1, 2, 3, 4, 5, 6, 7, 8, 9, 10, 11, 12, 13, 14, 15, 21, 22, 23, 24, 25, 26, 27, 28, 29, 30, 31, 32, 33, 34, 35, 36, 37, 38, 39, 40, 41, 42, 43, 44, 45, 46, 47, 48, 49] rfl rfl (by decide +kernel) (by decide +kernel) [0, 1, 2, 3, 4, 5, 6, 7, 8, 9, 10, 11, 12, 13, 14, 15, 50, 51, 52, 53, 54, 16, 17, 18, 19, 20, 21, 22, 23, 24, 25, 26, 27, 28, 29, 30, 31, 32, 33, 34, 35, 36, 37, 38, 39, 40, 41, 42, 43, 44, 45, 46, 47, 48, 49] (by decide +kernel) rfl (fun H locs hP hD hS => ?_)
        clear hz
        refine lv_aload_n hx hb dX11_keep_43 rfl (lv_at hl 0 rfl) ?_
        refine lv_dup hx hb dX11_keep_44 rfl ?_
        refine va_get (D := D) (ci := 11) (v := .int (P0 0 14)) (C := RX11) (T := TX11) (N := 16) hx hb hts iw_One hown hK hP 0 rfl rfl 14 (by decide) fl_98 (fun _ h9 => h9) rfl dX11_keep_45 ?_
        refine lv_iconst (v := 1) hx hb dX11_keep_48 (by decide) ?_
        refine lv_iadd hx hb dX11_keep_49 ?_
        obtain ⟨P0_18, e_, hf⟩ := mb_let_s hf
        refine va_put (D := D) (ci := 11) (v := .int ((P0 0 14) + (1 : Int32))) (ty := .int) (C := RX11) (T := TX11) (N := 16) hx hb hts iw_One tyX11 tyX11_ok nmX11 hown hK hP hD hS 0 rfl rfl 14 (by decide) fl_98 (fun _ h9 => h9) rfl (by decide +kernel) rfl rfl (Nat.le_of_ble_eq_true rfl) dX11_keep_50 (fun H locs hP hD hS => ?_)
        have hP : va_P D vwCl (wC_One k a0 P0_18 ++ (wC_Rods k (a0 9) P1 L1 ++ (wC_Folk k (a0 11) P2 ++ (wC_Rods k (a0 20) P3 L3 ++ (wC_Rods k (a0 21) P4_11 L4_12 ++ (wC_Folk k (a0 22) P5 ++ (wC_Folk k (a0 23) P6_17))))))) H := by rw [e_]; exact hP
        have hD : va_D A (wC_One k a0 P0_18 ++ (wC_Rods k (a0 9) P1 L1 ++ (wC_Folk k (a0 11) P2 ++ (wC_Rods k (a0 20) P3 L3 ++ (wC_Rods k (a0 21) P4_11 L4_12 ++ (wC_Folk k (a0 22) P5 ++ (wC_Folk k (a0 23) P6_17))))))) := by rw [e_]; exact hD
        clear e_
        refine lv_aload_n hx hb dX11_keep_53 rfl (lv_at hl 0 rfl) ?_
        refine va_get (D := D) (ci := 11) (v := .int (P0_18 0 14)) (C := RX11) (T := TX11) (N := 16) hx hb hts iw_One hown hK hP 0 rfl rfl 14 (by decide) fl_98 (fun _ h9 => h9) rfl dX11_keep_54 ?_
        have hz := Option.some.inj hf
        subst hz
        exact hret _ _ _ _ dX11_keep_57 hP hD hS
  · have hf := mb_if_f c_19 hf
    refine lv_bipush (v := (-3)) hx hb dX11_keep_8 (by decide) ?_
    have hz := Option.some.inj hf
    subst hz
    exact hret _ _ _ _ dX11_keep_10 hP hD hS
def f_One_back (P0 : PI) (P1 : PI) (L1 : PL) (P2 : PI) (P3 : PI) (L3 : PL) (P4 : PI) (L4 : PL) (P5 : PI) (P6 : PI) : Option (Int32 × PI × PI × PL × PI) := (if 0 < (P0 0 14) then mb_let (mb_uo P0 14 ((P0 0 14) - (1 : Int32))) (fun (P0_1 : PI) => mb_chk (P0_1 0 14) 2 (if (P0_1 0 14) = 0 then mb_bd2 (f_Rods_copyFrom P1 L1 P3 L3) (fun (P1_4 : PI) (L1_5 : PL) => mb_chk (P0_1 0 14) 2 (if (P0_1 0 14) = 0 then mb_bd1 (f_Folk_copyFrom P2 P5) (fun (P2_8 : PI) => some ((P0_1 0 14), P0_1, P1_4, L1_5, P2_8)) else mb_bd1 (f_Folk_copyFrom P2 P6) (fun (P2_9 : PI) => some ((P0_1 0 14), P0_1, P1_4, L1_5, P2_9)))) else mb_bd2 (f_Rods_copyFrom P1 L1 P4 L4) (fun (P1_10 : PI) (L1_11 : PL) => mb_chk (P0_1 0 14) 2 (if (P0_1 0 14) = 0 then mb_bd1 (f_Folk_copyFrom P2 P5) (fun (P2_14 : PI) => some ((P0_1 0 14), P0_1, P1_10, L1_11, P2_14)) else mb_bd1 (f_Folk_copyFrom P2 P6) (fun (P2_15 : PI) => some ((P0_1 0 14), P0_1, P1_10, L1_11, P2_15)))))) else some ((-2 : Int32), P0, P1, L1, P2))
def rm_One_back : Room := { frames := 2, cells := 0, slots := 0, locals := 81 }
set_option maxHeartbeats 4000000 in
set_option maxRecDepth 100000 in
theorem c_One_back (l : Launch) (D : va_G) (k : Nat → ClassId) (sz : Nat) (a0 : Nat → Nat → Nat) (P0 : PI) (P1 : PI) (L1 : PL) (P2 : PI) (P3 : PI) (L3 : PL) (P4 : PI) (L4 : PL) (P5 : PI) (P6 : PI) (z : Int32 × PI × PI × PL × PI) (hf : f_One_back P0 P1 L1 P2 P3 L3 P4 L4 P5 P6 = some z) : Met l yX11_back wsX11_back rm_One_back (va_Pc [.ref (a0 0 0)] (gw_pre D vwCl (tyL k) (wC_One k a0 P0 ++ (wC_Rods k (a0 9) P1 L1 ++ (wC_Folk k (a0 11) P2 ++ (wC_Rods k (a0 20) P3 L3 ++ (wC_Rods k (a0 21) P4 L4 ++ (wC_Folk k (a0 22) P5 ++ (wC_Folk k (a0 23) P6))))))) sz)) (va_Qi (fun (r : Int32) (_ : Unit) => r = z.1) (gw_b D vwCl (tyL k) (va_A (wC_One k a0 P0 ++ (wC_Rods k (a0 9) P1 L1 ++ (wC_Folk k (a0 11) P2 ++ (wC_Rods k (a0 20) P3 L3 ++ (wC_Rods k (a0 21) P4 L4 ++ (wC_Folk k (a0 22) P5 ++ (wC_Folk k (a0 23) P6))))))) sz) (wC_One k a0 z.2.1 ++ (wC_Rods k (a0 9) z.2.2.1 z.2.2.2.1 ++ (wC_Folk k (a0 11) z.2.2.2.2 ++ (wC_Rods k (a0 20) P3 L3 ++ (wC_Rods k (a0 21) P4 L4 ++ (wC_Folk k (a0 22) P5 ++ (wC_Folk k (a0 23) P6)))))))) (va_A (wC_One k a0 P0 ++ (wC_Rods k (a0 9) P1 L1 ++ (wC_Folk k (a0 11) P2 ++ (wC_Rods k (a0 20) P3 L3 ++ (wC_Rods k (a0 21) P4 L4 ++ (wC_Folk k (a0 22) P5 ++ (wC_Folk k (a0 23) P6))))))) sz)) 0 0 (va_A (wC_One k a0 P0 ++ (wC_Rods k (a0 9) P1 L1 ++ (wC_Folk k (a0 11) P2 ++ (wC_Rods k (a0 20) P3 L3 ++ (wC_Rods k (a0 21) P4 L4 ++ (wC_Folk k (a0 22) P5 ++ (wC_Folk k (a0 23) P6))))))) sz) := by
  refine gm_i (cc := cX11_back) (maxL := 1) (by decide) rfl (Nat.le_of_ble_eq_true rfl) ?_
  intro p e s m args below meth c A Q ls H locs hx hb hml hown hts hK hN hA hP hD hS hl hret
  have hown : s.vm.findClass RX11 = some m.cls := hown
  have hl : lv_has ls 1 [(0, .ref (a0 0 0))] := hl
  have iw_One : ∀ w ∈ u_ws RX11 TX11 16, w ∈ wsX11_back := by decide +kernel
  have fl_68 := hts (.fieldLink RX11 68 "OneMeasure" "rods" "LOneMeasure$Rods;") (by decide +kernel)
  have fl_82 := hts (.fieldLink RX11 82 "OneMeasure" "folk" "LOneMeasure$Folk;") (by decide +kernel)
  have fl_90 := hts (.fieldLink RX11 90 "OneMeasure" "keptRods" "[LOneMeasure$Rods;") (by decide +kernel)
  have fl_94 := hts (.fieldLink RX11 94 "OneMeasure" "keptFolk" "[LOneMeasure$Folk;") (by decide +kernel)
  have fl_98 := hts (.fieldLink RX11 98 "OneMeasure" "kept" "I") (by decide +kernel)
  unfold f_One_back at hf
  refine lv_aload_n hx hb dX11_back_0 rfl (lv_at hl 0 rfl) ?_
  refine va_get (D := D) (ci := 11) (v := .int (P0 0 14)) (C := RX11) (T := TX11) (N := 16) hx hb hts iw_One hown hK hP 0 rfl rfl 14 (by decide) fl_98 (fun _ h9 => h9) rfl dX11_back_1 ?_
  refine lv_if_gt (tgt := 10) hx hb dX11_back_4 (by decide) (fun c_16 => ?_) (fun c_16 => ?_)
  · have hf := mb_if_t c_16 hf
    refine lv_aload_n hx hb dX11_back_10 rfl (lv_at hl 0 rfl) ?_
    refine lv_dup hx hb dX11_back_11 rfl ?_
    refine va_get (D := D) (ci := 11) (v := .int (P0 0 14)) (C := RX11) (T := TX11) (N := 16) hx hb hts iw_One hown hK hP 0 rfl rfl 14 (by decide) fl_98 (fun _ h9 => h9) rfl dX11_back_12 ?_
    refine lv_iconst (v := 1) hx hb dX11_back_15 (by decide) ?_
    refine lv_isub hx hb dX11_back_16 ?_
    obtain ⟨P0_1, e_, hf⟩ := mb_let_s hf
    refine va_put (D := D) (ci := 11) (v := .int ((P0 0 14) - (1 : Int32))) (ty := .int) (C := RX11) (T := TX11) (N := 16) hx hb hts iw_One tyX11 tyX11_ok nmX11 hown hK hP hD hS 0 rfl rfl 14 (by decide) fl_98 (fun _ h9 => h9) rfl (by decide +kernel) rfl rfl (Nat.le_of_ble_eq_true rfl) dX11_back_17 (fun H locs hP hD hS => ?_)
    have hP : va_P D vwCl (wC_One k a0 P0_1 ++ (wC_Rods k (a0 9) P1 L1 ++ (wC_Folk k (a0 11) P2 ++ (wC_Rods k (a0 20) P3 L3 ++ (wC_Rods k (a0 21) P4 L4 ++ (wC_Folk k (a0 22) P5 ++ (wC_Folk k (a0 23) P6))))))) H := by rw [e_]; exact hP
    have hD : va_D A (wC_One k a0 P0_1 ++ (wC_Rods k (a0 9) P1 L1 ++ (wC_Folk k (a0 11) P2 ++ (wC_Rods k (a0 20) P3 L3 ++ (wC_Rods k (a0 21) P4 L4 ++ (wC_Folk k (a0 22) P5 ++ (wC_Folk k (a0 23) P6))))))) := by rw [e_]; exact hD
    clear e_
    refine lv_aload_n hx hb dX11_back_20 rfl (lv_at hl 0 rfl) ?_
    refine va_get (D := D) (ci := 11) (v := .ref (a0 9 0)) (C := RX11) (T := TX11) (N := 16) hx hb hts iw_One hown hK hP 0 rfl rfl 8 (by decide) fl_68 (fun _ h9 => h9) rfl dX11_back_21 ?_
    refine lv_aload_n hx hb dX11_back_24 rfl (lv_at hl 0 rfl) ?_
    refine va_get (D := D) (ci := 11) (v := .ref (a0 0 13)) (C := RX11) (T := TX11) (N := 16) hx hb hts iw_One hown hK hP 0 rfl rfl 12 (by decide) fl_90 (fun _ h9 => h9) rfl dX11_back_25 ?_
    refine lv_aload_n hx hb dX11_back_28 rfl (lv_at hl 0 rfl) ?_
    refine va_get (D := D) (ci := 11) (v := .int (P0_1 0 14)) (C := RX11) (T := TX11) (N := 16) hx hb hts iw_One hown hK hP 0 rfl rfl 14 (by decide) fl_98 (fun _ h9 => h9) rfl dX11_back_29 ?_
    obtain ⟨h_2, hf⟩ := mb_chk_s hf
    refine va_aldq hx hb hK hP 2 2 rfl rfl h_2 dX11_back_32 ?_
    by_cases c_3 : (P0_1 0 14) = 0
    · have hf := mb_if_t c_3 hf
      refine W.eq (g2 := F0 m 33 ls [.ref (a0 20 0), .ref (a0 9 0)]) (by rw [c_3]; rfl) ?_
      obtain ⟨P1_4, L1_5, hz, hf⟩ := mb_bd2_s hf
      refine gc_v (ws' := (wC_One k a0 P0_1 ++ (wC_Rods k (a0 9) P1_4 L1_5 ++ (wC_Folk k (a0 11) P2 ++ (wC_Rods k (a0 20) P3 L3 ++ (wC_Rods k (a0 21) P4 L4 ++ (wC_Folk k (a0 22) P5 ++ (wC_Folk k (a0 23) P6)))))))) (wr := (wC_One k a0 P0_1 ++ (wC_Folk k (a0 11) P2 ++ (wC_Rods k (a0 21) P4 L4 ++ (wC_Folk k (a0 22) P5 ++ (wC_Folk k (a0 23) P6)))))) (va_runV (As := [.ref (a0 20 0)]) (rest := []) ⟨hx, hb, hml, hown, hts⟩ (c_Rods_copyFrom l D k H.size (a0 9) (a0 20) P1 L1 P3 L3 (P1_4, L1_5) hz) (cwV 1 hts gX11_back_X4_copyFrom rfl rfl rfl (by decide +kernel) ⟨Nat.le_of_ble_eq_true rfl, Nat.le_of_ble_eq_true rfl⟩) (gp_V (ci := 4) (q0 := 0) (q := (RX4, TX4, 13)) hP hD hK hN [4, 5, 6, 7, 8, 9, 10, 11, 12, 13, 14, 15, 21, 22, 23, 24, 25, 26, 27, 28, 29, 30, 31, 32] (by decide +kernel) rfl rfl rfl) rfl rfl hl.1 rfl (lv_room (Nat.le_of_ble_eq_true rfl)) dX11_back_33 ⟨Nat.zero_le _, Nat.zero_le _⟩) hP hD hS hA [4, 5, 6, 7, 8, 9, 10, 11, 12, 13, 14, 15, 21, 22, 23, 24, 25, 26, 27, 28, 29, 30, 31, 32] [0, 1, 2, 3, 16, 17, 18, 19, 20, 33, 34, 35, 36, 37, 38, 39, 40, 41, 42, 43, 44, 45, 46, 47, 48, 49, 50, 51, 52, 53, 54] rfl rfl (by decide +kernel) (by decide +kernel) [0, 1, 2, 3, 31, 32, 33, 34, 35, 36, 37, 38, 39, 40, 41, 42, 4, 5, 6, 7, 8, 43, 44, 45, 46, 47, 48, 49, 50, 51, 52, 53, 54, 9, 10, 11, 12, 13, 14, 15, 16, 17, 18, 19, 20, 21, 22, 23, 24, 25, 26, 27, 28, 29, 30] (by decide +kernel) rfl (fun H locs hP hD hS => ?_)
      clear hz
      refine lv_aload_n hx hb dX11_back_36 rfl (lv_at hl 0 rfl) ?_
      refine va_get (D := D) (ci := 11) (v := .ref (a0 11 0)) (C := RX11) (T := TX11) (N := 16) hx hb hts iw_One hown hK hP 0 rfl rfl 10 (by decide) fl_82 (fun _ h9 => h9) rfl dX11_back_37 ?_
      refine lv_aload_n hx hb dX11_back_40 rfl (lv_at hl 0 rfl) ?_
      refine va_get (D := D) (ci := 11) (v := .ref (a0 0 14)) (C := RX11) (T := TX11) (N := 16) hx hb hts iw_One hown hK hP 0 rfl rfl 13 (by decide) fl_94 (fun _ h9 => h9) rfl dX11_back_41 ?_
      refine lv_aload_n hx hb dX11_back_44 rfl (lv_at hl 0 rfl) ?_
      refine va_get (D := D) (ci := 11) (v := .int (P0_1 0 14)) (C := RX11) (T := TX11) (N := 16) hx hb hts iw_One hown hK hP 0 rfl rfl 14 (by decide) fl_98 (fun _ h9 => h9) rfl dX11_back_45 ?_
      obtain ⟨h_6, hf⟩ := mb_chk_s hf
      refine va_aldq hx hb hK hP 3 3 rfl rfl h_6 dX11_back_48 ?_
      by_cases c_7 : (P0_1 0 14) = 0
      · have hf := mb_if_t c_7 hf
        refine W.eq (g2 := F0 m 49 ls [.ref (a0 22 0), .ref (a0 11 0)]) (by rw [c_7]; rfl) ?_
        obtain ⟨P2_8, hz, hf⟩ := mb_bd1_s hf
        refine gc_v (ws' := (wC_One k a0 P0_1 ++ (wC_Rods k (a0 9) P1_4 L1_5 ++ (wC_Folk k (a0 11) P2_8 ++ (wC_Rods k (a0 20) P3 L3 ++ (wC_Rods k (a0 21) P4 L4 ++ (wC_Folk k (a0 22) P5 ++ (wC_Folk k (a0 23) P6)))))))) (wr := (wC_One k a0 P0_1 ++ (wC_Rods k (a0 9) P1_4 L1_5 ++ (wC_Rods k (a0 20) P3 L3 ++ (wC_Rods k (a0 21) P4 L4 ++ (wC_Folk k (a0 23) P6)))))) (va_runV (As := [.ref (a0 22 0)]) (rest := []) ⟨hx, hb, hml, hown, hts⟩ (c_Folk_copyFrom l D k H.size (a0 11) (a0 22) P2 P5 P2_8 hz) (cwV 1 hts gX11_back_X1_copyFrom rfl rfl rfl (by decide +kernel) ⟨Nat.le_of_ble_eq_true rfl, Nat.le_of_ble_eq_true rfl⟩) (gp_V (ci := 1) (q0 := 0) (q := (RX1, TX1, 4)) hP hD hK hN [16, 17, 18, 19, 20, 45, 46, 47, 48, 49] (by decide +kernel) rfl rfl rfl) rfl rfl hl.1 rfl (lv_room (Nat.le_of_ble_eq_true rfl)) dX11_back_49 ⟨Nat.zero_le _, Nat.zero_le _⟩) hP hD hS hA [16, 17, 18, 19, 20, 45, 46, 47, 48, 49] [0, 1, 2, 3, 4, 5, 6, 7, 8, 9, 10, 11, 12, 13, 14, 15, 21, 22, 23, 24, 25, 26, 27, 28, 29, 30, 31, 32, 33, 34, 35, 36, 37, 38, 39, 40, 41, 42, 43, 44, 50, 51, 52, 53, 54] rfl rfl (by decide +kernel) (by decide +kernel) [0, 1, 2, 3, 4, 5, 6, 7, 8, 9, 10, 11, 12, 13, 14, 15, 45, 46, 47, 48, 49, 16, 17, 18, 19, 20, 21, 22, 23, 24, 25, 26, 27, 28, 29, 30, 31, 32, 33, 34, 35, 36, 37, 38, 39, 50, 51, 52, 53, 54, 40, 41, 42, 43, 44] (by decide +kernel) rfl (fun H locs hP hD hS => ?_)
        clear hz
        refine lv_aload_n hx hb dX11_back_52 rfl (lv_at hl 0 rfl) ?_
        refine va_get (D := D) (ci := 11) (v := .int (P0_1 0 14)) (C := RX11) (T := TX11) (N := 16) hx hb hts iw_One hown hK hP 0 rfl rfl 14 (by decide) fl_98 (fun _ h9 => h9) rfl dX11_back_53 ?_
        have hz := Option.some.inj hf
        subst hz
        exact hret _ _ _ _ dX11_back_56 hP hD hS
      · have hf := mb_if_f c_7 hf
        refine W.eq (g2 := F0 m 49 ls [.ref (a0 23 0), .ref (a0 11 0)]) (by rw [mb_two h_6 c_7]; rfl) ?_
        obtain ⟨P2_9, hz, hf⟩ := mb_bd1_s hf
        refine gc_v (ws' := (wC_One k a0 P0_1 ++ (wC_Rods k (a0 9) P1_4 L1_5 ++ (wC_Folk k (a0 11) P2_9 ++ (wC_Rods k (a0 20) P3 L3 ++ (wC_Rods k (a0 21) P4 L4 ++ (wC_Folk k (a0 22) P5 ++ (wC_Folk k (a0 23) P6)))))))) (wr := (wC_One k a0 P0_1 ++ (wC_Rods k (a0 9) P1_4 L1_5 ++ (wC_Rods k (a0 20) P3 L3 ++ (wC_Rods k (a0 21) P4 L4 ++ (wC_Folk k (a0 22) P5)))))) (va_runV (As := [.ref (a0 23 0)]) (rest := []) ⟨hx, hb, hml, hown, hts⟩ (c_Folk_copyFrom l D k H.size (a0 11) (a0 23) P2 P6 P2_9 hz) (cwV 1 hts gX11_back_X1_copyFrom rfl rfl rfl (by decide +kernel) ⟨Nat.le_of_ble_eq_true rfl, Nat.le_of_ble_eq_true rfl⟩) (gp_V (ci := 1) (q0 := 0) (q := (RX1, TX1, 4)) hP hD hK hN [16, 17, 18, 19, 20, 50, 51, 52, 53, 54] (by decide +kernel) rfl rfl rfl) rfl rfl hl.1 rfl (lv_room (Nat.le_of_ble_eq_true rfl)) dX11_back_49 ⟨Nat.zero_le _, Nat.zero_le _⟩) hP hD hS hA [16, 17, 18, 19, 20, 50, 51, 52, 53, 54] [0, 1, 2, 3, 4, 5, 6, 7, 8, 9, 10, 11, 12, 13, 14, 15, 21, 22, 23, 24, 25, 26, 27, 28, 29, 30, 31, 32, 33, 34, 35, 36, 37, 38, 39, 40, 41, 42, 43, 44, 45, 46, 47, 48, 49] rfl rfl (by decide +kernel) (by decide +kernel) [0, 1, 2, 3, 4, 5, 6, 7, 8, 9, 10, 11, 12, 13, 14, 15, 45, 46, 47, 48, 49, 16, 17, 18, 19, 20, 21, 22, 23, 24, 25, 26, 27, 28, 29, 30, 31, 32, 33, 34, 35, 36, 37, 38, 39, 40, 41, 42, 43, 44, 50, 51, 52, 53, 54] (by decide +kernel) rfl (fun H locs hP hD hS => ?_)
        clear hz
        refine lv_aload_n hx hb dX11_back_52 rfl (lv_at hl 0 rfl) ?_
        refine va_get (D := D) (ci := 11) (v := .int (P0_1 0 14)) (C := RX11) (T := TX11) (N := 16) hx hb hts iw_One hown hK hP 0 rfl rfl 14 (by decide) fl_98 (fun _ h9 => h9) rfl dX11_back_53 ?_
        have hz := Option.some.inj hf
        subst hz
        exact hret _ _ _ _ dX11_back_56 hP hD hS
    · have hf := mb_if_f c_3 hf
      refine W.eq (g2 := F0 m 33 ls [.ref (a0 21 0), .ref (a0 9 0)]) (by rw [mb_two h_2 c_3]; rfl) ?_
      obtain ⟨P1_10, L1_11, hz, hf⟩ := mb_bd2_s hf
      refine gc_v (ws' := (wC_One k a0 P0_1 ++ (wC_Rods k (a0 9) P1_10 L1_11 ++ (wC_Folk k (a0 11) P2 ++ (wC_Rods k (a0 20) P3 L3 ++ (wC_Rods k (a0 21) P4 L4 ++ (wC_Folk k (a0 22) P5 ++ (wC_Folk k (a0 23) P6)))))))) (wr := (wC_One k a0 P0_1 ++ (wC_Folk k (a0 11) P2 ++ (wC_Rods k (a0 20) P3 L3 ++ (wC_Folk k (a0 22) P5 ++ (wC_Folk k (a0 23) P6)))))) (va_runV (As := [.ref (a0 21 0)]) (rest := []) ⟨hx, hb, hml, hown, hts⟩ (c_Rods_copyFrom l D k H.size (a0 9) (a0 21) P1 L1 P4 L4 (P1_10, L1_11) hz) (cwV 1 hts gX11_back_X4_copyFrom rfl rfl rfl (by decide +kernel) ⟨Nat.le_of_ble_eq_true rfl, Nat.le_of_ble_eq_true rfl⟩) (gp_V (ci := 4) (q0 := 0) (q := (RX4, TX4, 13)) hP hD hK hN [4, 5, 6, 7, 8, 9, 10, 11, 12, 13, 14, 15, 33, 34, 35, 36, 37, 38, 39, 40, 41, 42, 43, 44] (by decide +kernel) rfl rfl rfl) rfl rfl hl.1 rfl (lv_room (Nat.le_of_ble_eq_true rfl)) dX11_back_33 ⟨Nat.zero_le _, Nat.zero_le _⟩) hP hD hS hA [4, 5, 6, 7, 8, 9, 10, 11, 12, 13, 14, 15, 33, 34, 35, 36, 37, 38, 39, 40, 41, 42, 43, 44] [0, 1, 2, 3, 16, 17, 18, 19, 20, 21, 22, 23, 24, 25, 26, 27, 28, 29, 30, 31, 32, 45, 46, 47, 48, 49, 50, 51, 52, 53, 54] rfl rfl (by decide +kernel) (by decide +kernel) [0, 1, 2, 3, 31, 32, 33, 34, 35, 36, 37, 38, 39, 40, 41, 42, 4, 5, 6, 7, 8, 9, 10, 11, 12, 13, 14, 15, 16, 17, 18, 19, 20, 43, 44, 45, 46, 47, 48, 49, 50, 51, 52, 53, 54, 21, 22, 23, 24, 25, 26, 27, 28, 29, 30] (by decide +kernel) rfl (fun H locs hP hD hS => ?_)
      clear hz
      refine lv_aload_n hx hb dX11_back_36 rfl (lv_at hl 0 rfl) ?_
      refine va_get (D := D) (ci := 11) (v := .ref (a0 11 0)) (C := RX11) (T := TX11) (N := 16) hx hb hts iw_One hown hK hP 0 rfl rfl 10 (by decide) fl_82 (fun _ h9 => h9) rfl dX11_back_37 ?_
      refine lv_aload_n hx hb dX11_back_40 rfl (lv_at hl 0 rfl) ?_
      refine va_get (D := D) (ci := 11) (v := .ref (a0 0 14)) (C := RX11) (T := TX11) (N := 16) hx hb hts iw_One hown hK hP 0 rfl rfl 13 (by decide) fl_94 (fun _ h9 => h9) rfl dX11_back_41 ?_
      refine lv_aload_n hx hb dX11_back_44 rfl (lv_at hl 0 rfl) ?_
      refine va_get (D := D) (ci := 11) (v := .int (P0_1 0 14)) (C := RX11) (T := TX11) (N := 16) hx hb hts iw_One hown hK hP 0 rfl rfl 14 (by decide) fl_98 (fun _ h9 => h9) rfl dX11_back_45 ?_
      obtain ⟨h_12, hf⟩ := mb_chk_s hf
      refine va_aldq hx hb hK hP 3 3 rfl rfl h_12 dX11_back_48 ?_
      by_cases c_13 : (P0_1 0 14) = 0
      · have hf := mb_if_t c_13 hf
        refine W.eq (g2 := F0 m 49 ls [.ref (a0 22 0), .ref (a0 11 0)]) (by rw [c_13]; rfl) ?_
        obtain ⟨P2_14, hz, hf⟩ := mb_bd1_s hf
        refine gc_v (ws' := (wC_One k a0 P0_1 ++ (wC_Rods k (a0 9) P1_10 L1_11 ++ (wC_Folk k (a0 11) P2_14 ++ (wC_Rods k (a0 20) P3 L3 ++ (wC_Rods k (a0 21) P4 L4 ++ (wC_Folk k (a0 22) P5 ++ (wC_Folk k (a0 23) P6)))))))) (wr := (wC_One k a0 P0_1 ++ (wC_Rods k (a0 9) P1_10 L1_11 ++ (wC_Rods k (a0 20) P3 L3 ++ (wC_Rods k (a0 21) P4 L4 ++ (wC_Folk k (a0 23) P6)))))) (va_runV (As := [.ref (a0 22 0)]) (rest := []) ⟨hx, hb, hml, hown, hts⟩ (c_Folk_copyFrom l D k H.size (a0 11) (a0 22) P2 P5 P2_14 hz) (cwV 1 hts gX11_back_X1_copyFrom rfl rfl rfl (by decide +kernel) ⟨Nat.le_of_ble_eq_true rfl, Nat.le_of_ble_eq_true rfl⟩) (gp_V (ci := 1) (q0 := 0) (q := (RX1, TX1, 4)) hP hD hK hN [16, 17, 18, 19, 20, 45, 46, 47, 48, 49] (by decide +kernel) rfl rfl rfl) rfl rfl hl.1 rfl (lv_room (Nat.le_of_ble_eq_true rfl)) dX11_back_49 ⟨Nat.zero_le _, Nat.zero_le _⟩) hP hD hS hA [16, 17, 18, 19, 20, 45, 46, 47, 48, 49] [0, 1, 2, 3, 4, 5, 6, 7, 8, 9, 10, 11, 12, 13, 14, 15, 21, 22, 23, 24, 25, 26, 27, 28, 29, 30, 31, 32, 33, 34, 35, 36, 37, 38, 39, 40, 41, 42, 43, 44, 50, 51, 52, 53, 54] rfl rfl (by decide +kernel) (by decide +kernel) [0, 1, 2, 3, 4, 5, 6, 7, 8, 9, 10, 11, 12, 13, 14, 15, 45, 46, 47, 48, 49, 16, 17, 18, 19, 20, 21, 22, 23, 24, 25, 26, 27, 28, 29, 30, 31, 32, 33, 34, 35, 36, 37, 38, 39, 50, 51, 52, 53, 54, 40, 41, 42, 43, 44] (by decide +kernel) rfl (fun H locs hP hD hS => ?_)
        clear hz
        refine lv_aload_n hx hb dX11_back_52 rfl (lv_at hl 0 rfl) ?_
        refine va_get (D := D) (ci := 11) (v := .int (P0_1 0 14)) (C := RX11) (T := TX11) (N := 16) hx hb hts iw_One hown hK hP 0 rfl rfl 14 (by decide) fl_98 (fun _ h9 => h9) rfl dX11_back_53 ?_
        have hz := Option.some.inj hf
        subst hz
        exact hret _ _ _ _ dX11_back_56 hP hD hS
      · have hf := mb_if_f c_13 hf
        refine W.eq (g2 := F0 m 49 ls [.ref (a0 23 0), .ref (a0 11 0)]) (by rw [mb_two h_12 c_13]; rfl) ?_
        obtain ⟨P2_15, hz, hf⟩ := mb_bd1_s hf
        refine gc_v (ws' := (wC_One k a0 P0_1 ++ (wC_Rods k (a0 9) P1_10 L1_11 ++ (wC_Folk k (a0 11) P2_15 ++ (wC_Rods k (a0 20) P3 L3 ++ (wC_Rods k (a0 21) P4 L4 ++ (wC_Folk k (a0 22) P5 ++ (wC_Folk k (a0 23) P6)))))))) (wr := (wC_One k a0 P0_1 ++ (wC_Rods k (a0 9) P1_10 L1_11 ++ (wC_Rods k (a0 20) P3 L3 ++ (wC_Rods k (a0 21) P4 L4 ++ (wC_Folk k (a0 22) P5)))))) (va_runV (As := [.ref (a0 23 0)]) (rest := []) ⟨hx, hb, hml, hown, hts⟩ (c_Folk_copyFrom l D k H.size (a0 11) (a0 23) P2 P6 P2_15 hz) (cwV 1 hts gX11_back_X1_copyFrom rfl rfl rfl (by decide +kernel) ⟨Nat.le_of_ble_eq_true rfl, Nat.le_of_ble_eq_true rfl⟩) (gp_V (ci := 1) (q0 := 0) (q := (RX1, TX1, 4)) hP hD hK hN [16, 17, 18, 19, 20, 50, 51, 52, 53, 54] (by decide +kernel) rfl rfl rfl) rfl rfl hl.1 rfl (lv_room (Nat.le_of_ble_eq_true rfl)) dX11_back_49 ⟨Nat.zero_le _, Nat.zero_le _⟩) hP hD hS hA [16, 17, 18, 19, 20, 50, 51, 52, 53, 54] [0, 1, 2, 3, 4, 5, 6, 7, 8, 9, 10, 11, 12, 13, 14, 15, 21, 22, 23, 24, 25, 26, 27, 28, 29, 30, 31, 32, 33, 34, 35, 36, 37, 38, 39, 40, 41, 42, 43, 44, 45, 46, 47, 48, 49] rfl rfl (by decide +kernel) (by decide +kernel) [0, 1, 2, 3, 4, 5, 6, 7, 8, 9, 10, 11, 12, 13, 14, 15, 45, 46, 47, 48, 49, 16, 17, 18, 19, 20, 21, 22, 23, 24, 25, 26, 27, 28, 29, 30, 31, 32, 33, 34, 35, 36, 37, 38, 39, 40, 41, 42, 43, 44, 50, 51, 52, 53, 54] (by decide +kernel) rfl (fun H locs hP hD hS => ?_)
        clear hz
        refine lv_aload_n hx hb dX11_back_52 rfl (lv_at hl 0 rfl) ?_
        refine va_get (D := D) (ci := 11) (v := .int (P0_1 0 14)) (C := RX11) (T := TX11) (N := 16) hx hb hts iw_One hown hK hP 0 rfl rfl 14 (by decide) fl_98 (fun _ h9 => h9) rfl dX11_back_53 ?_
        have hz := Option.some.inj hf
        subst hz
        exact hret _ _ _ _ dX11_back_56 hP hD hS
  · have hf := mb_if_f c_16 hf
    refine lv_bipush (v := (-2)) hx hb dX11_back_7 (by decide) ?_
    have hz := Option.some.inj hf
    subst hz
    exact hret _ _ _ _ dX11_back_9 hP hD hS
def f_Rods_howManySeized_4_b (P0 : PI) (self_7 : Int32 → Int32 → Option (Int32)) (x1_5 : Int32) (x2_6 : Int32) : Option (Int32) := (if (P0 0 0) ≤ x2_6 then some x1_5 else mb_chk x2_6 12 (mb_let (x1_5 + (P0 11 x2_6.toNatClampNeg)) (fun (x1_9 : Int32) => mb_let (x2_6 + (1 : Int32)) (fun (x2_10 : Int32) => self_7 x1_9 x2_10))))
def f_Rods_howManySeized_4 (P0 : PI) : Nat → Int32 → Int32 → Option (Int32)
  | 0, _, _ => none
  | n + 1, x1_5, x2_6 => f_Rods_howManySeized_4_b P0 (f_Rods_howManySeized_4 P0 n) x1_5 x2_6
def f_Rods_howManySeized (P0 : PI) : Option (Int32) := mb_let (0 : Int32) (fun (x1_1 : Int32) => mb_let (0 : Int32) (fun (x2_2 : Int32) => f_Rods_howManySeized_4 P0 mb_fu x1_1 x2_2))
def rm_Rods_howManySeized : Room := { frames := 0, cells := 0, slots := 0, locals := 0 }
set_option maxHeartbeats 4000000 in
set_option maxRecDepth 100000 in
theorem c_Rods_howManySeized (l : Launch) (D : va_G) (k : Nat → ClassId) (sz : Nat) (b0 : Nat → Nat) (P0 : PI) (L0 : PL) (z : Int32) (hf : f_Rods_howManySeized P0 = some z) : Met l yX4_howManySeized wsX4_howManySeized rm_Rods_howManySeized (va_Pc [.ref (b0 0)] (gw_pre D vwCl (tyL k) (wC_Rods k b0 P0 L0) sz)) (va_Qi (fun (r : Int32) (_ : Unit) => r = z) (gw_b D vwCl (tyL k) (va_A (wC_Rods k b0 P0 L0) sz) (wC_Rods k b0 P0 L0)) (va_A (wC_Rods k b0 P0 L0) sz)) 0 0 (va_A (wC_Rods k b0 P0 L0) sz) := by
  refine gm_i (cc := cX4_howManySeized) (maxL := 3) (by decide) rfl (Nat.le_of_ble_eq_true rfl) ?_
  intro p e s m args below meth c A Q ls H locs hx hb hml hown hts hK hN hA hP hD hS hl hret
  have hown : s.vm.findClass RX4 = some m.cls := hown
  have hl : lv_has ls 3 [(0, .ref (b0 0))] := hl
  have iw_Rods : ∀ w ∈ u_ws RX4 TX4 13, w ∈ wsX4_howManySeized := by decide +kernel
  have fl_9 := hts (.fieldLink RX4 9 "OneMeasure$Rods" "count" "I") (by decide +kernel)
  have fl_43 := hts (.fieldLink RX4 43 "OneMeasure$Rods" "seized" "[I") (by decide +kernel)
  unfold f_Rods_howManySeized at hf
  refine lv_iconst (v := 0) hx hb dX4_howManySeized_0 (by decide) ?_
  obtain ⟨x1_1, e_, hf⟩ := mb_let_s hf
  refine mb_topi e_ ?_
  clear e_
  refine lv_istore_n (lv' := [(1, .int x1_1), (0, .ref (b0 0))]) hx hb dX4_howManySeized_1 rfl hl (by decide) rfl (fun ls hl => ?_)
  refine lv_iconst (v := 0) hx hb dX4_howManySeized_2 (by decide) ?_
  obtain ⟨x2_2, e_, hf⟩ := mb_let_s hf
  refine mb_topi e_ ?_
  clear e_
  refine lv_istore_n (lv' := [(2, .int x2_2), (1, .int x1_1), (0, .ref (b0 0))]) hx hb dX4_howManySeized_3 rfl hl (by decide) rfl (fun ls hl => ?_)
  have lp4_3 : ∀ (n : Nat) (x1_5 : Int32) (x2_6 : Int32) (H : Heap) (locs : List Loc) (ls : Array Slot), f_Rods_howManySeized_4 P0 n x1_5 x2_6 = some z → va_P D vwCl (wC_Rods k b0 P0 L0) H → va_D A (wC_Rods k b0 P0 L0) → va_S A s.heap H locs → lv_has ls 3 [(0, .ref (b0 0)), (1, .int x1_5), (2, .int x2_6)] → W p l e rm_Rods_howManySeized s m args below meth c H locs 0 0 Q (F0 m 4 ls []) := by
    intro n
    induction n with
    | zero =>
      intro x1_5 x2_6 H locs ls hf
      exact nomatch (show (none : Option (Int32)) = some z from hf)
    | succ n ih_4 =>
      intro x1_5 x2_6 H locs ls hf hP hD hS hl
      have hf : f_Rods_howManySeized_4_b P0 (f_Rods_howManySeized_4 P0 n) x1_5 x2_6 = some z := hf
      unfold f_Rods_howManySeized_4_b at hf
      refine lv_iload_n hx hb dX4_howManySeized_4 rfl (lv_at hl 2 rfl) ?_
      refine lv_aload_n hx hb dX4_howManySeized_5 rfl (lv_at hl 0 rfl) ?_
      refine va_get (D := D) (ci := 4) (v := .int (P0 0 0)) (C := RX4) (T := TX4) (N := 13) hx hb hts iw_Rods hown hK hP 0 rfl rfl 0 (by decide) fl_9 (fun _ h9 => h9) rfl dX4_howManySeized_6 ?_
      refine lv_icmp_ge (tgt := 27) hx hb dX4_howManySeized_9 (by decide) (fun c_11 => ?_) (fun c_11 => ?_)
      · have hf := mb_if_t c_11 hf
        refine lv_iload_n hx hb dX4_howManySeized_27 rfl (lv_at hl 1 rfl) ?_
        have hz := Option.some.inj hf
        subst hz
        exact hret _ _ _ _ dX4_howManySeized_28 hP hD hS
      · have hf := mb_if_f c_11 hf
        refine lv_iload_n hx hb dX4_howManySeized_12 rfl (lv_at hl 1 rfl) ?_
        refine lv_aload_n hx hb dX4_howManySeized_13 rfl (lv_at hl 0 rfl) ?_
        refine va_get (D := D) (ci := 4) (v := .ref (b0 11)) (C := RX4) (T := TX4) (N := 13) hx hb hts iw_Rods hown hK hP 0 rfl rfl 10 (by decide) fl_43 (fun _ h9 => h9) rfl dX4_howManySeized_14 ?_
        refine lv_iload_n hx hb dX4_howManySeized_17 rfl (lv_at hl 2 rfl) ?_
        obtain ⟨h_8, hf⟩ := mb_chk_s hf
        refine va_iald hx hb hK hP 9 0 rfl rfl h_8 dX4_howManySeized_18 ?_
        refine lv_iadd hx hb dX4_howManySeized_19 ?_
        obtain ⟨x1_9, e_, hf⟩ := mb_let_s hf
        refine mb_topi e_ ?_
        clear e_
        refine lv_istore_n (lv' := [(1, .int x1_9), (0, .ref (b0 0)), (2, .int x2_6)]) hx hb dX4_howManySeized_20 rfl hl (by decide) rfl (fun ls hl => ?_)
        obtain ⟨x2_10, e_, hf⟩ := mb_let_s hf
        refine lv_iinc (v := x2_10) (lv' := [(2, .int x2_10), (1, .int x1_9), (0, .ref (b0 0))]) hx hb dX4_howManySeized_21 hl (k := 2) rfl (by rw [e_]; rfl) (by decide) rfl (fun ls hl => ?_)
        clear e_
        refine lv_goto (tgt := 4) hx hb dX4_howManySeized_24 (by decide) ?_
        exact ih_4 x1_9 x2_10 _ _ _ hf hP hD hS (lv_sub hl [2, 1, 0] rfl)
  exact lp4_3 mb_fu x1_1 x2_2 _ _ _ hf hP hD hS (lv_sub hl [2, 1, 0] rfl)
def f_One_count (P0 : PI) (P1 : PI) (P2 : PI) (P3 : PI) (P4 : PI) (P5 : PI) (P6 : PI) (P7 : PI) (P8 : PI) (x1 : Int32) : Option (Int32) := (if x1 = (0 : Int32) then some (P1 0 3) else (if x1 = (1 : Int32) then some (P2 0 3) else (if x1 = (2 : Int32) then some (P3 0 3) else (if x1 = (3 : Int32) then some (P4 0 5) else (if x1 = (4 : Int32) then some (P5 0 3) else (if x1 = (5 : Int32) then some (P6 0 5) else (if x1 = (6 : Int32) then some (P7 0 5) else (if x1 = (7 : Int32) then some (P8 0 0) else (if x1 = (8 : Int32) then some (P8 0 1) else (if x1 = (9 : Int32) then mb_bd1 (f_Rods_howManySeized P8) (fun (r_1 : Int32) => some r_1) else (if x1 = (10 : Int32) then some (P0 0 14) else some (-1 : Int32))))))))))))
def rm_One_count : Room := { frames := 1, cells := 0, slots := 0, locals := 22 }
set_option maxHeartbeats 4000000 in
set_option maxRecDepth 100000 in
theorem c_One_count (l : Launch) (D : va_G) (k : Nat → ClassId) (sz : Nat) (a0 : Nat → Nat → Nat) (P0 : PI) (P1 : PI) (P2 : PI) (P3 : PI) (L3 : PL) (P4 : PI) (L4 : PL) (P5 : PI) (P6 : PI) (P7 : PI) (L7 : PL) (P8 : PI) (L8 : PL) (x1 : Int32) (z : Int32) (hf : f_One_count P0 P1 P2 P3 P4 P5 P6 P7 P8 x1 = some z) : Met l yX11_count wsX11_count rm_One_count (va_Pc [.ref (a0 0 0), .int x1] (gw_pre D vwCl (tyL k) (wC_One k a0 P0 ++ (wC_Units k (a0 1) P1 ++ (wC_Tables k (a0 2) P2 ++ (wC_Ground k (a0 4) P3 L3 ++ (wC_Trials k (a0 5) P4 L4 ++ (wC_Script k (a0 6) P5 ++ (wC_Decrees k (a0 7) P6 ++ (wC_Papers k (a0 8) P7 L7 ++ (wC_Rods k (a0 9) P8 L8))))))))) sz)) (va_Qi (fun (r : Int32) (_ : Unit) => r = z) (gw_b D vwCl (tyL k) (va_A (wC_One k a0 P0 ++ (wC_Units k (a0 1) P1 ++ (wC_Tables k (a0 2) P2 ++ (wC_Ground k (a0 4) P3 L3 ++ (wC_Trials k (a0 5) P4 L4 ++ (wC_Script k (a0 6) P5 ++ (wC_Decrees k (a0 7) P6 ++ (wC_Papers k (a0 8) P7 L7 ++ (wC_Rods k (a0 9) P8 L8))))))))) sz) (wC_One k a0 P0 ++ (wC_Units k (a0 1) P1 ++ (wC_Tables k (a0 2) P2 ++ (wC_Ground k (a0 4) P3 L3 ++ (wC_Trials k (a0 5) P4 L4 ++ (wC_Script k (a0 6) P5 ++ (wC_Decrees k (a0 7) P6 ++ (wC_Papers k (a0 8) P7 L7 ++ (wC_Rods k (a0 9) P8 L8)))))))))) (va_A (wC_One k a0 P0 ++ (wC_Units k (a0 1) P1 ++ (wC_Tables k (a0 2) P2 ++ (wC_Ground k (a0 4) P3 L3 ++ (wC_Trials k (a0 5) P4 L4 ++ (wC_Script k (a0 6) P5 ++ (wC_Decrees k (a0 7) P6 ++ (wC_Papers k (a0 8) P7 L7 ++ (wC_Rods k (a0 9) P8 L8))))))))) sz)) 0 0 (va_A (wC_One k a0 P0 ++ (wC_Units k (a0 1) P1 ++ (wC_Tables k (a0 2) P2 ++ (wC_Ground k (a0 4) P3 L3 ++ (wC_Trials k (a0 5) P4 L4 ++ (wC_Script k (a0 6) P5 ++ (wC_Decrees k (a0 7) P6 ++ (wC_Papers k (a0 8) P7 L7 ++ (wC_Rods k (a0 9) P8 L8))))))))) sz) := by
  refine gm_i (cc := cX11_count) (maxL := 2) (by decide) rfl (Nat.le_of_ble_eq_true rfl) ?_
  intro p e s m args below meth c A Q ls H locs hx hb hml hown hts hK hN hA hP hD hS hl hret
  have hown : s.vm.findClass RX11 = some m.cls := hown
  have hl : lv_has ls 2 [(0, .ref (a0 0 0)), (1, .int x1)] := hl
  have iw_One : ∀ w ∈ u_ws RX11 TX11 16, w ∈ wsX11_count := by decide +kernel
  have iw_Decrees : ∀ w ∈ u_ws RX0 TX0 8, w ∈ wsX11_count := by decide +kernel
  have iw_Ground : ∀ w ∈ u_ws RX2 TX2 6, w ∈ wsX11_count := by decide +kernel
  have iw_Papers : ∀ w ∈ u_ws RX3 TX3 9, w ∈ wsX11_count := by decide +kernel
  have iw_Rods : ∀ w ∈ u_ws RX4 TX4 13, w ∈ wsX11_count := by decide +kernel
  have iw_Script : ∀ w ∈ u_ws RX5 TX5 4, w ∈ wsX11_count := by decide +kernel
  have iw_Tables : ∀ w ∈ u_ws RX6 TX6 4, w ∈ wsX11_count := by decide +kernel
  have iw_Trials : ∀ w ∈ u_ws RX8 TX8 10, w ∈ wsX11_count := by decide +kernel
  have iw_Units : ∀ w ∈ u_ws RX9 TX9 4, w ∈ wsX11_count := by decide +kernel
  have fl_10 := hts (.fieldLink RX11 10 "OneMeasure" "units" "LOneMeasure$Units;") (by decide +kernel)
  have fl_19 := hts (.fieldLink RX11 19 "OneMeasure" "tables" "LOneMeasure$Tables;") (by decide +kernel)
  have fl_33 := hts (.fieldLink RX11 33 "OneMeasure" "ground" "LOneMeasure$Ground;") (by decide +kernel)
  have fl_40 := hts (.fieldLink RX11 40 "OneMeasure" "trials" "LOneMeasure$Trials;") (by decide +kernel)
  have fl_47 := hts (.fieldLink RX11 47 "OneMeasure" "script" "LOneMeasure$Script;") (by decide +kernel)
  have fl_54 := hts (.fieldLink RX11 54 "OneMeasure" "decrees" "LOneMeasure$Decrees;") (by decide +kernel)
  have fl_61 := hts (.fieldLink RX11 61 "OneMeasure" "papers" "LOneMeasure$Papers;") (by decide +kernel)
  have fl_68 := hts (.fieldLink RX11 68 "OneMeasure" "rods" "LOneMeasure$Rods;") (by decide +kernel)
  have fl_98 := hts (.fieldLink RX11 98 "OneMeasure" "kept" "I") (by decide +kernel)
  have fl_110 := hts (.fieldLink RX11 110 "OneMeasure$Units" "count" "I") (by decide +kernel)
  have fl_164 := hts (.fieldLink RX11 164 "OneMeasure$Ground" "count" "I") (by decide +kernel)
  have fl_175 := hts (.fieldLink RX11 175 "OneMeasure$Trials" "count" "I") (by decide +kernel)
  have fl_199 := hts (.fieldLink RX11 199 "OneMeasure$Script" "length" "I") (by decide +kernel)
  have fl_242 := hts (.fieldLink RX11 242 "OneMeasure$Papers" "count" "I") (by decide +kernel)
  have fl_259 := hts (.fieldLink RX11 259 "OneMeasure$Rods" "count" "I") (by decide +kernel)
  have fl_261 := hts (.fieldLink RX11 261 "OneMeasure$Rods" "week" "I") (by decide +kernel)
  have fl_331 := hts (.fieldLink RX11 331 "OneMeasure$Tables" "count" "I") (by decide +kernel)
  have fl_332 := hts (.fieldLink RX11 332 "OneMeasure$Decrees" "count" "I") (by decide +kernel)
  unfold f_One_count at hf
  refine lv_iload_n hx hb dX11_count_0 rfl (lv_at hl 1 rfl) ?_
  by_cases c_2 : x1 = (0 : Int32)
  · have hf := mb_if_t c_2 hf
    refine lv_tableIn (tgt := 60) hx hb dX11_count_1 (by rw [c_2]; decide) (by rw [c_2]; decide) (by rw [c_2]; rfl) (by decide) ?_
    refine lv_aload_n hx hb dX11_count_60 rfl (lv_at hl 0 rfl) ?_
    refine va_get (D := D) (ci := 11) (v := .ref (a0 1 0)) (C := RX11) (T := TX11) (N := 16) hx hb hts iw_One hown hK hP 0 rfl rfl 0 (by decide) fl_10 (fun _ h9 => h9) rfl dX11_count_61 ?_
    refine va_get (D := D) (ci := 9) (v := .int (P1 0 3)) (C := RX9) (T := TX9) (N := 4) hx hb hts iw_Units hown hK hP 4 rfl rfl 3 (by decide) fl_110 (fun _ h9 => h9) rfl dX11_count_64 ?_
    have hz := Option.some.inj hf
    subst hz
    exact hret _ _ _ _ dX11_count_67 hP hD hS
  · have hf := mb_if_f c_2 hf
    by_cases c_3 : x1 = (1 : Int32)
    · have hf := mb_if_t c_3 hf
      refine lv_tableIn (tgt := 68) hx hb dX11_count_1 (by rw [c_3]; decide) (by rw [c_3]; decide) (by rw [c_3]; rfl) (by decide) ?_
      refine lv_aload_n hx hb dX11_count_68 rfl (lv_at hl 0 rfl) ?_
      refine va_get (D := D) (ci := 11) (v := .ref (a0 2 0)) (C := RX11) (T := TX11) (N := 16) hx hb hts iw_One hown hK hP 0 rfl rfl 1 (by decide) fl_19 (fun _ h9 => h9) rfl dX11_count_69 ?_
      refine va_get (D := D) (ci := 6) (v := .int (P2 0 3)) (C := RX6) (T := TX6) (N := 4) hx hb hts iw_Tables hown hK hP 8 rfl rfl 3 (by decide) fl_331 (fun _ h9 => h9) rfl dX11_count_72 ?_
      have hz := Option.some.inj hf
      subst hz
      exact hret _ _ _ _ dX11_count_75 hP hD hS
    · have hf := mb_if_f c_3 hf
      by_cases c_4 : x1 = (2 : Int32)
      · have hf := mb_if_t c_4 hf
        refine lv_tableIn (tgt := 76) hx hb dX11_count_1 (by rw [c_4]; decide) (by rw [c_4]; decide) (by rw [c_4]; rfl) (by decide) ?_
        refine lv_aload_n hx hb dX11_count_76 rfl (lv_at hl 0 rfl) ?_
        refine va_get (D := D) (ci := 11) (v := .ref (a0 4 0)) (C := RX11) (T := TX11) (N := 16) hx hb hts iw_One hown hK hP 0 rfl rfl 3 (by decide) fl_33 (fun _ h9 => h9) rfl dX11_count_77 ?_
        refine va_get (D := D) (ci := 2) (v := .int (P3 0 3)) (C := RX2) (T := TX2) (N := 6) hx hb hts iw_Ground hown hK hP 12 rfl rfl 3 (by decide) fl_164 (fun _ h9 => h9) rfl dX11_count_80 ?_
        have hz := Option.some.inj hf
        subst hz
        exact hret _ _ _ _ dX11_count_83 hP hD hS
      · have hf := mb_if_f c_4 hf
        by_cases c_5 : x1 = (3 : Int32)
        · have hf := mb_if_t c_5 hf
          refine lv_tableIn (tgt := 84) hx hb dX11_count_1 (by rw [c_5]; decide) (by rw [c_5]; decide) (by rw [c_5]; rfl) (by decide) ?_
          refine lv_aload_n hx hb dX11_count_84 rfl (lv_at hl 0 rfl) ?_
          refine va_get (D := D) (ci := 11) (v := .ref (a0 5 0)) (C := RX11) (T := TX11) (N := 16) hx hb hts iw_One hown hK hP 0 rfl rfl 4 (by decide) fl_40 (fun _ h9 => h9) rfl dX11_count_85 ?_
          refine va_get (D := D) (ci := 8) (v := .int (P4 0 5)) (C := RX8) (T := TX8) (N := 10) hx hb hts iw_Trials hown hK hP 16 rfl rfl 5 (by decide) fl_175 (fun _ h9 => h9) rfl dX11_count_88 ?_
          have hz := Option.some.inj hf
          subst hz
          exact hret _ _ _ _ dX11_count_91 hP hD hS
        · have hf := mb_if_f c_5 hf
          by_cases c_6 : x1 = (4 : Int32)
          · have hf := mb_if_t c_6 hf
            refine lv_tableIn (tgt := 92) hx hb dX11_count_1 (by rw [c_6]; decide) (by rw [c_6]; decide) (by rw [c_6]; rfl) (by decide) ?_
            refine lv_aload_n hx hb dX11_count_92 rfl (lv_at hl 0 rfl) ?_
            refine va_get (D := D) (ci := 11) (v := .ref (a0 6 0)) (C := RX11) (T := TX11) (N := 16) hx hb hts iw_One hown hK hP 0 rfl rfl 5 (by decide) fl_47 (fun _ h9 => h9) rfl dX11_count_93 ?_
            refine va_get (D := D) (ci := 5) (v := .int (P5 0 3)) (C := RX5) (T := TX5) (N := 4) hx hb hts iw_Script hown hK hP 22 rfl rfl 3 (by decide) fl_199 (fun _ h9 => h9) rfl dX11_count_96 ?_
            have hz := Option.some.inj hf
            subst hz
            exact hret _ _ _ _ dX11_count_99 hP hD hS
          · have hf := mb_if_f c_6 hf
            by_cases c_7 : x1 = (5 : Int32)
            · have hf := mb_if_t c_7 hf
              refine lv_tableIn (tgt := 100) hx hb dX11_count_1 (by rw [c_7]; decide) (by rw [c_7]; decide) (by rw [c_7]; rfl) (by decide) ?_
              refine lv_aload_n hx hb dX11_count_100 rfl (lv_at hl 0 rfl) ?_
              refine va_get (D := D) (ci := 11) (v := .ref (a0 7 0)) (C := RX11) (T := TX11) (N := 16) hx hb hts iw_One hown hK hP 0 rfl rfl 6 (by decide) fl_54 (fun _ h9 => h9) rfl dX11_count_101 ?_
              refine va_get (D := D) (ci := 0) (v := .int (P6 0 5)) (C := RX0) (T := TX0) (N := 8) hx hb hts iw_Decrees hown hK hP 25 rfl rfl 5 (by decide) fl_332 (fun _ h9 => h9) rfl dX11_count_104 ?_
              have hz := Option.some.inj hf
              subst hz
              exact hret _ _ _ _ dX11_count_107 hP hD hS
            · have hf := mb_if_f c_7 hf
              by_cases c_8 : x1 = (6 : Int32)
              · have hf := mb_if_t c_8 hf
                refine lv_tableIn (tgt := 108) hx hb dX11_count_1 (by rw [c_8]; decide) (by rw [c_8]; decide) (by rw [c_8]; rfl) (by decide) ?_
                refine lv_aload_n hx hb dX11_count_108 rfl (lv_at hl 0 rfl) ?_
                refine va_get (D := D) (ci := 11) (v := .ref (a0 8 0)) (C := RX11) (T := TX11) (N := 16) hx hb hts iw_One hown hK hP 0 rfl rfl 7 (by decide) fl_61 (fun _ h9 => h9) rfl dX11_count_109 ?_
                refine va_get (D := D) (ci := 3) (v := .int (P7 0 5)) (C := RX3) (T := TX3) (N := 9) hx hb hts iw_Papers hown hK hP 31 rfl rfl 5 (by decide) fl_242 (fun _ h9 => h9) rfl dX11_count_112 ?_
                have hz := Option.some.inj hf
                subst hz
                exact hret _ _ _ _ dX11_count_115 hP hD hS
              · have hf := mb_if_f c_8 hf
                by_cases c_9 : x1 = (7 : Int32)
                · have hf := mb_if_t c_9 hf
                  refine lv_tableIn (tgt := 116) hx hb dX11_count_1 (by rw [c_9]; decide) (by rw [c_9]; decide) (by rw [c_9]; rfl) (by decide) ?_
                  refine lv_aload_n hx hb dX11_count_116 rfl (lv_at hl 0 rfl) ?_
                  refine va_get (D := D) (ci := 11) (v := .ref (a0 9 0)) (C := RX11) (T := TX11) (N := 16) hx hb hts iw_One hown hK hP 0 rfl rfl 8 (by decide) fl_68 (fun _ h9 => h9) rfl dX11_count_117 ?_
                  refine va_get (D := D) (ci := 4) (v := .int (P8 0 0)) (C := RX4) (T := TX4) (N := 13) hx hb hts iw_Rods hown hK hP 37 rfl rfl 0 (by decide) fl_259 (fun _ h9 => h9) rfl dX11_count_120 ?_
                  have hz := Option.some.inj hf
                  subst hz
                  exact hret _ _ _ _ dX11_count_123 hP hD hS
                · have hf := mb_if_f c_9 hf
                  by_cases c_10 : x1 = (8 : Int32)
                  · have hf := mb_if_t c_10 hf
                    refine lv_tableIn (tgt := 124) hx hb dX11_count_1 (by rw [c_10]; decide) (by rw [c_10]; decide) (by rw [c_10]; rfl) (by decide) ?_
                    refine lv_aload_n hx hb dX11_count_124 rfl (lv_at hl 0 rfl) ?_
                    refine va_get (D := D) (ci := 11) (v := .ref (a0 9 0)) (C := RX11) (T := TX11) (N := 16) hx hb hts iw_One hown hK hP 0 rfl rfl 8 (by decide) fl_68 (fun _ h9 => h9) rfl dX11_count_125 ?_
                    refine va_get (D := D) (ci := 4) (v := .int (P8 0 1)) (C := RX4) (T := TX4) (N := 13) hx hb hts iw_Rods hown hK hP 37 rfl rfl 1 (by decide) fl_261 (fun _ h9 => h9) rfl dX11_count_128 ?_
                    have hz := Option.some.inj hf
                    subst hz
                    exact hret _ _ _ _ dX11_count_131 hP hD hS
                  · have hf := mb_if_f c_10 hf
                    by_cases c_11 : x1 = (9 : Int32)
                    · have hf := mb_if_t c_11 hf
                      refine lv_tableIn (tgt := 132) hx hb dX11_count_1 (by rw [c_11]; decide) (by rw [c_11]; decide) (by rw [c_11]; rfl) (by decide) ?_
                      refine lv_aload_n hx hb dX11_count_132 rfl (lv_at hl 0 rfl) ?_
                      refine va_get (D := D) (ci := 11) (v := .ref (a0 9 0)) (C := RX11) (T := TX11) (N := 16) hx hb hts iw_One hown hK hP 0 rfl rfl 8 (by decide) fl_68 (fun _ h9 => h9) rfl dX11_count_133 ?_
                      obtain ⟨r_1, hz, hf⟩ := mb_bd1_s hf
                      refine gc_i (r0 := r_1) (ws' := (wC_One k a0 P0 ++ (wC_Units k (a0 1) P1 ++ (wC_Tables k (a0 2) P2 ++ (wC_Ground k (a0 4) P3 L3 ++ (wC_Trials k (a0 5) P4 L4 ++ (wC_Script k (a0 6) P5 ++ (wC_Decrees k (a0 7) P6 ++ (wC_Papers k (a0 8) P7 L7 ++ (wC_Rods k (a0 9) P8 L8)))))))))) (wr := (wC_One k a0 P0 ++ (wC_Units k (a0 1) P1 ++ (wC_Tables k (a0 2) P2 ++ (wC_Ground k (a0 4) P3 L3 ++ (wC_Trials k (a0 5) P4 L4 ++ (wC_Script k (a0 6) P5 ++ (wC_Decrees k (a0 7) P6 ++ (wC_Papers k (a0 8) P7 L7))))))))) (va_runV (As := []) (rest := []) ⟨hx, hb, hml, hown, hts⟩ (c_Rods_howManySeized l D k H.size (a0 9) P8 L8 r_1 hz) (cwV 0 hts gX11_count_X4_howManySeized rfl rfl rfl (by decide +kernel) ⟨Nat.le_of_ble_eq_true rfl, Nat.le_of_ble_eq_true rfl⟩) (gp_V (ci := 4) (q0 := 0) (q := (RX4, TX4, 13)) hP hD hK hN [37, 38, 39, 40, 41, 42, 43, 44, 45, 46, 47, 48] (by decide +kernel) rfl rfl rfl) rfl rfl hl.1 rfl (lv_room (Nat.le_of_ble_eq_true rfl)) dX11_count_136 ⟨Nat.zero_le _, Nat.zero_le _⟩) hP hD hS hA [37, 38, 39, 40, 41, 42, 43, 44, 45, 46, 47, 48] [0, 1, 2, 3, 4, 5, 6, 7, 8, 9, 10, 11, 12, 13, 14, 15, 16, 17, 18, 19, 20, 21, 22, 23, 24, 25, 26, 27, 28, 29, 30, 31, 32, 33, 34, 35, 36] rfl rfl (by decide +kernel) (by decide +kernel) [0, 1, 2, 3, 4, 5, 6, 7, 8, 9, 10, 11, 12, 13, 14, 15, 16, 17, 18, 19, 20, 21, 22, 23, 24, 25, 26, 27, 28, 29, 30, 31, 32, 33, 34, 35, 36, 37, 38, 39, 40, 41, 42, 43, 44, 45, 46, 47, 48] (by decide +kernel) rfl (fun H locs hP hD hS => ?_)
                      clear hz
                      have hz := Option.some.inj hf
                      subst hz
                      exact hret _ _ _ _ dX11_count_139 hP hD hS
                    · have hf := mb_if_f c_11 hf
                      by_cases c_12 : x1 = (10 : Int32)
                      · have hf := mb_if_t c_12 hf
                        refine lv_tableIn (tgt := 140) hx hb dX11_count_1 (by rw [c_12]; decide) (by rw [c_12]; decide) (by rw [c_12]; rfl) (by decide) ?_
                        refine lv_aload_n hx hb dX11_count_140 rfl (lv_at hl 0 rfl) ?_
                        refine va_get (D := D) (ci := 11) (v := .int (P0 0 14)) (C := RX11) (T := TX11) (N := 16) hx hb hts iw_One hown hK hP 0 rfl rfl 14 (by decide) fl_98 (fun _ h9 => h9) rfl dX11_count_141 ?_
                        have hz := Option.some.inj hf
                        subst hz
                        exact hret _ _ _ _ dX11_count_144 hP hD hS
                      · have hf := mb_if_f c_12 hf
                        refine lv_tableOut (tgt := 145) hx hb dX11_count_1 (by have q0 : ¬ (x1 : Int32).toInt = 0 := mb_ni c_2 (by decide); have q1 : ¬ (x1 : Int32).toInt = 1 := mb_ni c_3 (by decide); have q2 : ¬ (x1 : Int32).toInt = 2 := mb_ni c_4 (by decide); have q3 : ¬ (x1 : Int32).toInt = 3 := mb_ni c_5 (by decide); have q4 : ¬ (x1 : Int32).toInt = 4 := mb_ni c_6 (by decide); have q5 : ¬ (x1 : Int32).toInt = 5 := mb_ni c_7 (by decide); have q6 : ¬ (x1 : Int32).toInt = 6 := mb_ni c_8 (by decide); have q7 : ¬ (x1 : Int32).toInt = 7 := mb_ni c_9 (by decide); have q8 : ¬ (x1 : Int32).toInt = 8 := mb_ni c_10 (by decide); have q9 : ¬ (x1 : Int32).toInt = 9 := mb_ni c_11 (by decide); have q10 : ¬ (x1 : Int32).toInt = 10 := mb_ni c_12 (by decide); omega) (by decide) ?_
                        refine lv_iconst (v := (-1)) hx hb dX11_count_145 (by decide) ?_
                        have hz := Option.some.inj hf
                        subst hz
                        exact hret _ _ _ _ dX11_count_146 hP hD hS
def f_Ref_in (x0 : Int64) (x2 : Int64) (x4 : Int64) : Option (Int32) := (if (lg_cmp x0 x2) < 0 then some (0 : Int32) else (if 0 < (lg_cmp x0 x4) then some (0 : Int32) else some (1 : Int32)))
def rm_Ref_in : Room := { frames := 0, cells := 0, slots := 0, locals := 0 }
set_option maxHeartbeats 4000000 in
set_option maxRecDepth 100000 in
theorem c_Ref_in (l : Launch) (D : va_G) (k : Nat → ClassId) (sz : Nat) (x0 : Int64) (x2 : Int64) (x4 : Int64) (z : Int32) (hf : f_Ref_in x0 x2 x4 = some z) : Met l yX12_in wsX12_in rm_Ref_in (va_Pc [.long x0, .long x2, .long x4] (gw_pre D vwCl (tyL k) ([] : va_W) sz)) (va_Qi (fun (r : Int32) (_ : Unit) => r = z) (gw_b D vwCl (tyL k) (va_A ([] : va_W) sz) ([] : va_W)) (va_A ([] : va_W) sz)) 0 0 (va_A ([] : va_W) sz) := by
  refine gm_z (cc := cX12_in) (maxL := 6) (by decide) rfl (Nat.le_of_ble_eq_true rfl) ?_
  intro p e s m args below meth c A Q ls H locs hx hb hml hown hts hK hN hA hP hD hS hl hret
  have hown : s.vm.findClass RX12 = some m.cls := hown
  have hl : lv_has ls 6 [(0, .long x0), (2, .long x2), (4, .long x4)] := hl
  unfold f_Ref_in at hf
  refine lv_lload_n hx hb dX12_in_0 rfl (lv_at hl 0 rfl) ?_
  refine lv_lload_n hx hb dX12_in_1 rfl (lv_at hl 1 rfl) ?_
  refine W.lcmp hx hb dX12_in_2 ?_
  refine lv_if_lt (tgt := 17) hx hb dX12_in_3 (by decide) (fun c_2 => ?_) (fun c_2 => ?_)
  · have hf := mb_if_t c_2 hf
    refine lv_iconst (v := 0) hx hb dX12_in_17 (by decide) ?_
    have hz := Option.some.inj hf
    subst hz
    exact hret _ _ _ _ mb_n0 dX12_in_18 hP hD hS
  · have hf := mb_if_f c_2 hf
    refine lv_lload_n hx hb dX12_in_6 rfl (lv_at hl 0 rfl) ?_
    refine lv_lload hx hb dX12_in_7 (lv_at hl 2 rfl) ?_
    refine W.lcmp hx hb dX12_in_9 ?_
    refine lv_if_gt (tgt := 17) hx hb dX12_in_10 (by decide) (fun c_1 => ?_) (fun c_1 => ?_)
    · have hf := mb_if_t c_1 hf
      refine lv_iconst (v := 0) hx hb dX12_in_17 (by decide) ?_
      have hz := Option.some.inj hf
      subst hz
      exact hret _ _ _ _ mb_n0 dX12_in_18 hP hD hS
    · have hf := mb_if_f c_1 hf
      refine lv_iconst (v := 1) hx hb dX12_in_13 (by decide) ?_
      refine lv_goto (tgt := 18) hx hb dX12_in_14 (by decide) ?_
      have hz := Option.some.inj hf
      subst hz
      exact hret _ _ _ _ mb_n1 dX12_in_18 hP hD hS
def f_Ref_isUnit (P0 : PI) (x1 : Int32) : Option (Int32) := mb_bd1 (f_Ref_in ((x1).toInt64) (0 : Int64) ((((P0 0 0) - (1 : Int32))).toInt64)) (fun (r_1 : Int32) => mb_z r_1 (some r_1))
def rm_Ref_isUnit : Room := { frames := 1, cells := 0, slots := 0, locals := 25 }
set_option maxHeartbeats 4000000 in
set_option maxRecDepth 100000 in
theorem c_Ref_isUnit (l : Launch) (D : va_G) (k : Nat → ClassId) (sz : Nat) (b0 : Nat → Nat) (P0 : PI) (L0 : PL) (x1 : Int32) (z : Int32) (hf : f_Ref_isUnit P0 x1 = some z) : Met l yX12_isUnit wsX12_isUnit rm_Ref_isUnit (va_Pc [.ref (b0 0), .int x1] (gw_pre D vwCl (tyL k) (wC_Ref k b0 P0 L0) sz)) (va_Qi (fun (r : Int32) (_ : Unit) => r = z) (gw_b D vwCl (tyL k) (va_A (wC_Ref k b0 P0 L0) sz) (wC_Ref k b0 P0 L0)) (va_A (wC_Ref k b0 P0 L0) sz)) 0 0 (va_A (wC_Ref k b0 P0 L0) sz) := by
  refine gm_z (cc := cX12_isUnit) (maxL := 2) (by decide) rfl (Nat.le_of_ble_eq_true rfl) ?_
  intro p e s m args below meth c A Q ls H locs hx hb hml hown hts hK hN hA hP hD hS hl hret
  have hown : s.vm.findClass RX12 = some m.cls := hown
  have hl : lv_has ls 2 [(0, .ref (b0 0)), (1, .int x1)] := hl
  have iw_Ref : ∀ w ∈ u_ws RX12 TX12 42, w ∈ wsX12_isUnit := by decide +kernel
  have fl_90 := hts (.fieldLink RX12 90 "OneMeasureModel" "unitMany" "I") (by decide +kernel)
  unfold f_Ref_isUnit at hf
  refine lv_iload_n hx hb dX12_isUnit_0 rfl (lv_at hl 1 rfl) ?_
  refine lv_i2l hx hb dX12_isUnit_1 rfl ?_
  refine lv_lconst (v := 0) hx hb dX12_isUnit_2 (by decide) ?_
  refine lv_aload_n hx hb dX12_isUnit_3 rfl (lv_at hl 0 rfl) ?_
  refine va_get (D := D) (ci := 12) (v := .int (P0 0 0)) (C := RX12) (T := TX12) (N := 42) hx hb hts iw_Ref hown hK hP 0 rfl rfl 0 (by decide) fl_90 (fun _ h9 => h9) rfl dX12_isUnit_4 ?_
  refine lv_iconst (v := 1) hx hb dX12_isUnit_7 (by decide) ?_
  refine lv_isub hx hb dX12_isUnit_8 ?_
  refine lv_i2l hx hb dX12_isUnit_9 rfl ?_
  obtain ⟨r_1, hz, hf⟩ := mb_bd1_s hf
  refine gc_i (r0 := r_1) (ws' := (wC_Ref k b0 P0 L0)) (wr := (wC_Ref k b0 P0 L0)) (va_runS (As := [.long (x1).toInt64, .long (0 : Int64), .long (((P0 0 0) - (1 : Int32))).toInt64]) (rest := []) ⟨hx, hb, hml, hown, hts⟩ (c_Ref_in l D k H.size ((x1).toInt64) (0 : Int64) ((((P0 0 0) - (1 : Int32))).toInt64) r_1 hz) (cwS 3 hts gX12_isUnit_X12_in rfl rfl rfl (by decide +kernel) ⟨Nat.le_of_ble_eq_true rfl, Nat.le_of_ble_eq_true rfl⟩) (gp_S hP hD hK hN [] (by decide +kernel) rfl) rfl rfl hl.1 rfl (lv_room (Nat.le_of_ble_eq_true rfl)) dX12_isUnit_10 ⟨Nat.zero_le _, Nat.zero_le _⟩) hP hD hS hA [] [0, 1, 2, 3, 4, 5, 6, 7, 8, 9, 10, 11, 12, 13, 14, 15, 16, 17, 18, 19, 20, 21, 22, 23, 24, 25] rfl rfl (by decide +kernel) (by decide +kernel) [0, 1, 2, 3, 4, 5, 6, 7, 8, 9, 10, 11, 12, 13, 14, 15, 16, 17, 18, 19, 20, 21, 22, 23, 24, 25] (by decide +kernel) rfl (fun H locs hP hD hS => ?_)
  clear hz
  obtain ⟨h_2, hf⟩ := mb_z_s hf
  have hz := Option.some.inj hf
  subst hz
  exact hret _ _ _ _ h_2 dX12_isUnit_13 hP hD hS
def f_Ref_unit (P0 : PI) (x1 : Int32) (x2 : Int32) (x3 : Int32) : Option (Int32 × PI) := mb_bd1 (f_Ref_in ((x1).toInt64) (0 : Int64) (1 : Int64)) (fun (r_1 : Int32) => (if r_1 = 0 then some ((-1 : Int32), P0) else mb_bd1 (f_Ref_in ((x2).toInt64) (1 : Int64) (1000000 : Int64)) (fun (r_2 : Int32) => (if r_2 = 0 then some ((-1 : Int32), P0) else mb_jn (fun (y_3 : Int64) (y_4 : Int64) (y_5 : Int64) => mb_bd1 (f_Ref_in y_5 y_4 y_3) (fun (r_8 : Int32) => (if r_8 = 0 then some ((-1 : Int32), P0) else (if (P0 0 0) = (16 : Int32) then some ((-3 : Int32), P0) else mb_chk (P0 0 0) 16 (mb_let (mb_u2 P0 2 (P0 0 0).toNatClampNeg x1) (fun (P0_9 : PI) => mb_chk (P0_9 0 0) 16 (mb_let (mb_u2 P0_9 3 (P0_9 0 0).toNatClampNeg x2) (fun (P0_11 : PI) => mb_chk (P0_11 0 0) 16 (mb_let (mb_u2 P0_11 4 (P0_11 0 0).toNatClampNeg x3) (fun (P0_13 : PI) => mb_let (mb_uo P0_13 0 ((P0_13 0 0) + (1 : Int32))) (fun (P0_15 : PI) => some (((P0_15 0 0) - (1 : Int32)), P0_15)))))))))))) (fun J37_6 => (if x1 = (1 : Int32) then J37_6 (100 : Int64) (0 : Int64) ((x3).toInt64) else J37_6 (0 : Int64) (0 : Int64) ((x3).toInt64)))))))
def rm_Ref_unit : Room := { frames := 1, cells := 0, slots := 0, locals := 25 }
set_option maxHeartbeats 4000000 in
set_option maxRecDepth 100000 in
theorem c_Ref_unit (l : Launch) (D : va_G) (k : Nat → ClassId) (sz : Nat) (b0 : Nat → Nat) (P0 : PI) (L0 : PL) (x1 : Int32) (x2 : Int32) (x3 : Int32) (z : Int32 × PI) (hf : f_Ref_unit P0 x1 x2 x3 = some z) : Met l yX12_unit wsX12_unit rm_Ref_unit (va_Pc [.ref (b0 0), .int x1, .int x2, .int x3] (gw_pre D vwCl (tyL k) (wC_Ref k b0 P0 L0) sz)) (va_Qi (fun (r : Int32) (_ : Unit) => r = z.1) (gw_b D vwCl (tyL k) (va_A (wC_Ref k b0 P0 L0) sz) (wC_Ref k b0 z.2 L0)) (va_A (wC_Ref k b0 P0 L0) sz)) 0 0 (va_A (wC_Ref k b0 P0 L0) sz) := by
  refine gm_i (cc := cX12_unit) (maxL := 4) (by decide) rfl (Nat.le_of_ble_eq_true rfl) ?_
  intro p e s m args below meth c A Q ls H locs hx hb hml hown hts hK hN hA hP hD hS hl hret
  have hown : s.vm.findClass RX12 = some m.cls := hown
  have hl : lv_has ls 4 [(0, .ref (b0 0)), (1, .int x1), (2, .int x2), (3, .int x3)] := hl
  have iw_Ref : ∀ w ∈ u_ws RX12 TX12 42, w ∈ wsX12_unit := by decide +kernel
  have fl_7 := hts (.fieldLink RX12 7 "OneMeasureModel" "sort" "[I") (by decide +kernel)
  have fl_13 := hts (.fieldLink RX12 13 "OneMeasureModel" "size" "[I") (by decide +kernel)
  have fl_16 := hts (.fieldLink RX12 16 "OneMeasureModel" "heap" "[I") (by decide +kernel)
  have fl_90 := hts (.fieldLink RX12 90 "OneMeasureModel" "unitMany" "I") (by decide +kernel)
  have lc_97 := hts (.constantLong RX12 97 (1000000)) (by decide +kernel)
  have lc_99 := hts (.constantLong RX12 99 (100)) (by decide +kernel)
  unfold f_Ref_unit at hf
  refine lv_iload_n hx hb dX12_unit_0 rfl (lv_at hl 1 rfl) ?_
  refine lv_i2l hx hb dX12_unit_1 rfl ?_
  refine lv_lconst (v := 0) hx hb dX12_unit_2 (by decide) ?_
  refine lv_lconst (v := 1) hx hb dX12_unit_3 (by decide) ?_
  obtain ⟨r_1, hz, hf⟩ := mb_bd1_s hf
  refine gc_i (r0 := r_1) (ws' := (wC_Ref k b0 P0 L0)) (wr := (wC_Ref k b0 P0 L0)) (va_runS (As := [.long (x1).toInt64, .long (0 : Int64), .long (1 : Int64)]) (rest := []) ⟨hx, hb, hml, hown, hts⟩ (c_Ref_in l D k H.size ((x1).toInt64) (0 : Int64) (1 : Int64) r_1 hz) (cwS 3 hts gX12_unit_X12_in rfl rfl rfl (by decide +kernel) ⟨Nat.le_of_ble_eq_true rfl, Nat.le_of_ble_eq_true rfl⟩) (gp_S hP hD hK hN [] (by decide +kernel) rfl) rfl rfl hl.1 rfl (lv_room (Nat.le_of_ble_eq_true rfl)) dX12_unit_4 ⟨Nat.zero_le _, Nat.zero_le _⟩) hP hD hS hA [] [0, 1, 2, 3, 4, 5, 6, 7, 8, 9, 10, 11, 12, 13, 14, 15, 16, 17, 18, 19, 20, 21, 22, 23, 24, 25] rfl rfl (by decide +kernel) (by decide +kernel) [0, 1, 2, 3, 4, 5, 6, 7, 8, 9, 10, 11, 12, 13, 14, 15, 16, 17, 18, 19, 20, 21, 22, 23, 24, 25] (by decide +kernel) rfl (fun H locs hP hD hS => ?_)
  clear hz
  refine lv_if_eq (tgt := 43) hx hb dX12_unit_7 (by decide) (fun c_20 => ?_) (fun c_20 => ?_)
  · have hf := mb_if_t c_20 hf
    refine lv_iconst (v := (-1)) hx hb dX12_unit_43 (by decide) ?_
    have hz := Option.some.inj hf
    subst hz
    exact hret _ _ _ _ dX12_unit_44 hP hD hS
  · have hf := mb_if_f c_20 hf
    refine lv_iload_n hx hb dX12_unit_10 rfl (lv_at hl 2 rfl) ?_
    refine lv_i2l hx hb dX12_unit_11 rfl ?_
    refine lv_lconst (v := 1) hx hb dX12_unit_12 (by decide) ?_
    refine lv_ldc2 (v := (1000000)) hx hb hown lc_97 dX12_unit_13 ?_
    obtain ⟨r_2, hz, hf⟩ := mb_bd1_s hf
    refine gc_i (r0 := r_2) (ws' := (wC_Ref k b0 P0 L0)) (wr := (wC_Ref k b0 P0 L0)) (va_runS (As := [.long (x2).toInt64, .long (1 : Int64), .long (1000000 : Int64)]) (rest := []) ⟨hx, hb, hml, hown, hts⟩ (c_Ref_in l D k H.size ((x2).toInt64) (1 : Int64) (1000000 : Int64) r_2 hz) (cwS 3 hts gX12_unit_X12_in rfl rfl rfl (by decide +kernel) ⟨Nat.le_of_ble_eq_true rfl, Nat.le_of_ble_eq_true rfl⟩) (gp_S hP hD hK hN [] (by decide +kernel) rfl) rfl rfl hl.1 rfl (lv_room (Nat.le_of_ble_eq_true rfl)) dX12_unit_16 ⟨Nat.zero_le _, Nat.zero_le _⟩) hP hD hS hA [] [0, 1, 2, 3, 4, 5, 6, 7, 8, 9, 10, 11, 12, 13, 14, 15, 16, 17, 18, 19, 20, 21, 22, 23, 24, 25] rfl rfl (by decide +kernel) (by decide +kernel) [0, 1, 2, 3, 4, 5, 6, 7, 8, 9, 10, 11, 12, 13, 14, 15, 16, 17, 18, 19, 20, 21, 22, 23, 24, 25] (by decide +kernel) rfl (fun H locs hP hD hS => ?_)
    clear hz
    refine lv_if_eq (tgt := 43) hx hb dX12_unit_19 (by decide) (fun c_19 => ?_) (fun c_19 => ?_)
    · have hf := mb_if_t c_19 hf
      refine lv_iconst (v := (-1)) hx hb dX12_unit_43 (by decide) ?_
      have hz := Option.some.inj hf
      subst hz
      exact hret _ _ _ _ dX12_unit_44 hP hD hS
    · have hf := mb_if_f c_19 hf
      refine lv_iload_n hx hb dX12_unit_22 rfl (lv_at hl 3 rfl) ?_
      refine lv_i2l hx hb dX12_unit_23 rfl ?_
      refine lv_lconst (v := 0) hx hb dX12_unit_24 (by decide) ?_
      refine lv_iload_n hx hb dX12_unit_25 rfl (lv_at hl 1 rfl) ?_
      refine lv_iconst (v := 1) hx hb dX12_unit_26 (by decide) ?_
      obtain ⟨J37_6, eJ37_6, hf⟩ := mb_jn_s hf
      have j37_7 : ∀ (y_3 : Int64) (y_4 : Int64) (y_5 : Int64) (H : Heap) (locs : List Loc) (ls : Array Slot), J37_6 y_3 y_4 y_5 = some z → va_P D vwCl (wC_Ref k b0 P0 L0) H → va_D A (wC_Ref k b0 P0 L0) → va_S A s.heap H locs → lv_has ls 4 [(0, .ref (b0 0)), (1, .int x1), (2, .int x2), (3, .int x3)] → W p l e rm_Ref_unit s m args below meth c H locs 0 0 Q (F0 m 37 ls [.long y_3, .long y_4, .long y_5]) := by
        intro y_3 y_4 y_5 H locs ls hf hP hD hS hl
        have hf := mb_j3 eJ37_6 hf
        obtain ⟨r_8, hz, hf⟩ := mb_bd1_s hf
        refine gc_i (r0 := r_8) (ws' := (wC_Ref k b0 P0 L0)) (wr := (wC_Ref k b0 P0 L0)) (va_runS (As := [.long y_5, .long y_4, .long y_3]) (rest := []) ⟨hx, hb, hml, hown, hts⟩ (c_Ref_in l D k H.size y_5 y_4 y_3 r_8 hz) (cwS 3 hts gX12_unit_X12_in rfl rfl rfl (by decide +kernel) ⟨Nat.le_of_ble_eq_true rfl, Nat.le_of_ble_eq_true rfl⟩) (gp_S hP hD hK hN [] (by decide +kernel) rfl) rfl rfl hl.1 rfl (lv_room (Nat.le_of_ble_eq_true rfl)) dX12_unit_37 ⟨Nat.zero_le _, Nat.zero_le _⟩) hP hD hS hA [] [0, 1, 2, 3, 4, 5, 6, 7, 8, 9, 10, 11, 12, 13, 14, 15, 16, 17, 18, 19, 20, 21, 22, 23, 24, 25] rfl rfl (by decide +kernel) (by decide +kernel) [0, 1, 2, 3, 4, 5, 6, 7, 8, 9, 10, 11, 12, 13, 14, 15, 16, 17, 18, 19, 20, 21, 22, 23, 24, 25] (by decide +kernel) rfl (fun H locs hP hD hS => ?_)
        clear hz
        refine lv_if_ne (tgt := 45) hx hb dX12_unit_40 (by decide) (fun c_17 => ?_) (fun c_17 => ?_)
        · have hf := mb_if_f c_17 hf
          refine lv_aload_n hx hb dX12_unit_45 rfl (lv_at hl 0 rfl) ?_
          refine va_get (D := D) (ci := 12) (v := .int (P0 0 0)) (C := RX12) (T := TX12) (N := 42) hx hb hts iw_Ref hown hK hP 0 rfl rfl 0 (by decide) fl_90 (fun _ h9 => h9) rfl dX12_unit_46 ?_
          refine lv_bipush (v := 16) hx hb dX12_unit_49 (by decide) ?_
          refine lv_icmp_ne (tgt := 57) hx hb dX12_unit_51 (by decide) (fun c_16 => ?_) (fun c_16 => ?_)
          · have hf := mb_if_f c_16 hf
            refine lv_aload_n hx hb dX12_unit_57 rfl (lv_at hl 0 rfl) ?_
            refine va_get (D := D) (ci := 12) (v := .ref (b0 2)) (C := RX12) (T := TX12) (N := 42) hx hb hts iw_Ref hown hK hP 0 rfl rfl 1 (by decide) fl_7 (fun _ h9 => h9) rfl dX12_unit_58 ?_
            refine lv_aload_n hx hb dX12_unit_61 rfl (lv_at hl 0 rfl) ?_
            refine va_get (D := D) (ci := 12) (v := .int (P0 0 0)) (C := RX12) (T := TX12) (N := 42) hx hb hts iw_Ref hown hK hP 0 rfl rfl 0 (by decide) fl_90 (fun _ h9 => h9) rfl dX12_unit_62 ?_
            refine lv_iload_n hx hb dX12_unit_65 rfl (lv_at hl 1 rfl) ?_
            obtain ⟨h_10, hf⟩ := mb_chk_s hf
            obtain ⟨P0_9, e_, hf⟩ := mb_let_s hf
            refine va_iast hx hb hK hP hD hS 1 0 rfl rfl h_10 dX12_unit_66 (fun H locs hP hD hS => ?_)
            have hP : va_P D vwCl (wC_Ref k b0 P0_9 L0) H := by rw [e_]; exact hP
            have hD : va_D A (wC_Ref k b0 P0_9 L0) := by rw [e_]; exact hD
            clear e_
            refine lv_aload_n hx hb dX12_unit_67 rfl (lv_at hl 0 rfl) ?_
            refine va_get (D := D) (ci := 12) (v := .ref (b0 3)) (C := RX12) (T := TX12) (N := 42) hx hb hts iw_Ref hown hK hP 0 rfl rfl 2 (by decide) fl_13 (fun _ h9 => h9) rfl dX12_unit_68 ?_
            refine lv_aload_n hx hb dX12_unit_71 rfl (lv_at hl 0 rfl) ?_
            refine va_get (D := D) (ci := 12) (v := .int (P0_9 0 0)) (C := RX12) (T := TX12) (N := 42) hx hb hts iw_Ref hown hK hP 0 rfl rfl 0 (by decide) fl_90 (fun _ h9 => h9) rfl dX12_unit_72 ?_
            refine lv_iload_n hx hb dX12_unit_75 rfl (lv_at hl 2 rfl) ?_
            obtain ⟨h_12, hf⟩ := mb_chk_s hf
            obtain ⟨P0_11, e_, hf⟩ := mb_let_s hf
            refine va_iast hx hb hK hP hD hS 2 0 rfl rfl h_12 dX12_unit_76 (fun H locs hP hD hS => ?_)
            have hP : va_P D vwCl (wC_Ref k b0 P0_11 L0) H := by rw [e_]; exact hP
            have hD : va_D A (wC_Ref k b0 P0_11 L0) := by rw [e_]; exact hD
            clear e_
            refine lv_aload_n hx hb dX12_unit_77 rfl (lv_at hl 0 rfl) ?_
            refine va_get (D := D) (ci := 12) (v := .ref (b0 4)) (C := RX12) (T := TX12) (N := 42) hx hb hts iw_Ref hown hK hP 0 rfl rfl 3 (by decide) fl_16 (fun _ h9 => h9) rfl dX12_unit_78 ?_
            refine lv_aload_n hx hb dX12_unit_81 rfl (lv_at hl 0 rfl) ?_
            refine va_get (D := D) (ci := 12) (v := .int (P0_11 0 0)) (C := RX12) (T := TX12) (N := 42) hx hb hts iw_Ref hown hK hP 0 rfl rfl 0 (by decide) fl_90 (fun _ h9 => h9) rfl dX12_unit_82 ?_
            refine lv_iload_n hx hb dX12_unit_85 rfl (lv_at hl 3 rfl) ?_
            obtain ⟨h_14, hf⟩ := mb_chk_s hf
            obtain ⟨P0_13, e_, hf⟩ := mb_let_s hf
            refine va_iast hx hb hK hP hD hS 3 0 rfl rfl h_14 dX12_unit_86 (fun H locs hP hD hS => ?_)
            have hP : va_P D vwCl (wC_Ref k b0 P0_13 L0) H := by rw [e_]; exact hP
            have hD : va_D A (wC_Ref k b0 P0_13 L0) := by rw [e_]; exact hD
            clear e_
            refine lv_aload_n hx hb dX12_unit_87 rfl (lv_at hl 0 rfl) ?_
            refine lv_dup hx hb dX12_unit_88 rfl ?_
            refine va_get (D := D) (ci := 12) (v := .int (P0_13 0 0)) (C := RX12) (T := TX12) (N := 42) hx hb hts iw_Ref hown hK hP 0 rfl rfl 0 (by decide) fl_90 (fun _ h9 => h9) rfl dX12_unit_89 ?_
            refine lv_iconst (v := 1) hx hb dX12_unit_92 (by decide) ?_
            refine lv_iadd hx hb dX12_unit_93 ?_
            obtain ⟨P0_15, e_, hf⟩ := mb_let_s hf
            refine va_put (D := D) (ci := 12) (v := .int ((P0_13 0 0) + (1 : Int32))) (ty := .int) (C := RX12) (T := TX12) (N := 42) hx hb hts iw_Ref tyX12 tyX12_ok nmX12 hown hK hP hD hS 0 rfl rfl 0 (by decide) fl_90 (fun _ h9 => h9) rfl (by decide +kernel) rfl rfl (Nat.le_of_ble_eq_true rfl) dX12_unit_94 (fun H locs hP hD hS => ?_)
            have hP : va_P D vwCl (wC_Ref k b0 P0_15 L0) H := by rw [e_]; exact hP
            have hD : va_D A (wC_Ref k b0 P0_15 L0) := by rw [e_]; exact hD
            clear e_
            refine lv_aload_n hx hb dX12_unit_97 rfl (lv_at hl 0 rfl) ?_
            refine va_get (D := D) (ci := 12) (v := .int (P0_15 0 0)) (C := RX12) (T := TX12) (N := 42) hx hb hts iw_Ref hown hK hP 0 rfl rfl 0 (by decide) fl_90 (fun _ h9 => h9) rfl dX12_unit_98 ?_
            refine lv_iconst (v := 1) hx hb dX12_unit_101 (by decide) ?_
            refine lv_isub hx hb dX12_unit_102 ?_
            have hz := Option.some.inj hf
            subst hz
            exact hret _ _ _ _ dX12_unit_103 hP hD hS
          · have hf := mb_if_t c_16 hf
            refine lv_bipush (v := (-3)) hx hb dX12_unit_54 (by decide) ?_
            have hz := Option.some.inj hf
            subst hz
            exact hret _ _ _ _ dX12_unit_56 hP hD hS
        · have hf := mb_if_t c_17 hf
          refine lv_iconst (v := (-1)) hx hb dX12_unit_43 (by decide) ?_
          have hz := Option.some.inj hf
          subst hz
          exact hret _ _ _ _ dX12_unit_44 hP hD hS
      refine lv_icmp_ne (tgt := 36) hx hb dX12_unit_27 (by decide) (fun c_18 => ?_) (fun c_18 => ?_)
      · have hf := mb_if_f c_18 hf
        refine lv_lconst (v := 0) hx hb dX12_unit_36 (by decide) ?_
        exact j37_7 (0 : Int64) (0 : Int64) ((x3).toInt64) _ _ _ hf hP hD hS (lv_sub hl [0, 1, 2, 3] rfl)
      · have hf := mb_if_t c_18 hf
        refine lv_ldc2 (v := (100)) hx hb hown lc_99 dX12_unit_30 ?_
        refine lv_goto (tgt := 37) hx hb dX12_unit_33 (by decide) ?_
        exact j37_7 (100 : Int64) (0 : Int64) ((x3).toInt64) _ _ _ hf hP hD hS (lv_sub hl [0, 1, 2, 3] rfl)
