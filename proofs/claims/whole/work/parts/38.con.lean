def f_Rods_passWeek_3_b (P1 : PI) (P2 : PI) (x3 : Int32) (x4 : Int32) (K108_4 : PI → PL → Option (PI × PL)) (self_12 : Int32 → PI → PL → Option (PI × PL)) (x5_9 : Int32) (P0_10 : PI) (L0_11 : PL) : Option (PI × PL) := (if (P0_10 0 0) ≤ x5_9 then K108_4 P0_10 L0_11 else mb_chk x5_9 12 ((if (P0_10 11 x5_9.toNatClampNeg) = 0 then mb_bd1 (f_Rods_sell P0_10 L0_11 P1 x5_9) (fun (L0_14 : PL) => mb_chk x5_9 12 (mb_chk x5_9 12 (mb_let (mb_u2 P0_10 8 x5_9.toNatClampNeg ((P0_10 8 x5_9.toNatClampNeg) + (1 : Int32))) (fun (P0_16 : PI) => mb_chk x5_9 12 ((if ((x4 >>> ((P0_16 4 x5_9.toNatClampNeg) &&& 31)) &&& (1 : Int32)) = 0 then mb_let (x5_9 + (1 : Int32)) (fun (x5_28 : Int32) => self_12 x5_28 P0_16 L0_14) else mb_chk x5_9 12 (mb_bd1 (f_Rods_isForfeit P0_16 P2 x5_9 (P0_16 8 x5_9.toNatClampNeg) (P0_16 0 1) x3) (fun (r_20 : Int32) => (if r_20 = 0 then mb_chk x5_9 12 (mb_let (mb_u2 P0_16 10 x5_9.toNatClampNeg (1 : Int32)) (fun (P0_21 : PI) => mb_let (x5_9 + (1 : Int32)) (fun (x5_23 : Int32) => self_12 x5_23 P0_21 L0_14))) else mb_chk x5_9 12 (mb_let (mb_u2 P0_16 11 x5_9.toNatClampNeg (1 : Int32)) (fun (P0_24 : PI) => mb_let (x5_9 + (1 : Int32)) (fun (x5_26 : Int32) => self_12 x5_26 P0_24 L0_14)))))))))))) else mb_let (x5_9 + (1 : Int32)) (fun (x5_30 : Int32) => self_12 x5_30 P0_10 L0_11))))
def f_Rods_passWeek_3 (P1 : PI) (P2 : PI) (x3 : Int32) (x4 : Int32) (K108_4 : PI → PL → Option (PI × PL)) : Nat → Int32 → PI → PL → Option (PI × PL)
  | 0, _, _, _ => none
  | n + 1, x5_9, P0_10, L0_11 => f_Rods_passWeek_3_b P1 P2 x3 x4 K108_4 (f_Rods_passWeek_3 P1 P2 x3 x4 K108_4 n) x5_9 P0_10 L0_11
def f_Rods_passWeek (P0 : PI) (L0 : PL) (P1 : PI) (P2 : PI) (x3 : Int32) (x4 : Int32) : Option (PI × PL) := mb_let (0 : Int32) (fun (x5_1 : Int32) => mb_jn (fun (P0_2 : PI) (L0_3 : PL) => mb_let (mb_uo P0_2 1 ((P0_2 0 1) + (1 : Int32))) (fun (P0_6 : PI) => some (P0_6, L0_3))) (fun K108_4 => f_Rods_passWeek_3 P1 P2 x3 x4 K108_4 mb_fu x5_1 P0 L0))
def rm_Rods_passWeek : Room := { frames := 4, cells := 0, slots := 0, locals := 109 }
set_option maxHeartbeats 4000000 in
set_option maxRecDepth 100000 in
theorem c_Rods_passWeek (l : Launch) (D : va_G) (k : Nat → ClassId) (sz : Nat) (b0 : Nat → Nat) (b1 : Nat → Nat) (b2 : Nat → Nat) (P0 : PI) (L0 : PL) (P1 : PI) (P2 : PI) (x3 : Int32) (x4 : Int32) (z : PI × PL) (hf : f_Rods_passWeek P0 L0 P1 P2 x3 x4 = some z) : Met l yX4_passWeek wsX4_passWeek rm_Rods_passWeek (va_Pc [.ref (b0 0), .ref (b1 0), .ref (b2 0), .int x3, .int x4] (gw_pre D vwCl (tyL k) (wC_Rods k b0 P0 L0 ++ (wC_Units k b1 P1 ++ (wC_Decrees k b2 P2))) sz)) (va_Qv (fun (_ : Unit) => True) (gw_b D vwCl (tyL k) (va_A (wC_Rods k b0 P0 L0 ++ (wC_Units k b1 P1 ++ (wC_Decrees k b2 P2))) sz) (wC_Rods k b0 z.1 z.2 ++ (wC_Units k b1 P1 ++ (wC_Decrees k b2 P2)))) (va_A (wC_Rods k b0 P0 L0 ++ (wC_Units k b1 P1 ++ (wC_Decrees k b2 P2))) sz)) 0 0 (va_A (wC_Rods k b0 P0 L0 ++ (wC_Units k b1 P1 ++ (wC_Decrees k b2 P2))) sz) := by
  refine gm_v (cc := cX4_passWeek) (maxL := 6) (by decide) rfl (Nat.le_of_ble_eq_true rfl) ?_
  intro p e s m args below meth c A Q ls H locs hx hb hml hown hts hK hN hA hP hD hS hl hret
  have hown : s.vm.findClass RX4 = some m.cls := hown
  have hl : lv_has ls 6 [(0, .ref (b0 0)), (1, .ref (b1 0)), (2, .ref (b2 0)), (3, .int x3), (4, .int x4)] := hl
  have iw_Rods : ∀ w ∈ u_ws RX4 TX4 13, w ∈ wsX4_passWeek := by decide +kernel
  have fl_9 := hts (.fieldLink RX4 9 "OneMeasure$Rods" "count" "I") (by decide +kernel)
  have fl_15 := hts (.fieldLink RX4 15 "OneMeasure$Rods" "week" "I") (by decide +kernel)
  have fl_22 := hts (.fieldLink RX4 22 "OneMeasure$Rods" "district" "[I") (by decide +kernel)
  have fl_34 := hts (.fieldLink RX4 34 "OneMeasure$Rods" "worn" "[I") (by decide +kernel)
  have fl_40 := hts (.fieldLink RX4 40 "OneMeasure$Rods" "sealed" "[I") (by decide +kernel)
  have fl_43 := hts (.fieldLink RX4 43 "OneMeasure$Rods" "seized" "[I") (by decide +kernel)
  unfold f_Rods_passWeek at hf
  refine lv_iconst (v := 0) hx hb dX4_passWeek_0 (by decide) ?_
  obtain ⟨x5_1, e_, hf⟩ := mb_let_s hf
  refine mb_topi e_ ?_
  clear e_
  refine lv_istore (lv' := [(5, .int x5_1), (0, .ref (b0 0)), (1, .ref (b1 0)), (2, .ref (b2 0)), (3, .int x3), (4, .int x4)]) hx hb dX4_passWeek_1 hl (by decide) rfl (fun ls hl => ?_)
  obtain ⟨K108_4, eK108_4, hf⟩ := mb_jn_s hf
  have k108_5 : ∀ (P0_2 : PI) (L0_3 : PL) (H : Heap) (locs : List Loc) (ls : Array Slot), K108_4 P0_2 L0_3 = some z → va_P D vwCl (wC_Rods k b0 P0_2 L0_3 ++ (wC_Units k b1 P1 ++ (wC_Decrees k b2 P2))) H → va_D A (wC_Rods k b0 P0_2 L0_3 ++ (wC_Units k b1 P1 ++ (wC_Decrees k b2 P2))) → va_S A s.heap H locs → lv_has ls 6 [(0, .ref (b0 0))] → W p l e rm_Rods_passWeek s m args below meth c H locs 0 0 Q (F0 m 108 ls []) := by
    intro P0_2 L0_3 H locs ls hf hP hD hS hl
    have hf := mb_j2 eK108_4 hf
    refine lv_aload_n hx hb dX4_passWeek_108 rfl (lv_at hl 0 rfl) ?_
    refine lv_dup hx hb dX4_passWeek_109 rfl ?_
    refine va_get (D := D) (ci := 4) (v := .int (P0_2 0 1)) (C := RX4) (T := TX4) (N := 13) hx hb hts iw_Rods hown hK hP 0 rfl rfl 1 (by decide) fl_15 (fun _ h9 => h9) rfl dX4_passWeek_110 ?_
    refine lv_iconst (v := 1) hx hb dX4_passWeek_113 (by decide) ?_
    refine lv_iadd hx hb dX4_passWeek_114 ?_
    obtain ⟨P0_6, e_, hf⟩ := mb_let_s hf
    refine va_put (D := D) (ci := 4) (v := .int ((P0_2 0 1) + (1 : Int32))) (ty := .int) (C := RX4) (T := TX4) (N := 13) hx hb hts iw_Rods tyX4 tyX4_ok nmX4 hown hK hP hD hS 0 rfl rfl 1 (by decide) fl_15 (fun _ h9 => h9) rfl (by decide +kernel) rfl rfl (Nat.le_of_ble_eq_true rfl) dX4_passWeek_115 (fun H locs hP hD hS => ?_)
    have hP : va_P D vwCl (wC_Rods k b0 P0_6 L0_3 ++ (wC_Units k b1 P1 ++ (wC_Decrees k b2 P2))) H := by rw [e_]; exact hP
    have hD : va_D A (wC_Rods k b0 P0_6 L0_3 ++ (wC_Units k b1 P1 ++ (wC_Decrees k b2 P2))) := by rw [e_]; exact hD
    clear e_
    have hz := Option.some.inj hf
    subst hz
    exact hret _ _ _ _ dX4_passWeek_118 hP hD hS
  have lp3_7 : ∀ (n : Nat) (x5_9 : Int32) (P0_10 : PI) (L0_11 : PL) (H : Heap) (locs : List Loc) (ls : Array Slot), f_Rods_passWeek_3 P1 P2 x3 x4 K108_4 n x5_9 P0_10 L0_11 = some z → va_P D vwCl (wC_Rods k b0 P0_10 L0_11 ++ (wC_Units k b1 P1 ++ (wC_Decrees k b2 P2))) H → va_D A (wC_Rods k b0 P0_10 L0_11 ++ (wC_Units k b1 P1 ++ (wC_Decrees k b2 P2))) → va_S A s.heap H locs → lv_has ls 6 [(0, .ref (b0 0)), (1, .ref (b1 0)), (2, .ref (b2 0)), (3, .int x3), (4, .int x4), (5, .int x5_9)] → W p l e rm_Rods_passWeek s m args below meth c H locs 0 0 Q (F0 m 3 ls []) := by
    intro n
    induction n with
    | zero =>
      intro x5_9 P0_10 L0_11 H locs ls hf
      exact nomatch (show (none : Option (PI × PL)) = some z from hf)
    | succ n ih_8 =>
      intro x5_9 P0_10 L0_11 H locs ls hf hP hD hS hl
      have hf : f_Rods_passWeek_3_b P1 P2 x3 x4 K108_4 (f_Rods_passWeek_3 P1 P2 x3 x4 K108_4 n) x5_9 P0_10 L0_11 = some z := hf
      unfold f_Rods_passWeek_3_b at hf
      refine lv_iload hx hb dX4_passWeek_3 (lv_at hl 5 rfl) ?_
      refine lv_aload_n hx hb dX4_passWeek_5 rfl (lv_at hl 0 rfl) ?_
      refine va_get (D := D) (ci := 4) (v := .int (P0_10 0 0)) (C := RX4) (T := TX4) (N := 13) hx hb hts iw_Rods hown hK hP 0 rfl rfl 0 (by decide) fl_9 (fun _ h9 => h9) rfl dX4_passWeek_6 ?_
      refine lv_icmp_ge (tgt := 108) hx hb dX4_passWeek_9 (by decide) (fun c_32 => ?_) (fun c_32 => ?_)
      · have hf := mb_if_t c_32 hf
        exact k108_5 P0_10 L0_11 _ _ _ hf hP hD hS (lv_sub hl [0] rfl)
      · have hf := mb_if_f c_32 hf
        refine lv_aload_n hx hb dX4_passWeek_12 rfl (lv_at hl 0 rfl) ?_
        refine va_get (D := D) (ci := 4) (v := .ref (b0 11)) (C := RX4) (T := TX4) (N := 13) hx hb hts iw_Rods hown hK hP 0 rfl rfl 10 (by decide) fl_43 (fun _ h9 => h9) rfl dX4_passWeek_13 ?_
        refine lv_iload hx hb dX4_passWeek_16 (lv_at hl 5 rfl) ?_
        obtain ⟨h_13, hf⟩ := mb_chk_s hf
        refine va_iald hx hb hK hP 9 0 rfl rfl h_13 dX4_passWeek_18 ?_
        refine lv_if_eq (tgt := 25) hx hb dX4_passWeek_19 (by decide) (fun c_31 => ?_) (fun c_31 => ?_)
        · have hf := mb_if_t c_31 hf
          refine lv_aload_n hx hb dX4_passWeek_25 rfl (lv_at hl 0 rfl) ?_
          refine lv_iload hx hb dX4_passWeek_26 (lv_at hl 5 rfl) ?_
          refine lv_aload_n hx hb dX4_passWeek_28 rfl (lv_at hl 1 rfl) ?_
          obtain ⟨L0_14, hz, hf⟩ := mb_bd1_s hf
          refine gc_v (ws' := (wC_Rods k b0 P0_10 L0_14 ++ (wC_Units k b1 P1 ++ (wC_Decrees k b2 P2)))) (wr := (wC_Decrees k b2 P2)) (va_runV (As := [.int x5_9, .ref (b1 0)]) (rest := []) ⟨hx, hb, hml, hown, hts⟩ (c_Rods_sell l D k H.size b0 b1 P0_10 L0_11 P1 x5_9 L0_14 hz) (cwV 2 hts gX4_passWeek_X4_sell rfl rfl rfl (by decide +kernel) ⟨Nat.le_of_ble_eq_true rfl, Nat.le_of_ble_eq_true rfl⟩) (gp_V (ci := 4) (q0 := 0) (q := (RX4, TX4, 13)) hP hD hK hN [0, 1, 2, 3, 4, 5, 6, 7, 8, 9, 10, 11, 12, 13, 14, 15] (by decide +kernel) rfl rfl rfl) rfl rfl hl.1 rfl (lv_room (Nat.le_of_ble_eq_true rfl)) dX4_passWeek_29 ⟨Nat.zero_le _, Nat.zero_le _⟩) hP hD hS hA [0, 1, 2, 3, 4, 5, 6, 7, 8, 9, 10, 11, 12, 13, 14, 15] [16, 17, 18, 19, 20, 21] rfl rfl (by decide +kernel) (by decide +kernel) [6, 7, 8, 9, 10, 11, 12, 13, 14, 15, 16, 17, 18, 19, 20, 21, 0, 1, 2, 3, 4, 5] (by decide +kernel) rfl (fun H locs hP hD hS => ?_)
          clear hz
          refine lv_aload_n hx hb dX4_passWeek_32 rfl (lv_at hl 0 rfl) ?_
          refine va_get (D := D) (ci := 4) (v := .ref (b0 8)) (C := RX4) (T := TX4) (N := 13) hx hb hts iw_Rods hown hK hP 0 rfl rfl 7 (by decide) fl_34 (fun _ h9 => h9) rfl dX4_passWeek_33 ?_
          refine lv_iload hx hb dX4_passWeek_36 (lv_at hl 5 rfl) ?_
          refine lv_dup2_11 hx hb dX4_passWeek_38 rfl rfl ?_
          obtain ⟨h_15, hf⟩ := mb_chk_s hf
          refine va_iald hx hb hK hP 6 0 rfl rfl h_15 dX4_passWeek_39 ?_
          refine lv_iconst (v := 1) hx hb dX4_passWeek_40 (by decide) ?_
          refine lv_iadd hx hb dX4_passWeek_41 ?_
          obtain ⟨h_17, hf⟩ := mb_chk_s hf
          obtain ⟨P0_16, e_, hf⟩ := mb_let_s hf
          refine va_iast hx hb hK hP hD hS 6 0 rfl rfl h_17 dX4_passWeek_42 (fun H locs hP hD hS => ?_)
          have hP : va_P D vwCl (wC_Rods k b0 P0_16 L0_14 ++ (wC_Units k b1 P1 ++ (wC_Decrees k b2 P2))) H := by rw [e_]; exact hP
          have hD : va_D A (wC_Rods k b0 P0_16 L0_14 ++ (wC_Units k b1 P1 ++ (wC_Decrees k b2 P2))) := by rw [e_]; exact hD
          clear e_
          refine lv_iload hx hb dX4_passWeek_43 (lv_at hl 4 rfl) ?_
          refine lv_aload_n hx hb dX4_passWeek_45 rfl (lv_at hl 0 rfl) ?_
          refine va_get (D := D) (ci := 4) (v := .ref (b0 4)) (C := RX4) (T := TX4) (N := 13) hx hb hts iw_Rods hown hK hP 0 rfl rfl 3 (by decide) fl_22 (fun _ h9 => h9) rfl dX4_passWeek_46 ?_
          refine lv_iload hx hb dX4_passWeek_49 (lv_at hl 5 rfl) ?_
          obtain ⟨h_18, hf⟩ := mb_chk_s hf
          refine va_iald hx hb hK hP 2 0 rfl rfl h_18 dX4_passWeek_51 ?_
          refine lv_ishr hx hb dX4_passWeek_52 ?_
          refine lv_iconst (v := 1) hx hb dX4_passWeek_53 (by decide) ?_
          refine lv_iand hx hb dX4_passWeek_54 ?_
          refine lv_if_ne (tgt := 61) hx hb dX4_passWeek_55 (by decide) (fun c_29 => ?_) (fun c_29 => ?_)
          · have hf := mb_if_f c_29 hf
            refine lv_aload_n hx hb dX4_passWeek_61 rfl (lv_at hl 0 rfl) ?_
            refine lv_iload hx hb dX4_passWeek_62 (lv_at hl 5 rfl) ?_
            refine lv_aload_n hx hb dX4_passWeek_64 rfl (lv_at hl 0 rfl) ?_
            refine va_get (D := D) (ci := 4) (v := .ref (b0 8)) (C := RX4) (T := TX4) (N := 13) hx hb hts iw_Rods hown hK hP 0 rfl rfl 7 (by decide) fl_34 (fun _ h9 => h9) rfl dX4_passWeek_65 ?_
            refine lv_iload hx hb dX4_passWeek_68 (lv_at hl 5 rfl) ?_
            obtain ⟨h_19, hf⟩ := mb_chk_s hf
            refine va_iald hx hb hK hP 6 0 rfl rfl h_19 dX4_passWeek_70 ?_
            refine lv_aload_n hx hb dX4_passWeek_71 rfl (lv_at hl 0 rfl) ?_
            refine va_get (D := D) (ci := 4) (v := .int (P0_16 0 1)) (C := RX4) (T := TX4) (N := 13) hx hb hts iw_Rods hown hK hP 0 rfl rfl 1 (by decide) fl_15 (fun _ h9 => h9) rfl dX4_passWeek_72 ?_
            refine lv_aload_n hx hb dX4_passWeek_75 rfl (lv_at hl 2 rfl) ?_
            refine lv_iload_n hx hb dX4_passWeek_76 rfl (lv_at hl 3 rfl) ?_
            obtain ⟨r_20, hz, hf⟩ := mb_bd1_s hf
            refine gc_i (r0 := r_20) (ws' := (wC_Rods k b0 P0_16 L0_14 ++ (wC_Units k b1 P1 ++ (wC_Decrees k b2 P2)))) (wr := (wC_Units k b1 P1)) (va_runV (As := [.int x5_9, .int (P0_16 8 x5_9.toNatClampNeg), .int (P0_16 0 1), .ref (b2 0), .int x3]) (rest := []) ⟨hx, hb, hml, hown, hts⟩ (c_Rods_isForfeit l D k H.size b0 b2 P0_16 L0_14 P2 x5_9 (P0_16 8 x5_9.toNatClampNeg) (P0_16 0 1) x3 r_20 hz) (cwV 5 hts gX4_passWeek_X4_isForfeit rfl rfl rfl (by decide +kernel) ⟨Nat.le_of_ble_eq_true rfl, Nat.le_of_ble_eq_true rfl⟩) (gp_V (ci := 4) (q0 := 0) (q := (RX4, TX4, 13)) hP hD hK hN [0, 1, 2, 3, 4, 5, 6, 7, 8, 9, 10, 11, 16, 17, 18, 19, 20, 21] (by decide +kernel) rfl rfl rfl) rfl rfl hl.1 rfl (lv_room (Nat.le_of_ble_eq_true rfl)) dX4_passWeek_77 ⟨Nat.zero_le _, Nat.zero_le _⟩) hP hD hS hA [0, 1, 2, 3, 4, 5, 6, 7, 8, 9, 10, 11, 16, 17, 18, 19, 20, 21] [12, 13, 14, 15] rfl rfl (by decide +kernel) (by decide +kernel) [4, 5, 6, 7, 8, 9, 10, 11, 12, 13, 14, 15, 0, 1, 2, 3, 16, 17, 18, 19, 20, 21] (by decide +kernel) rfl (fun H locs hP hD hS => ?_)
            clear hz
            refine lv_if_eq (tgt := 94) hx hb dX4_passWeek_80 (by decide) (fun c_27 => ?_) (fun c_27 => ?_)
            · have hf := mb_if_t c_27 hf
              refine lv_aload_n hx hb dX4_passWeek_94 rfl (lv_at hl 0 rfl) ?_
              refine va_get (D := D) (ci := 4) (v := .ref (b0 10)) (C := RX4) (T := TX4) (N := 13) hx hb hts iw_Rods hown hK hP 0 rfl rfl 9 (by decide) fl_40 (fun _ h9 => h9) rfl dX4_passWeek_95 ?_
              refine lv_iload hx hb dX4_passWeek_98 (lv_at hl 5 rfl) ?_
              refine lv_iconst (v := 1) hx hb dX4_passWeek_100 (by decide) ?_
              obtain ⟨h_22, hf⟩ := mb_chk_s hf
              obtain ⟨P0_21, e_, hf⟩ := mb_let_s hf
              refine va_iast hx hb hK hP hD hS 8 0 rfl rfl h_22 dX4_passWeek_101 (fun H locs hP hD hS => ?_)
              have hP : va_P D vwCl (wC_Rods k b0 P0_21 L0_14 ++ (wC_Units k b1 P1 ++ (wC_Decrees k b2 P2))) H := by rw [e_]; exact hP
              have hD : va_D A (wC_Rods k b0 P0_21 L0_14 ++ (wC_Units k b1 P1 ++ (wC_Decrees k b2 P2))) := by rw [e_]; exact hD
              clear e_
              obtain ⟨x5_23, e_, hf⟩ := mb_let_s hf
              refine lv_iinc (v := x5_23) (lv' := [(5, .int x5_23), (0, .ref (b0 0)), (1, .ref (b1 0)), (2, .ref (b2 0)), (3, .int x3), (4, .int x4)]) hx hb dX4_passWeek_102 hl (k := 5) rfl (by rw [e_]; rfl) (by decide) rfl (fun ls hl => ?_)
              clear e_
              refine lv_goto (tgt := 3) hx hb dX4_passWeek_105 (by decide) ?_
              exact ih_8 x5_23 P0_21 L0_14 _ _ _ hf hP hD hS (lv_sub hl [1, 2, 3, 4, 5, 0] rfl)
            · have hf := mb_if_f c_27 hf
              refine lv_aload_n hx hb dX4_passWeek_83 rfl (lv_at hl 0 rfl) ?_
              refine va_get (D := D) (ci := 4) (v := .ref (b0 11)) (C := RX4) (T := TX4) (N := 13) hx hb hts iw_Rods hown hK hP 0 rfl rfl 10 (by decide) fl_43 (fun _ h9 => h9) rfl dX4_passWeek_84 ?_
              refine lv_iload hx hb dX4_passWeek_87 (lv_at hl 5 rfl) ?_
              refine lv_iconst (v := 1) hx hb dX4_passWeek_89 (by decide) ?_
              obtain ⟨h_25, hf⟩ := mb_chk_s hf
              obtain ⟨P0_24, e_, hf⟩ := mb_let_s hf
              refine va_iast hx hb hK hP hD hS 9 0 rfl rfl h_25 dX4_passWeek_90 (fun H locs hP hD hS => ?_)
              have hP : va_P D vwCl (wC_Rods k b0 P0_24 L0_14 ++ (wC_Units k b1 P1 ++ (wC_Decrees k b2 P2))) H := by rw [e_]; exact hP
              have hD : va_D A (wC_Rods k b0 P0_24 L0_14 ++ (wC_Units k b1 P1 ++ (wC_Decrees k b2 P2))) := by rw [e_]; exact hD
              clear e_
              refine lv_goto (tgt := 102) hx hb dX4_passWeek_91 (by decide) ?_
              obtain ⟨x5_26, e_, hf⟩ := mb_let_s hf
              refine lv_iinc (v := x5_26) (lv' := [(5, .int x5_26), (0, .ref (b0 0)), (1, .ref (b1 0)), (2, .ref (b2 0)), (3, .int x3), (4, .int x4)]) hx hb dX4_passWeek_102 hl (k := 5) rfl (by rw [e_]; rfl) (by decide) rfl (fun ls hl => ?_)
              clear e_
              refine lv_goto (tgt := 3) hx hb dX4_passWeek_105 (by decide) ?_
              exact ih_8 x5_26 P0_24 L0_14 _ _ _ hf hP hD hS (lv_sub hl [1, 2, 3, 4, 5, 0] rfl)
          · have hf := mb_if_t c_29 hf
            refine lv_goto (tgt := 102) hx hb dX4_passWeek_58 (by decide) ?_
            obtain ⟨x5_28, e_, hf⟩ := mb_let_s hf
            refine lv_iinc (v := x5_28) (lv' := [(5, .int x5_28), (0, .ref (b0 0)), (1, .ref (b1 0)), (2, .ref (b2 0)), (3, .int x3), (4, .int x4)]) hx hb dX4_passWeek_102 hl (k := 5) rfl (by rw [e_]; rfl) (by decide) rfl (fun ls hl => ?_)
            clear e_
            refine lv_goto (tgt := 3) hx hb dX4_passWeek_105 (by decide) ?_
            exact ih_8 x5_28 P0_16 L0_14 _ _ _ hf hP hD hS (lv_sub hl [1, 2, 3, 4, 5, 0] rfl)
        · have hf := mb_if_f c_31 hf
          refine lv_goto (tgt := 102) hx hb dX4_passWeek_22 (by decide) ?_
          obtain ⟨x5_30, e_, hf⟩ := mb_let_s hf
          refine lv_iinc (v := x5_30) (lv' := [(5, .int x5_30), (0, .ref (b0 0)), (1, .ref (b1 0)), (2, .ref (b2 0)), (3, .int x3), (4, .int x4)]) hx hb dX4_passWeek_102 hl (k := 5) rfl (by rw [e_]; rfl) (by decide) rfl (fun ls hl => ?_)
          clear e_
          refine lv_goto (tgt := 3) hx hb dX4_passWeek_105 (by decide) ?_
          exact ih_8 x5_30 P0_10 L0_11 _ _ _ hf hP hD hS (lv_sub hl [1, 2, 3, 4, 5, 0] rfl)
  exact lp3_7 mb_fu x5_1 P0 L0 _ _ _ hf hP hD hS (lv_sub hl [1, 2, 3, 4, 5, 0] rfl)
def f_One_movePlanOn_2_b (K30_3 : PI → Option (PI)) (self_11 : Int32 → PI → Option (PI)) (x1_9 : Int32) (P0_10 : PI) : Option (PI) := (if (10 : Int32) ≤ (x1_9 + (1 : Int32)) then K30_3 P0_10 else mb_chk (x1_9 + (1 : Int32)) 10 (mb_chk x1_9 10 (mb_let (mb_u2 P0_10 12 x1_9.toNatClampNeg (P0_10 12 (x1_9 + (1 : Int32)).toNatClampNeg)) (fun (P0_13 : PI) => mb_let (x1_9 + (1 : Int32)) (fun (x1_15 : Int32) => self_11 x1_15 P0_13)))))
def f_One_movePlanOn_2 (K30_3 : PI → Option (PI)) : Nat → Int32 → PI → Option (PI)
  | 0, _, _ => none
  | n + 1, x1_9, P0_10 => f_One_movePlanOn_2_b K30_3 (f_One_movePlanOn_2 K30_3 n) x1_9 P0_10
def f_One_movePlanOn (P0 : PI) : Option (PI) := mb_let (0 : Int32) (fun (x1_1 : Int32) => mb_jn (fun (P0_2 : PI) => mb_chk (9 : Int32) 10 (mb_let (mb_u2 P0_2 12 (9 : Int32).toNatClampNeg (0 : Int32)) (fun (P0_5 : PI) => some P0_5))) (fun K30_3 => f_One_movePlanOn_2 K30_3 mb_fu x1_1 P0))
def rm_One_movePlanOn : Room := { frames := 0, cells := 0, slots := 0, locals := 0 }
set_option maxHeartbeats 4000000 in
set_option maxRecDepth 100000 in
theorem c_One_movePlanOn (l : Launch) (D : va_G) (k : Nat → ClassId) (sz : Nat) (a0 : Nat → Nat → Nat) (P0 : PI) (z : PI) (hf : f_One_movePlanOn P0 = some z) : Met l yX11_movePlanOn wsX11_movePlanOn rm_One_movePlanOn (va_Pc [.ref (a0 0 0)] (gw_pre D vwCl (tyL k) (wC_One k a0 P0) sz)) (va_Qv (fun (_ : Unit) => True) (gw_b D vwCl (tyL k) (va_A (wC_One k a0 P0) sz) (wC_One k a0 z)) (va_A (wC_One k a0 P0) sz)) 0 0 (va_A (wC_One k a0 P0) sz) := by
  refine gm_v (cc := cX11_movePlanOn) (maxL := 2) (by decide) rfl (Nat.le_of_ble_eq_true rfl) ?_
  intro p e s m args below meth c A Q ls H locs hx hb hml hown hts hK hN hA hP hD hS hl hret
  have hown : s.vm.findClass RX11 = some m.cls := hown
  have hl : lv_has ls 2 [(0, .ref (a0 0 0))] := hl
  have iw_One : ∀ w ∈ u_ws RX11 TX11 16, w ∈ wsX11_movePlanOn := by decide +kernel
  have fl_86 := hts (.fieldLink RX11 86 "OneMeasure" "visits" "[I") (by decide +kernel)
  unfold f_One_movePlanOn at hf
  refine lv_iconst (v := 0) hx hb dX11_movePlanOn_0 (by decide) ?_
  obtain ⟨x1_1, e_, hf⟩ := mb_let_s hf
  refine mb_topi e_ ?_
  clear e_
  refine lv_istore_n (lv' := [(1, .int x1_1), (0, .ref (a0 0 0))]) hx hb dX11_movePlanOn_1 rfl hl (by decide) rfl (fun ls hl => ?_)
  obtain ⟨K30_3, eK30_3, hf⟩ := mb_jn_s hf
  have k30_4 : ∀ (P0_2 : PI) (H : Heap) (locs : List Loc) (ls : Array Slot), K30_3 P0_2 = some z → va_P D vwCl (wC_One k a0 P0_2) H → va_D A (wC_One k a0 P0_2) → va_S A s.heap H locs → lv_has ls 2 [(0, .ref (a0 0 0))] → W p l e rm_One_movePlanOn s m args below meth c H locs 0 0 Q (F0 m 30 ls []) := by
    intro P0_2 H locs ls hf hP hD hS hl
    have hf := mb_j1 eK30_3 hf
    refine lv_aload_n hx hb dX11_movePlanOn_30 rfl (lv_at hl 0 rfl) ?_
    refine va_get (D := D) (ci := 11) (v := .ref (a0 0 12)) (C := RX11) (T := TX11) (N := 16) hx hb hts iw_One hown hK hP 0 rfl rfl 11 (by decide) fl_86 (fun _ h9 => h9) rfl dX11_movePlanOn_31 ?_
    refine lv_bipush (v := 9) hx hb dX11_movePlanOn_34 (by decide) ?_
    refine lv_iconst (v := 0) hx hb dX11_movePlanOn_36 (by decide) ?_
    obtain ⟨h_6, hf⟩ := mb_chk_s hf
    obtain ⟨P0_5, e_, hf⟩ := mb_let_s hf
    refine va_iast hx hb hK hP hD hS 1 0 rfl rfl h_6 dX11_movePlanOn_37 (fun H locs hP hD hS => ?_)
    have hP : va_P D vwCl (wC_One k a0 P0_5) H := by rw [e_]; exact hP
    have hD : va_D A (wC_One k a0 P0_5) := by rw [e_]; exact hD
    clear e_
    have hz := Option.some.inj hf
    subst hz
    exact hret _ _ _ _ dX11_movePlanOn_38 hP hD hS
  have lp2_7 : ∀ (n : Nat) (x1_9 : Int32) (P0_10 : PI) (H : Heap) (locs : List Loc) (ls : Array Slot), f_One_movePlanOn_2 K30_3 n x1_9 P0_10 = some z → va_P D vwCl (wC_One k a0 P0_10) H → va_D A (wC_One k a0 P0_10) → va_S A s.heap H locs → lv_has ls 2 [(0, .ref (a0 0 0)), (1, .int x1_9)] → W p l e rm_One_movePlanOn s m args below meth c H locs 0 0 Q (F0 m 2 ls []) := by
    intro n
    induction n with
    | zero =>
      intro x1_9 P0_10 H locs ls hf
      exact nomatch (show (none : Option (PI)) = some z from hf)
    | succ n ih_8 =>
      intro x1_9 P0_10 H locs ls hf hP hD hS hl
      have hf : f_One_movePlanOn_2_b K30_3 (f_One_movePlanOn_2 K30_3 n) x1_9 P0_10 = some z := hf
      unfold f_One_movePlanOn_2_b at hf
      refine lv_iload_n hx hb dX11_movePlanOn_2 rfl (lv_at hl 1 rfl) ?_
      refine lv_iconst (v := 1) hx hb dX11_movePlanOn_3 (by decide) ?_
      refine lv_iadd hx hb dX11_movePlanOn_4 ?_
      refine lv_bipush (v := 10) hx hb dX11_movePlanOn_5 (by decide) ?_
      refine lv_icmp_ge (tgt := 30) hx hb dX11_movePlanOn_7 (by decide) (fun c_16 => ?_) (fun c_16 => ?_)
      · have hf := mb_if_t c_16 hf
        exact k30_4 P0_10 _ _ _ hf hP hD hS (lv_sub hl [0] rfl)
      · have hf := mb_if_f c_16 hf
        refine lv_aload_n hx hb dX11_movePlanOn_10 rfl (lv_at hl 0 rfl) ?_
        refine va_get (D := D) (ci := 11) (v := .ref (a0 0 12)) (C := RX11) (T := TX11) (N := 16) hx hb hts iw_One hown hK hP 0 rfl rfl 11 (by decide) fl_86 (fun _ h9 => h9) rfl dX11_movePlanOn_11 ?_
        refine lv_iload_n hx hb dX11_movePlanOn_14 rfl (lv_at hl 1 rfl) ?_
        refine lv_aload_n hx hb dX11_movePlanOn_15 rfl (lv_at hl 0 rfl) ?_
        refine va_get (D := D) (ci := 11) (v := .ref (a0 0 12)) (C := RX11) (T := TX11) (N := 16) hx hb hts iw_One hown hK hP 0 rfl rfl 11 (by decide) fl_86 (fun _ h9 => h9) rfl dX11_movePlanOn_16 ?_
        refine lv_iload_n hx hb dX11_movePlanOn_19 rfl (lv_at hl 1 rfl) ?_
        refine lv_iconst (v := 1) hx hb dX11_movePlanOn_20 (by decide) ?_
        refine lv_iadd hx hb dX11_movePlanOn_21 ?_
        obtain ⟨h_12, hf⟩ := mb_chk_s hf
        refine va_iald hx hb hK hP 1 0 rfl rfl h_12 dX11_movePlanOn_22 ?_
        obtain ⟨h_14, hf⟩ := mb_chk_s hf
        obtain ⟨P0_13, e_, hf⟩ := mb_let_s hf
        refine va_iast hx hb hK hP hD hS 1 0 rfl rfl h_14 dX11_movePlanOn_23 (fun H locs hP hD hS => ?_)
        have hP : va_P D vwCl (wC_One k a0 P0_13) H := by rw [e_]; exact hP
        have hD : va_D A (wC_One k a0 P0_13) := by rw [e_]; exact hD
        clear e_
        obtain ⟨x1_15, e_, hf⟩ := mb_let_s hf
        refine lv_iinc (v := x1_15) (lv' := [(1, .int x1_15), (0, .ref (a0 0 0))]) hx hb dX11_movePlanOn_24 hl (k := 1) rfl (by rw [e_]; rfl) (by decide) rfl (fun ls hl => ?_)
        clear e_
        refine lv_goto (tgt := 2) hx hb dX11_movePlanOn_27 (by decide) ?_
        exact ih_8 x1_15 P0_13 _ _ _ hf hP hD hS (lv_sub hl [1, 0] rfl)
  exact lp2_7 mb_fu x1_1 P0 _ _ _ hf hP hD hS (lv_sub hl [1, 0] rfl)
def f_One_weeks_31_b (P1 : PI) (P2 : PI) (x1 : Int32) (self_9 : Int32 → PI → PI → PL → Option (Int32 × PI × PI × PL)) (x2_5 : Int32) (P0_6 : PI) (P3_7 : PI) (L3_8 : PL) : Option (Int32 × PI × PI × PL) := (if x1 ≤ x2_5 then some ((P3_7 0 1), P0_6, P3_7, L3_8) else mb_chk (0 : Int32) 10 (mb_bd2 (f_Rods_passWeek P3_7 L3_8 P1 P2 (P0_6 0 15) (P0_6 12 (0 : Int32).toNatClampNeg)) (fun (P3_11 : PI) (L3_12 : PL) => mb_bd1 (f_One_movePlanOn P0_6) (fun (P0_13 : PI) => mb_let (x2_5 + (1 : Int32)) (fun (x2_14 : Int32) => self_9 x2_14 P0_13 P3_11 L3_12)))))
def f_One_weeks_31 (P1 : PI) (P2 : PI) (x1 : Int32) : Nat → Int32 → PI → PI → PL → Option (Int32 × PI × PI × PL)
  | 0, _, _, _, _ => none
  | n + 1, x2_5, P0_6, P3_7, L3_8 => f_One_weeks_31_b P1 P2 x1 (f_One_weeks_31 P1 P2 x1 n) x2_5 P0_6 P3_7 L3_8
def f_One_weeks (P0 : PI) (P1 : PI) (P2 : PI) (P3 : PI) (L3 : PL) (x1 : Int32) : Option (Int32 × PI × PI × PL) := mb_bd1 (f_One_within x1 (1 : Int32) (20 : Int32)) (fun (r_1 : Int32) => (if r_1 = 0 then some ((-1 : Int32), P0, P3, L3) else (if ((P3 0 1) + x1) ≤ (100 : Int32) then mb_let (0 : Int32) (fun (x2_2 : Int32) => f_One_weeks_31 P1 P2 x1 mb_fu x2_2 P0 P3 L3) else some ((-3 : Int32), P0, P3, L3))))
def rm_One_weeks : Room := { frames := 5, cells := 0, slots := 0, locals := 134 }
set_option maxHeartbeats 4000000 in
set_option maxRecDepth 100000 in
theorem c_One_weeks (l : Launch) (D : va_G) (k : Nat → ClassId) (sz : Nat) (a0 : Nat → Nat → Nat) (P0 : PI) (P1 : PI) (P2 : PI) (P3 : PI) (L3 : PL) (x1 : Int32) (z : Int32 × PI × PI × PL) (hf : f_One_weeks P0 P1 P2 P3 L3 x1 = some z) : Met l yX11_weeks wsX11_weeks rm_One_weeks (va_Pc [.ref (a0 0 0), .int x1] (gw_pre D vwCl (tyL k) (wC_One k a0 P0 ++ (wC_Units k (a0 1) P1 ++ (wC_Decrees k (a0 7) P2 ++ (wC_Rods k (a0 9) P3 L3)))) sz)) (va_Qi (fun (r : Int32) (_ : Unit) => r = z.1) (gw_b D vwCl (tyL k) (va_A (wC_One k a0 P0 ++ (wC_Units k (a0 1) P1 ++ (wC_Decrees k (a0 7) P2 ++ (wC_Rods k (a0 9) P3 L3)))) sz) (wC_One k a0 z.2.1 ++ (wC_Units k (a0 1) P1 ++ (wC_Decrees k (a0 7) P2 ++ (wC_Rods k (a0 9) z.2.2.1 z.2.2.2))))) (va_A (wC_One k a0 P0 ++ (wC_Units k (a0 1) P1 ++ (wC_Decrees k (a0 7) P2 ++ (wC_Rods k (a0 9) P3 L3)))) sz)) 0 0 (va_A (wC_One k a0 P0 ++ (wC_Units k (a0 1) P1 ++ (wC_Decrees k (a0 7) P2 ++ (wC_Rods k (a0 9) P3 L3)))) sz) := by
  refine gm_i (cc := cX11_weeks) (maxL := 3) (by decide) rfl (Nat.le_of_ble_eq_true rfl) ?_
  intro p e s m args below meth c A Q ls H locs hx hb hml hown hts hK hN hA hP hD hS hl hret
  have hown : s.vm.findClass RX11 = some m.cls := hown
  have hl : lv_has ls 3 [(0, .ref (a0 0 0)), (1, .int x1)] := hl
  have iw_One : ∀ w ∈ u_ws RX11 TX11 16, w ∈ wsX11_weeks := by decide +kernel
  have iw_Rods : ∀ w ∈ u_ws RX4 TX4 13, w ∈ wsX11_weeks := by decide +kernel
  have fl_10 := hts (.fieldLink RX11 10 "OneMeasure" "units" "LOneMeasure$Units;") (by decide +kernel)
  have fl_54 := hts (.fieldLink RX11 54 "OneMeasure" "decrees" "LOneMeasure$Decrees;") (by decide +kernel)
  have fl_68 := hts (.fieldLink RX11 68 "OneMeasure" "rods" "LOneMeasure$Rods;") (by decide +kernel)
  have fl_86 := hts (.fieldLink RX11 86 "OneMeasure" "visits" "[I") (by decide +kernel)
  have fl_102 := hts (.fieldLink RX11 102 "OneMeasure" "tolerance" "I") (by decide +kernel)
  have fl_261 := hts (.fieldLink RX11 261 "OneMeasure$Rods" "week" "I") (by decide +kernel)
  unfold f_One_weeks at hf
  refine lv_iload_n hx hb dX11_weeks_0 rfl (lv_at hl 1 rfl) ?_
  refine lv_iconst (v := 1) hx hb dX11_weeks_1 (by decide) ?_
  refine lv_bipush (v := 20) hx hb dX11_weeks_2 (by decide) ?_
  obtain ⟨r_1, hz, hf⟩ := mb_bd1_s hf
  refine gc_i (r0 := r_1) (ws' := (wC_One k a0 P0 ++ (wC_Units k (a0 1) P1 ++ (wC_Decrees k (a0 7) P2 ++ (wC_Rods k (a0 9) P3 L3))))) (wr := (wC_One k a0 P0 ++ (wC_Units k (a0 1) P1 ++ (wC_Decrees k (a0 7) P2 ++ (wC_Rods k (a0 9) P3 L3))))) (va_runS (As := [.int x1, .int (1 : Int32), .int (20 : Int32)]) (rest := []) ⟨hx, hb, hml, hown, hts⟩ (c_One_within l D k H.size x1 (1 : Int32) (20 : Int32) r_1 hz) (cwS 3 hts gX11_weeks_X11_within rfl rfl rfl (by decide +kernel) ⟨Nat.le_of_ble_eq_true rfl, Nat.le_of_ble_eq_true rfl⟩) (gp_S hP hD hK hN [] (by decide +kernel) rfl) rfl rfl hl.1 rfl (lv_room (Nat.le_of_ble_eq_true rfl)) dX11_weeks_4 ⟨Nat.zero_le _, Nat.zero_le _⟩) hP hD hS hA [] [0, 1, 2, 3, 4, 5, 6, 7, 8, 9, 10, 11, 12, 13, 14, 15, 16, 17, 18, 19, 20, 21, 22, 23, 24, 25] rfl rfl (by decide +kernel) (by decide +kernel) [0, 1, 2, 3, 4, 5, 6, 7, 8, 9, 10, 11, 12, 13, 14, 15, 16, 17, 18, 19, 20, 21, 22, 23, 24, 25] (by decide +kernel) rfl (fun H locs hP hD hS => ?_)
  clear hz
  refine lv_if_ne (tgt := 12) hx hb dX11_weeks_7 (by decide) (fun c_17 => ?_) (fun c_17 => ?_)
  · have hf := mb_if_f c_17 hf
    refine lv_aload_n hx hb dX11_weeks_12 rfl (lv_at hl 0 rfl) ?_
    refine va_get (D := D) (ci := 11) (v := .ref (a0 9 0)) (C := RX11) (T := TX11) (N := 16) hx hb hts iw_One hown hK hP 0 rfl rfl 8 (by decide) fl_68 (fun _ h9 => h9) rfl dX11_weeks_13 ?_
    refine va_get (D := D) (ci := 4) (v := .int (P3 0 1)) (C := RX4) (T := TX4) (N := 13) hx hb hts iw_Rods hown hK hP 14 rfl rfl 1 (by decide) fl_261 (fun _ h9 => h9) rfl dX11_weeks_16 ?_
    refine lv_iload_n hx hb dX11_weeks_19 rfl (lv_at hl 1 rfl) ?_
    refine lv_iadd hx hb dX11_weeks_20 ?_
    refine lv_bipush (v := 100) hx hb dX11_weeks_21 (by decide) ?_
    refine lv_icmp_le (tgt := 29) hx hb dX11_weeks_23 (by decide) (fun c_16 => ?_) (fun c_16 => ?_)
    · have hf := mb_if_t c_16 hf
      refine lv_iconst (v := 0) hx hb dX11_weeks_29 (by decide) ?_
      obtain ⟨x2_2, e_, hf⟩ := mb_let_s hf
      refine mb_topi e_ ?_
      clear e_
      refine lv_istore_n (lv' := [(2, .int x2_2), (0, .ref (a0 0 0)), (1, .int x1)]) hx hb dX11_weeks_30 rfl hl (by decide) rfl (fun ls hl => ?_)
      have lp31_3 : ∀ (n : Nat) (x2_5 : Int32) (P0_6 : PI) (P3_7 : PI) (L3_8 : PL) (H : Heap) (locs : List Loc) (ls : Array Slot), f_One_weeks_31 P1 P2 x1 n x2_5 P0_6 P3_7 L3_8 = some z → va_P D vwCl (wC_One k a0 P0_6 ++ (wC_Units k (a0 1) P1 ++ (wC_Decrees k (a0 7) P2 ++ (wC_Rods k (a0 9) P3_7 L3_8)))) H → va_D A (wC_One k a0 P0_6 ++ (wC_Units k (a0 1) P1 ++ (wC_Decrees k (a0 7) P2 ++ (wC_Rods k (a0 9) P3_7 L3_8)))) → va_S A s.heap H locs → lv_has ls 3 [(0, .ref (a0 0 0)), (1, .int x1), (2, .int x2_5)] → W p l e rm_One_weeks s m args below meth c H locs 0 0 Q (F0 m 31 ls []) := by
        intro n
        induction n with
        | zero =>
          intro x2_5 P0_6 P3_7 L3_8 H locs ls hf
          exact nomatch (show (none : Option (Int32 × PI × PI × PL)) = some z from hf)
        | succ n ih_4 =>
          intro x2_5 P0_6 P3_7 L3_8 H locs ls hf hP hD hS hl
          have hf : f_One_weeks_31_b P1 P2 x1 (f_One_weeks_31 P1 P2 x1 n) x2_5 P0_6 P3_7 L3_8 = some z := hf
          unfold f_One_weeks_31_b at hf
          refine lv_iload_n hx hb dX11_weeks_31 rfl (lv_at hl 2 rfl) ?_
          refine lv_iload_n hx hb dX11_weeks_32 rfl (lv_at hl 1 rfl) ?_
          refine lv_icmp_ge (tgt := 71) hx hb dX11_weeks_33 (by decide) (fun c_15 => ?_) (fun c_15 => ?_)
          · have hf := mb_if_t c_15 hf
            refine lv_aload_n hx hb dX11_weeks_71 rfl (lv_at hl 0 rfl) ?_
            refine va_get (D := D) (ci := 11) (v := .ref (a0 9 0)) (C := RX11) (T := TX11) (N := 16) hx hb hts iw_One hown hK hP 0 rfl rfl 8 (by decide) fl_68 (fun _ h9 => h9) rfl dX11_weeks_72 ?_
            refine va_get (D := D) (ci := 4) (v := .int (P3_7 0 1)) (C := RX4) (T := TX4) (N := 13) hx hb hts iw_Rods hown hK hP 14 rfl rfl 1 (by decide) fl_261 (fun _ h9 => h9) rfl dX11_weeks_75 ?_
            have hz := Option.some.inj hf
            subst hz
            exact hret _ _ _ _ dX11_weeks_78 hP hD hS
          · have hf := mb_if_f c_15 hf
            refine lv_aload_n hx hb dX11_weeks_36 rfl (lv_at hl 0 rfl) ?_
            refine va_get (D := D) (ci := 11) (v := .ref (a0 9 0)) (C := RX11) (T := TX11) (N := 16) hx hb hts iw_One hown hK hP 0 rfl rfl 8 (by decide) fl_68 (fun _ h9 => h9) rfl dX11_weeks_37 ?_
            refine lv_aload_n hx hb dX11_weeks_40 rfl (lv_at hl 0 rfl) ?_
            refine va_get (D := D) (ci := 11) (v := .ref (a0 1 0)) (C := RX11) (T := TX11) (N := 16) hx hb hts iw_One hown hK hP 0 rfl rfl 0 (by decide) fl_10 (fun _ h9 => h9) rfl dX11_weeks_41 ?_
            refine lv_aload_n hx hb dX11_weeks_44 rfl (lv_at hl 0 rfl) ?_
            refine va_get (D := D) (ci := 11) (v := .ref (a0 7 0)) (C := RX11) (T := TX11) (N := 16) hx hb hts iw_One hown hK hP 0 rfl rfl 6 (by decide) fl_54 (fun _ h9 => h9) rfl dX11_weeks_45 ?_
            refine lv_aload_n hx hb dX11_weeks_48 rfl (lv_at hl 0 rfl) ?_
            refine va_get (D := D) (ci := 11) (v := .int (P0_6 0 15)) (C := RX11) (T := TX11) (N := 16) hx hb hts iw_One hown hK hP 0 rfl rfl 15 (by decide) fl_102 (fun _ h9 => h9) rfl dX11_weeks_49 ?_
            refine lv_aload_n hx hb dX11_weeks_52 rfl (lv_at hl 0 rfl) ?_
            refine va_get (D := D) (ci := 11) (v := .ref (a0 0 12)) (C := RX11) (T := TX11) (N := 16) hx hb hts iw_One hown hK hP 0 rfl rfl 11 (by decide) fl_86 (fun _ h9 => h9) rfl dX11_weeks_53 ?_
            refine lv_iconst (v := 0) hx hb dX11_weeks_56 (by decide) ?_
            obtain ⟨h_10, hf⟩ := mb_chk_s hf
            refine va_iald hx hb hK hP 1 0 rfl rfl h_10 dX11_weeks_57 ?_
            obtain ⟨P3_11, L3_12, hz, hf⟩ := mb_bd2_s hf
            refine gc_v (ws' := (wC_One k a0 P0_6 ++ (wC_Units k (a0 1) P1 ++ (wC_Decrees k (a0 7) P2 ++ (wC_Rods k (a0 9) P3_11 L3_12))))) (wr := (wC_One k a0 P0_6)) (va_runV (As := [.ref (a0 1 0), .ref (a0 7 0), .int (P0_6 0 15), .int (P0_6 12 (0 : Int32).toNatClampNeg)]) (rest := []) ⟨hx, hb, hml, hown, hts⟩ (c_Rods_passWeek l D k H.size (a0 9) (a0 1) (a0 7) P3_7 L3_8 P1 P2 (P0_6 0 15) (P0_6 12 (0 : Int32).toNatClampNeg) (P3_11, L3_12) hz) (cwV 4 hts gX11_weeks_X4_passWeek rfl rfl rfl (by decide +kernel) ⟨Nat.le_of_ble_eq_true rfl, Nat.le_of_ble_eq_true rfl⟩) (gp_V (ci := 4) (q0 := 0) (q := (RX4, TX4, 13)) hP hD hK hN [14, 15, 16, 17, 18, 19, 20, 21, 22, 23, 24, 25, 4, 5, 6, 7, 8, 9, 10, 11, 12, 13] (by decide +kernel) rfl rfl rfl) rfl rfl hl.1 rfl (lv_room (Nat.le_of_ble_eq_true rfl)) dX11_weeks_58 ⟨Nat.zero_le _, Nat.zero_le _⟩) hP hD hS hA [14, 15, 16, 17, 18, 19, 20, 21, 22, 23, 24, 25, 4, 5, 6, 7, 8, 9, 10, 11, 12, 13] [0, 1, 2, 3] rfl rfl (by decide +kernel) (by decide +kernel) [0, 1, 2, 3, 16, 17, 18, 19, 20, 21, 22, 23, 24, 25, 4, 5, 6, 7, 8, 9, 10, 11, 12, 13, 14, 15] (by decide +kernel) rfl (fun H locs hP hD hS => ?_)
            clear hz
            refine lv_aload_n hx hb dX11_weeks_61 rfl (lv_at hl 0 rfl) ?_
            obtain ⟨P0_13, hz, hf⟩ := mb_bd1_s hf
            refine gc_v (ws' := (wC_One k a0 P0_13 ++ (wC_Units k (a0 1) P1 ++ (wC_Decrees k (a0 7) P2 ++ (wC_Rods k (a0 9) P3_11 L3_12))))) (wr := (wC_Units k (a0 1) P1 ++ (wC_Decrees k (a0 7) P2 ++ (wC_Rods k (a0 9) P3_11 L3_12)))) (va_runV (As := []) (rest := []) ⟨hx, hb, hml, hown, hts⟩ (c_One_movePlanOn l D k H.size a0 P0_6 P0_13 hz) (cwV 0 hts gX11_weeks_X11_movePlanOn rfl rfl rfl (by decide +kernel) ⟨Nat.le_of_ble_eq_true rfl, Nat.le_of_ble_eq_true rfl⟩) (gp_V (ci := 11) (q0 := 0) (q := (RX11, TX11, 16)) hP hD hK hN [0, 1, 2, 3] (by decide +kernel) rfl rfl rfl) rfl rfl hl.1 rfl (lv_room (Nat.le_of_ble_eq_true rfl)) dX11_weeks_62 ⟨Nat.zero_le _, Nat.zero_le _⟩) hP hD hS hA [0, 1, 2, 3] [4, 5, 6, 7, 8, 9, 10, 11, 12, 13, 14, 15, 16, 17, 18, 19, 20, 21, 22, 23, 24, 25] rfl rfl (by decide +kernel) (by decide +kernel) [22, 23, 24, 25, 0, 1, 2, 3, 4, 5, 6, 7, 8, 9, 10, 11, 12, 13, 14, 15, 16, 17, 18, 19, 20, 21] (by decide +kernel) rfl (fun H locs hP hD hS => ?_)
            clear hz
            obtain ⟨x2_14, e_, hf⟩ := mb_let_s hf
            refine lv_iinc (v := x2_14) (lv' := [(2, .int x2_14), (0, .ref (a0 0 0)), (1, .int x1)]) hx hb dX11_weeks_65 hl (k := 2) rfl (by rw [e_]; rfl) (by decide) rfl (fun ls hl => ?_)
            clear e_
            refine lv_goto (tgt := 31) hx hb dX11_weeks_68 (by decide) ?_
            exact ih_4 x2_14 P0_13 P3_11 L3_12 _ _ _ hf hP hD hS (lv_sub hl [1, 2, 0] rfl)
      exact lp31_3 mb_fu x2_2 P0 P3 L3 _ _ _ hf hP hD hS (lv_sub hl [1, 2, 0] rfl)
    · have hf := mb_if_f c_16 hf
      refine lv_bipush (v := (-3)) hx hb dX11_weeks_26 (by decide) ?_
      have hz := Option.some.inj hf
      subst hz
      exact hret _ _ _ _ dX11_weeks_28 hP hD hS
  · have hf := mb_if_t c_17 hf
    refine lv_iconst (v := (-1)) hx hb dX11_weeks_10 (by decide) ?_
    have hz := Option.some.inj hf
    subst hz
    exact hret _ _ _ _ dX11_weeks_11 hP hD hS
def f_Rods_told (P0 : PI) (x1 : Int32) : Option (Int32) := (if x1 < 0 then some (0 : Int32) else (if (P0 0 0) ≤ x1 then some (0 : Int32) else some (1 : Int32)))
def rm_Rods_told : Room := { frames := 0, cells := 0, slots := 0, locals := 0 }
set_option maxHeartbeats 4000000 in
set_option maxRecDepth 100000 in
theorem c_Rods_told (l : Launch) (D : va_G) (k : Nat → ClassId) (sz : Nat) (b0 : Nat → Nat) (P0 : PI) (L0 : PL) (x1 : Int32) (z : Int32) (hf : f_Rods_told P0 x1 = some z) : Met l yX4_told wsX4_told rm_Rods_told (va_Pc [.ref (b0 0), .int x1] (gw_pre D vwCl (tyL k) (wC_Rods k b0 P0 L0) sz)) (va_Qi (fun (r : Int32) (_ : Unit) => r = z) (gw_b D vwCl (tyL k) (va_A (wC_Rods k b0 P0 L0) sz) (wC_Rods k b0 P0 L0)) (va_A (wC_Rods k b0 P0 L0) sz)) 0 0 (va_A (wC_Rods k b0 P0 L0) sz) := by
  refine gm_z (cc := cX4_told) (maxL := 2) (by decide) rfl (Nat.le_of_ble_eq_true rfl) ?_
  intro p e s m args below meth c A Q ls H locs hx hb hml hown hts hK hN hA hP hD hS hl hret
  have hown : s.vm.findClass RX4 = some m.cls := hown
  have hl : lv_has ls 2 [(0, .ref (b0 0)), (1, .int x1)] := hl
  have iw_Rods : ∀ w ∈ u_ws RX4 TX4 13, w ∈ wsX4_told := by decide +kernel
  have fl_9 := hts (.fieldLink RX4 9 "OneMeasure$Rods" "count" "I") (by decide +kernel)
  unfold f_Rods_told at hf
  refine lv_iload_n hx hb dX4_told_0 rfl (lv_at hl 1 rfl) ?_
  refine lv_if_lt (tgt := 16) hx hb dX4_told_1 (by decide) (fun c_2 => ?_) (fun c_2 => ?_)
  · have hf := mb_if_t c_2 hf
    refine lv_iconst (v := 0) hx hb dX4_told_16 (by decide) ?_
    have hz := Option.some.inj hf
    subst hz
    exact hret _ _ _ _ mb_n0 dX4_told_17 hP hD hS
  · have hf := mb_if_f c_2 hf
    refine lv_iload_n hx hb dX4_told_4 rfl (lv_at hl 1 rfl) ?_
    refine lv_aload_n hx hb dX4_told_5 rfl (lv_at hl 0 rfl) ?_
    refine va_get (D := D) (ci := 4) (v := .int (P0 0 0)) (C := RX4) (T := TX4) (N := 13) hx hb hts iw_Rods hown hK hP 0 rfl rfl 0 (by decide) fl_9 (fun _ h9 => h9) rfl dX4_told_6 ?_
    refine lv_icmp_ge (tgt := 16) hx hb dX4_told_9 (by decide) (fun c_1 => ?_) (fun c_1 => ?_)
    · have hf := mb_if_t c_1 hf
      refine lv_iconst (v := 0) hx hb dX4_told_16 (by decide) ?_
      have hz := Option.some.inj hf
      subst hz
      exact hret _ _ _ _ mb_n0 dX4_told_17 hP hD hS
    · have hf := mb_if_f c_1 hf
      refine lv_iconst (v := 1) hx hb dX4_told_12 (by decide) ?_
      refine lv_goto (tgt := 17) hx hb dX4_told_13 (by decide) ?_
      have hz := Option.some.inj hf
      subst hz
      exact hret _ _ _ _ mb_n1 dX4_told_17 hP hD hS
def f_Rods_falseSince_16_b (P0 : PI) (x1 : Int32) (x2 : Int32) (K39_4 : Int32 → Option (Int32)) (self_10 : Int32 → Option (Int32)) (x3_9 : Int32) : Option (Int32) := mb_chk x1 12 ((if (P0 8 x1.toNatClampNeg) ≤ x3_9 then some (-1000 : Int32) else mb_bd1 (f_Rods_offAfter P0 x1 x3_9) (fun (r_12 : Int32) => mb_let (if 0 ≤ r_12 then r_12 else 0 - r_12) (fun (v_13 : Int32) => (if v_13 ≤ x2 then mb_let (x3_9 + (1 : Int32)) (fun (x3_14 : Int32) => self_10 x3_14) else K39_4 x3_9)))))
def f_Rods_falseSince_16 (P0 : PI) (x1 : Int32) (x2 : Int32) (K39_4 : Int32 → Option (Int32)) : Nat → Int32 → Option (Int32)
  | 0, _ => none
  | n + 1, x3_9 => f_Rods_falseSince_16_b P0 x1 x2 K39_4 (f_Rods_falseSince_16 P0 x1 x2 K39_4 n) x3_9
def f_Rods_falseSince (P0 : PI) (x1 : Int32) (x2 : Int32) : Option (Int32) := mb_chk x1 12 ((if (1 : Int32) ≤ (P0 9 x1.toNatClampNeg) then mb_let (0 : Int32) (fun (x3_2 : Int32) => mb_jn (fun (x3_3 : Int32) => mb_chk x1 12 (some ((P0 7 x1.toNatClampNeg) + x3_3))) (fun K39_4 => f_Rods_falseSince_16 P0 x1 x2 K39_4 mb_fu x3_2)) else some (-1000 : Int32)))
def rm_Rods_falseSince : Room := { frames := 2, cells := 0, slots := 0, locals := 62 }
set_option maxHeartbeats 4000000 in
set_option maxRecDepth 100000 in
theorem c_Rods_falseSince (l : Launch) (D : va_G) (k : Nat → ClassId) (sz : Nat) (b0 : Nat → Nat) (P0 : PI) (L0 : PL) (x1 : Int32) (x2 : Int32) (z : Int32) (hf : f_Rods_falseSince P0 x1 x2 = some z) : Met l yX4_falseSince wsX4_falseSince rm_Rods_falseSince (va_Pc [.ref (b0 0), .int x1, .int x2] (gw_pre D vwCl (tyL k) (wC_Rods k b0 P0 L0) sz)) (va_Qi (fun (r : Int32) (_ : Unit) => r = z) (gw_b D vwCl (tyL k) (va_A (wC_Rods k b0 P0 L0) sz) (wC_Rods k b0 P0 L0)) (va_A (wC_Rods k b0 P0 L0) sz)) 0 0 (va_A (wC_Rods k b0 P0 L0) sz) := by
  refine gm_i (cc := cX4_falseSince) (maxL := 4) (by decide) rfl (Nat.le_of_ble_eq_true rfl) ?_
  intro p e s m args below meth c A Q ls H locs hx hb hml hown hts hK hN hA hP hD hS hl hret
  have hown : s.vm.findClass RX4 = some m.cls := hown
  have hl : lv_has ls 4 [(0, .ref (b0 0)), (1, .int x1), (2, .int x2)] := hl
  have iw_Rods : ∀ w ∈ u_ws RX4 TX4 13, w ∈ wsX4_falseSince := by decide +kernel
  have fl_31 := hts (.fieldLink RX4 31 "OneMeasure$Rods" "firstWeek" "[I") (by decide +kernel)
  have fl_34 := hts (.fieldLink RX4 34 "OneMeasure$Rods" "worn" "[I") (by decide +kernel)
  have fl_37 := hts (.fieldLink RX4 37 "OneMeasure$Rods" "sales" "[I") (by decide +kernel)
  have ml_69 := hts (.methodLink RX4 69 Lib.Math.abs.name) (by decide +kernel)
  have absI_st := hts (.static Lib.Math.abs.name) (by decide +kernel)
  have ma_ini := hts (.initialized "java/lang/Math") (by decide +kernel)
  have absI_code := hts (.code Lib.Math.abs.name Lib.Math.abs.code 1 (some .int)) (by decide +kernel)
  unfold f_Rods_falseSince at hf
  refine lv_aload_n hx hb dX4_falseSince_0 rfl (lv_at hl 0 rfl) ?_
  refine va_get (D := D) (ci := 4) (v := .ref (b0 9)) (C := RX4) (T := TX4) (N := 13) hx hb hts iw_Rods hown hK hP 0 rfl rfl 8 (by decide) fl_37 (fun _ h9 => h9) rfl dX4_falseSince_1 ?_
  refine lv_iload_n hx hb dX4_falseSince_4 rfl (lv_at hl 1 rfl) ?_
  obtain ⟨h_1, hf⟩ := mb_chk_s hf
  refine va_iald hx hb hK hP 7 0 rfl rfl h_1 dX4_falseSince_5 ?_
  refine lv_iconst (v := 1) hx hb dX4_falseSince_6 (by decide) ?_
  refine lv_icmp_ge (tgt := 14) hx hb dX4_falseSince_7 (by decide) (fun c_17 => ?_) (fun c_17 => ?_)
  · have hf := mb_if_t c_17 hf
    refine lv_iconst (v := 0) hx hb dX4_falseSince_14 (by decide) ?_
    obtain ⟨x3_2, e_, hf⟩ := mb_let_s hf
    refine mb_topi e_ ?_
    clear e_
    refine lv_istore_n (lv' := [(3, .int x3_2), (0, .ref (b0 0)), (1, .int x1), (2, .int x2)]) hx hb dX4_falseSince_15 rfl hl (by decide) rfl (fun ls hl => ?_)
    obtain ⟨K39_4, eK39_4, hf⟩ := mb_jn_s hf
    have k39_5 : ∀ (x3_3 : Int32) (H : Heap) (locs : List Loc) (ls : Array Slot), K39_4 x3_3 = some z → va_P D vwCl (wC_Rods k b0 P0 L0) H → va_D A (wC_Rods k b0 P0 L0) → va_S A s.heap H locs → lv_has ls 4 [(0, .ref (b0 0)), (1, .int x1), (3, .int x3_3)] → W p l e rm_Rods_falseSince s m args below meth c H locs 0 0 Q (F0 m 39 ls []) := by
      intro x3_3 H locs ls hf hP hD hS hl
      have hf := mb_j1 eK39_4 hf
      refine lv_aload_n hx hb dX4_falseSince_39 rfl (lv_at hl 0 rfl) ?_
      refine va_get (D := D) (ci := 4) (v := .ref (b0 7)) (C := RX4) (T := TX4) (N := 13) hx hb hts iw_Rods hown hK hP 0 rfl rfl 6 (by decide) fl_31 (fun _ h9 => h9) rfl dX4_falseSince_40 ?_
      refine lv_iload_n hx hb dX4_falseSince_43 rfl (lv_at hl 1 rfl) ?_
      obtain ⟨h_6, hf⟩ := mb_chk_s hf
      refine va_iald hx hb hK hP 5 0 rfl rfl h_6 dX4_falseSince_44 ?_
      refine lv_iload_n hx hb dX4_falseSince_45 rfl (lv_at hl 2 rfl) ?_
      refine lv_iadd hx hb dX4_falseSince_46 ?_
      have hz := Option.some.inj hf
      subst hz
      exact hret _ _ _ _ dX4_falseSince_47 hP hD hS
    have lp16_7 : ∀ (n : Nat) (x3_9 : Int32) (H : Heap) (locs : List Loc) (ls : Array Slot), f_Rods_falseSince_16 P0 x1 x2 K39_4 n x3_9 = some z → va_P D vwCl (wC_Rods k b0 P0 L0) H → va_D A (wC_Rods k b0 P0 L0) → va_S A s.heap H locs → lv_has ls 4 [(0, .ref (b0 0)), (1, .int x1), (2, .int x2), (3, .int x3_9)] → W p l e rm_Rods_falseSince s m args below meth c H locs 0 0 Q (F0 m 16 ls []) := by
      intro n
      induction n with
      | zero =>
        intro x3_9 H locs ls hf
        exact nomatch (show (none : Option (Int32)) = some z from hf)
      | succ n ih_8 =>
        intro x3_9 H locs ls hf hP hD hS hl
        have hf : f_Rods_falseSince_16_b P0 x1 x2 K39_4 (f_Rods_falseSince_16 P0 x1 x2 K39_4 n) x3_9 = some z := hf
        unfold f_Rods_falseSince_16_b at hf
        refine lv_iload_n hx hb dX4_falseSince_16 rfl (lv_at hl 3 rfl) ?_
        refine lv_aload_n hx hb dX4_falseSince_17 rfl (lv_at hl 0 rfl) ?_
        refine va_get (D := D) (ci := 4) (v := .ref (b0 8)) (C := RX4) (T := TX4) (N := 13) hx hb hts iw_Rods hown hK hP 0 rfl rfl 7 (by decide) fl_34 (fun _ h9 => h9) rfl dX4_falseSince_18 ?_
        refine lv_iload_n hx hb dX4_falseSince_21 rfl (lv_at hl 1 rfl) ?_
        obtain ⟨h_11, hf⟩ := mb_chk_s hf
        refine va_iald hx hb hK hP 6 0 rfl rfl h_11 dX4_falseSince_22 ?_
        refine lv_icmp_ge (tgt := 54) hx hb dX4_falseSince_23 (by decide) (fun c_16 => ?_) (fun c_16 => ?_)
        · have hf := mb_if_t c_16 hf
          refine lv_sipush (v := (-1000)) hx hb dX4_falseSince_54 (by decide) ?_
          have hz := Option.some.inj hf
          subst hz
          exact hret _ _ _ _ dX4_falseSince_57 hP hD hS
        · have hf := mb_if_f c_16 hf
          refine lv_aload_n hx hb dX4_falseSince_26 rfl (lv_at hl 0 rfl) ?_
          refine lv_iload_n hx hb dX4_falseSince_27 rfl (lv_at hl 1 rfl) ?_
          refine lv_iload_n hx hb dX4_falseSince_28 rfl (lv_at hl 3 rfl) ?_
          obtain ⟨r_12, hz, hf⟩ := mb_bd1_s hf
          refine gc_i (r0 := r_12) (ws' := (wC_Rods k b0 P0 L0)) (wr := ([] : va_W)) (va_runV (As := [.int x1, .int x3_9]) (rest := []) ⟨hx, hb, hml, hown, hts⟩ (c_Rods_offAfter l D k H.size b0 P0 L0 x1 x3_9 r_12 hz) (cwV 2 hts gX4_falseSince_X4_offAfter rfl rfl rfl (by decide +kernel) ⟨Nat.le_of_ble_eq_true rfl, Nat.le_of_ble_eq_true rfl⟩) (gp_V (ci := 4) (q0 := 0) (q := (RX4, TX4, 13)) hP hD hK hN [0, 1, 2, 3, 4, 5, 6, 7, 8, 9, 10, 11] (by decide +kernel) rfl rfl rfl) rfl rfl hl.1 rfl (lv_room (Nat.le_of_ble_eq_true rfl)) dX4_falseSince_29 ⟨Nat.zero_le _, Nat.zero_le _⟩) hP hD hS hA [0, 1, 2, 3, 4, 5, 6, 7, 8, 9, 10, 11] [] rfl rfl (by decide +kernel) (by decide +kernel) [0, 1, 2, 3, 4, 5, 6, 7, 8, 9, 10, 11] (by decide +kernel) rfl (fun H locs hP hD hS => ?_)
          clear hz
          obtain ⟨v_13, e_, hf⟩ := mb_let_s hf
          refine va_mabs hx hb (hml.trans hl.1.symm) hown ml_69 absI_st ma_ini absI_code (Nat.le_of_ble_eq_true rfl) (Nat.le_of_ble_eq_true rfl) (Nat.zero_le _) (Nat.zero_le _) dX4_falseSince_32 ?_
          refine mb_topi e_ ?_
          clear e_
          refine lv_iload_n hx hb dX4_falseSince_35 rfl (lv_at hl 2 rfl) ?_
          refine lv_icmp_le (tgt := 48) hx hb dX4_falseSince_36 (by decide) (fun c_15 => ?_) (fun c_15 => ?_)
          · have hf := mb_if_t c_15 hf
            obtain ⟨x3_14, e_, hf⟩ := mb_let_s hf
            refine lv_iinc (v := x3_14) (lv' := [(3, .int x3_14), (0, .ref (b0 0)), (1, .int x1), (2, .int x2)]) hx hb dX4_falseSince_48 hl (k := 3) rfl (by rw [e_]; rfl) (by decide) rfl (fun ls hl => ?_)
            clear e_
            refine lv_goto (tgt := 16) hx hb dX4_falseSince_51 (by decide) ?_
            exact ih_8 x3_14 _ _ _ hf hP hD hS (lv_sub hl [1, 2, 3, 0] rfl)
          · have hf := mb_if_f c_15 hf
            exact k39_5 x3_9 _ _ _ hf hP hD hS (lv_sub hl [0, 1, 3] rfl)
    exact lp16_7 mb_fu x3_2 _ _ _ hf hP hD hS (lv_sub hl [1, 2, 3, 0] rfl)
  · have hf := mb_if_f c_17 hf
    refine lv_sipush (v := (-1000)) hx hb dX4_falseSince_10 (by decide) ?_
    have hz := Option.some.inj hf
    subst hz
    exact hret _ _ _ _ dX4_falseSince_13 hP hD hS
def f_One_rodTold (P0 : PI) (P1 : PI) (x1 : Int32) (x2 : Int32) : Option (Int32) := mb_bd1 (f_Rods_told P1 x1) (fun (r_1 : Int32) => (if r_1 = 0 then some (-10000 : Int32) else mb_bd1 (f_One_within x2 (0 : Int32) (3 : Int32)) (fun (r_2 : Int32) => (if r_2 = 0 then some (-10000 : Int32) else (if x2 = (0 : Int32) then mb_chk x1 12 (mb_bd1 (f_Rods_offAfter P1 x1 (P1 8 x1.toNatClampNeg)) (fun (r_4 : Int32) => some r_4)) else (if x2 = (1 : Int32) then mb_chk x1 12 (some (P1 10 x1.toNatClampNeg)) else (if x2 = (2 : Int32) then mb_chk x1 12 (some (P1 11 x1.toNatClampNeg)) else mb_bd1 (f_Rods_falseSince P1 x1 (P0 0 15)) (fun (r_7 : Int32) => some r_7))))))))
def rm_One_rodTold : Room := { frames := 3, cells := 0, slots := 0, locals := 85 }
set_option maxHeartbeats 4000000 in
set_option maxRecDepth 100000 in
theorem c_One_rodTold (l : Launch) (D : va_G) (k : Nat → ClassId) (sz : Nat) (a0 : Nat → Nat → Nat) (P0 : PI) (P1 : PI) (L1 : PL) (x1 : Int32) (x2 : Int32) (z : Int32) (hf : f_One_rodTold P0 P1 x1 x2 = some z) : Met l yX11_rodTold wsX11_rodTold rm_One_rodTold (va_Pc [.ref (a0 0 0), .int x1, .int x2] (gw_pre D vwCl (tyL k) (wC_One k a0 P0 ++ (wC_Rods k (a0 9) P1 L1)) sz)) (va_Qi (fun (r : Int32) (_ : Unit) => r = z) (gw_b D vwCl (tyL k) (va_A (wC_One k a0 P0 ++ (wC_Rods k (a0 9) P1 L1)) sz) (wC_One k a0 P0 ++ (wC_Rods k (a0 9) P1 L1))) (va_A (wC_One k a0 P0 ++ (wC_Rods k (a0 9) P1 L1)) sz)) 0 0 (va_A (wC_One k a0 P0 ++ (wC_Rods k (a0 9) P1 L1)) sz) := by
  refine gm_i (cc := cX11_rodTold) (maxL := 3) (by decide) rfl (Nat.le_of_ble_eq_true rfl) ?_
  intro p e s m args below meth c A Q ls H locs hx hb hml hown hts hK hN hA hP hD hS hl hret
  have hown : s.vm.findClass RX11 = some m.cls := hown
  have hl : lv_has ls 3 [(0, .ref (a0 0 0)), (1, .int x1), (2, .int x2)] := hl
  have iw_One : ∀ w ∈ u_ws RX11 TX11 16, w ∈ wsX11_rodTold := by decide +kernel
  have iw_Rods : ∀ w ∈ u_ws RX4 TX4 13, w ∈ wsX11_rodTold := by decide +kernel
  have fl_68 := hts (.fieldLink RX11 68 "OneMeasure" "rods" "LOneMeasure$Rods;") (by decide +kernel)
  have fl_102 := hts (.fieldLink RX11 102 "OneMeasure" "tolerance" "I") (by decide +kernel)
  have fl_272 := hts (.fieldLink RX11 272 "OneMeasure$Rods" "worn" "[I") (by decide +kernel)
  have fl_279 := hts (.fieldLink RX11 279 "OneMeasure$Rods" "sealed" "[I") (by decide +kernel)
  have fl_282 := hts (.fieldLink RX11 282 "OneMeasure$Rods" "seized" "[I") (by decide +kernel)
  unfold f_One_rodTold at hf
  refine lv_aload_n hx hb dX11_rodTold_0 rfl (lv_at hl 0 rfl) ?_
  refine va_get (D := D) (ci := 11) (v := .ref (a0 9 0)) (C := RX11) (T := TX11) (N := 16) hx hb hts iw_One hown hK hP 0 rfl rfl 8 (by decide) fl_68 (fun _ h9 => h9) rfl dX11_rodTold_1 ?_
  refine lv_iload_n hx hb dX11_rodTold_4 rfl (lv_at hl 1 rfl) ?_
  obtain ⟨r_1, hz, hf⟩ := mb_bd1_s hf
  refine gc_i (r0 := r_1) (ws' := (wC_One k a0 P0 ++ (wC_Rods k (a0 9) P1 L1))) (wr := (wC_One k a0 P0)) (va_runV (As := [.int x1]) (rest := []) ⟨hx, hb, hml, hown, hts⟩ (c_Rods_told l D k H.size (a0 9) P1 L1 x1 r_1 hz) (cwV 1 hts gX11_rodTold_X4_told rfl rfl rfl (by decide +kernel) ⟨Nat.le_of_ble_eq_true rfl, Nat.le_of_ble_eq_true rfl⟩) (gp_V (ci := 4) (q0 := 0) (q := (RX4, TX4, 13)) hP hD hK hN [4, 5, 6, 7, 8, 9, 10, 11, 12, 13, 14, 15] (by decide +kernel) rfl rfl rfl) rfl rfl hl.1 rfl (lv_room (Nat.le_of_ble_eq_true rfl)) dX11_rodTold_5 ⟨Nat.zero_le _, Nat.zero_le _⟩) hP hD hS hA [4, 5, 6, 7, 8, 9, 10, 11, 12, 13, 14, 15] [0, 1, 2, 3] rfl rfl (by decide +kernel) (by decide +kernel) [0, 1, 2, 3, 4, 5, 6, 7, 8, 9, 10, 11, 12, 13, 14, 15] (by decide +kernel) rfl (fun H locs hP hD hS => ?_)
  clear hz
  refine lv_if_eq (tgt := 20) hx hb dX11_rodTold_8 (by decide) (fun c_12 => ?_) (fun c_12 => ?_)
  · have hf := mb_if_t c_12 hf
    refine lv_sipush (v := (-10000)) hx hb dX11_rodTold_20 (by decide) ?_
    have hz := Option.some.inj hf
    subst hz
    exact hret _ _ _ _ dX11_rodTold_23 hP hD hS
  · have hf := mb_if_f c_12 hf
    refine lv_iload_n hx hb dX11_rodTold_11 rfl (lv_at hl 2 rfl) ?_
    refine lv_iconst (v := 0) hx hb dX11_rodTold_12 (by decide) ?_
    refine lv_iconst (v := 3) hx hb dX11_rodTold_13 (by decide) ?_
    obtain ⟨r_2, hz, hf⟩ := mb_bd1_s hf
    refine gc_i (r0 := r_2) (ws' := (wC_One k a0 P0 ++ (wC_Rods k (a0 9) P1 L1))) (wr := (wC_One k a0 P0 ++ (wC_Rods k (a0 9) P1 L1))) (va_runS (As := [.int x2, .int (0 : Int32), .int (3 : Int32)]) (rest := []) ⟨hx, hb, hml, hown, hts⟩ (c_One_within l D k H.size x2 (0 : Int32) (3 : Int32) r_2 hz) (cwS 3 hts gX11_rodTold_X11_within rfl rfl rfl (by decide +kernel) ⟨Nat.le_of_ble_eq_true rfl, Nat.le_of_ble_eq_true rfl⟩) (gp_S hP hD hK hN [] (by decide +kernel) rfl) rfl rfl hl.1 rfl (lv_room (Nat.le_of_ble_eq_true rfl)) dX11_rodTold_14 ⟨Nat.zero_le _, Nat.zero_le _⟩) hP hD hS hA [] [0, 1, 2, 3, 4, 5, 6, 7, 8, 9, 10, 11, 12, 13, 14, 15] rfl rfl (by decide +kernel) (by decide +kernel) [0, 1, 2, 3, 4, 5, 6, 7, 8, 9, 10, 11, 12, 13, 14, 15] (by decide +kernel) rfl (fun H locs hP hD hS => ?_)
    clear hz
    refine lv_if_ne (tgt := 24) hx hb dX11_rodTold_17 (by decide) (fun c_11 => ?_) (fun c_11 => ?_)
    · have hf := mb_if_f c_11 hf
      refine lv_iload_n hx hb dX11_rodTold_24 rfl (lv_at hl 2 rfl) ?_
      by_cases c_8 : x2 = (0 : Int32)
      · have hf := mb_if_t c_8 hf
        refine lv_tableIn (tgt := 52) hx hb dX11_rodTold_25 (by rw [c_8]; decide) (by rw [c_8]; decide) (by rw [c_8]; rfl) (by decide) ?_
        refine lv_aload_n hx hb dX11_rodTold_52 rfl (lv_at hl 0 rfl) ?_
        refine va_get (D := D) (ci := 11) (v := .ref (a0 9 0)) (C := RX11) (T := TX11) (N := 16) hx hb hts iw_One hown hK hP 0 rfl rfl 8 (by decide) fl_68 (fun _ h9 => h9) rfl dX11_rodTold_53 ?_
        refine lv_iload_n hx hb dX11_rodTold_56 rfl (lv_at hl 1 rfl) ?_
        refine lv_aload_n hx hb dX11_rodTold_57 rfl (lv_at hl 0 rfl) ?_
        refine va_get (D := D) (ci := 11) (v := .ref (a0 9 0)) (C := RX11) (T := TX11) (N := 16) hx hb hts iw_One hown hK hP 0 rfl rfl 8 (by decide) fl_68 (fun _ h9 => h9) rfl dX11_rodTold_58 ?_
        refine va_get (D := D) (ci := 4) (v := .ref (a0 9 8)) (C := RX4) (T := TX4) (N := 13) hx hb hts iw_Rods hown hK hP 4 rfl rfl 7 (by decide) fl_272 (fun _ h9 => h9) rfl dX11_rodTold_61 ?_
        refine lv_iload_n hx hb dX11_rodTold_64 rfl (lv_at hl 1 rfl) ?_
        obtain ⟨h_3, hf⟩ := mb_chk_s hf
        refine va_iald hx hb hK hP 10 0 rfl rfl h_3 dX11_rodTold_65 ?_
        obtain ⟨r_4, hz, hf⟩ := mb_bd1_s hf
        refine gc_i (r0 := r_4) (ws' := (wC_One k a0 P0 ++ (wC_Rods k (a0 9) P1 L1))) (wr := (wC_One k a0 P0)) (va_runV (As := [.int x1, .int (P1 8 x1.toNatClampNeg)]) (rest := []) ⟨hx, hb, hml, hown, hts⟩ (c_Rods_offAfter l D k H.size (a0 9) P1 L1 x1 (P1 8 x1.toNatClampNeg) r_4 hz) (cwV 2 hts gX11_rodTold_X4_offAfter rfl rfl rfl (by decide +kernel) ⟨Nat.le_of_ble_eq_true rfl, Nat.le_of_ble_eq_true rfl⟩) (gp_V (ci := 4) (q0 := 0) (q := (RX4, TX4, 13)) hP hD hK hN [4, 5, 6, 7, 8, 9, 10, 11, 12, 13, 14, 15] (by decide +kernel) rfl rfl rfl) rfl rfl hl.1 rfl (lv_room (Nat.le_of_ble_eq_true rfl)) dX11_rodTold_66 ⟨Nat.zero_le _, Nat.zero_le _⟩) hP hD hS hA [4, 5, 6, 7, 8, 9, 10, 11, 12, 13, 14, 15] [0, 1, 2, 3] rfl rfl (by decide +kernel) (by decide +kernel) [0, 1, 2, 3, 4, 5, 6, 7, 8, 9, 10, 11, 12, 13, 14, 15] (by decide +kernel) rfl (fun H locs hP hD hS => ?_)
        clear hz
        have hz := Option.some.inj hf
        subst hz
        exact hret _ _ _ _ dX11_rodTold_69 hP hD hS
      · have hf := mb_if_f c_8 hf
        by_cases c_9 : x2 = (1 : Int32)
        · have hf := mb_if_t c_9 hf
          refine lv_tableIn (tgt := 70) hx hb dX11_rodTold_25 (by rw [c_9]; decide) (by rw [c_9]; decide) (by rw [c_9]; rfl) (by decide) ?_
          refine lv_aload_n hx hb dX11_rodTold_70 rfl (lv_at hl 0 rfl) ?_
          refine va_get (D := D) (ci := 11) (v := .ref (a0 9 0)) (C := RX11) (T := TX11) (N := 16) hx hb hts iw_One hown hK hP 0 rfl rfl 8 (by decide) fl_68 (fun _ h9 => h9) rfl dX11_rodTold_71 ?_
          refine va_get (D := D) (ci := 4) (v := .ref (a0 9 10)) (C := RX4) (T := TX4) (N := 13) hx hb hts iw_Rods hown hK hP 4 rfl rfl 9 (by decide) fl_279 (fun _ h9 => h9) rfl dX11_rodTold_74 ?_
          refine lv_iload_n hx hb dX11_rodTold_77 rfl (lv_at hl 1 rfl) ?_
          obtain ⟨h_5, hf⟩ := mb_chk_s hf
          refine va_iald hx hb hK hP 12 0 rfl rfl h_5 dX11_rodTold_78 ?_
          have hz := Option.some.inj hf
          subst hz
          exact hret _ _ _ _ dX11_rodTold_79 hP hD hS
        · have hf := mb_if_f c_9 hf
          by_cases c_10 : x2 = (2 : Int32)
          · have hf := mb_if_t c_10 hf
            refine lv_tableIn (tgt := 80) hx hb dX11_rodTold_25 (by rw [c_10]; decide) (by rw [c_10]; decide) (by rw [c_10]; rfl) (by decide) ?_
            refine lv_aload_n hx hb dX11_rodTold_80 rfl (lv_at hl 0 rfl) ?_
            refine va_get (D := D) (ci := 11) (v := .ref (a0 9 0)) (C := RX11) (T := TX11) (N := 16) hx hb hts iw_One hown hK hP 0 rfl rfl 8 (by decide) fl_68 (fun _ h9 => h9) rfl dX11_rodTold_81 ?_
            refine va_get (D := D) (ci := 4) (v := .ref (a0 9 11)) (C := RX4) (T := TX4) (N := 13) hx hb hts iw_Rods hown hK hP 4 rfl rfl 10 (by decide) fl_282 (fun _ h9 => h9) rfl dX11_rodTold_84 ?_
            refine lv_iload_n hx hb dX11_rodTold_87 rfl (lv_at hl 1 rfl) ?_
            obtain ⟨h_6, hf⟩ := mb_chk_s hf
            refine va_iald hx hb hK hP 13 0 rfl rfl h_6 dX11_rodTold_88 ?_
            have hz := Option.some.inj hf
            subst hz
            exact hret _ _ _ _ dX11_rodTold_89 hP hD hS
          · have hf := mb_if_f c_10 hf
            refine lv_tableOut (tgt := 90) hx hb dX11_rodTold_25 (by have q0 : ¬ (x2 : Int32).toInt = 0 := mb_ni c_8 (by decide); have q1 : ¬ (x2 : Int32).toInt = 1 := mb_ni c_9 (by decide); have q2 : ¬ (x2 : Int32).toInt = 2 := mb_ni c_10 (by decide); omega) (by decide) ?_
            refine lv_aload_n hx hb dX11_rodTold_90 rfl (lv_at hl 0 rfl) ?_
            refine va_get (D := D) (ci := 11) (v := .ref (a0 9 0)) (C := RX11) (T := TX11) (N := 16) hx hb hts iw_One hown hK hP 0 rfl rfl 8 (by decide) fl_68 (fun _ h9 => h9) rfl dX11_rodTold_91 ?_
            refine lv_iload_n hx hb dX11_rodTold_94 rfl (lv_at hl 1 rfl) ?_
            refine lv_aload_n hx hb dX11_rodTold_95 rfl (lv_at hl 0 rfl) ?_
            refine va_get (D := D) (ci := 11) (v := .int (P0 0 15)) (C := RX11) (T := TX11) (N := 16) hx hb hts iw_One hown hK hP 0 rfl rfl 15 (by decide) fl_102 (fun _ h9 => h9) rfl dX11_rodTold_96 ?_
            obtain ⟨r_7, hz, hf⟩ := mb_bd1_s hf
            refine gc_i (r0 := r_7) (ws' := (wC_One k a0 P0 ++ (wC_Rods k (a0 9) P1 L1))) (wr := (wC_One k a0 P0)) (va_runV (As := [.int x1, .int (P0 0 15)]) (rest := []) ⟨hx, hb, hml, hown, hts⟩ (c_Rods_falseSince l D k H.size (a0 9) P1 L1 x1 (P0 0 15) r_7 hz) (cwV 2 hts gX11_rodTold_X4_falseSince rfl rfl rfl (by decide +kernel) ⟨Nat.le_of_ble_eq_true rfl, Nat.le_of_ble_eq_true rfl⟩) (gp_V (ci := 4) (q0 := 0) (q := (RX4, TX4, 13)) hP hD hK hN [4, 5, 6, 7, 8, 9, 10, 11, 12, 13, 14, 15] (by decide +kernel) rfl rfl rfl) rfl rfl hl.1 rfl (lv_room (Nat.le_of_ble_eq_true rfl)) dX11_rodTold_99 ⟨Nat.zero_le _, Nat.zero_le _⟩) hP hD hS hA [4, 5, 6, 7, 8, 9, 10, 11, 12, 13, 14, 15] [0, 1, 2, 3] rfl rfl (by decide +kernel) (by decide +kernel) [0, 1, 2, 3, 4, 5, 6, 7, 8, 9, 10, 11, 12, 13, 14, 15] (by decide +kernel) rfl (fun H locs hP hD hS => ?_)
            clear hz
            have hz := Option.some.inj hf
            subst hz
            exact hret _ _ _ _ dX11_rodTold_102 hP hD hS
    · have hf := mb_if_t c_11 hf
      refine lv_sipush (v := (-10000)) hx hb dX11_rodTold_20 (by decide) ?_
      have hz := Option.some.inj hf
      subst hz
      exact hret _ _ _ _ dX11_rodTold_23 hP hD hS
def f_One_cheated (L1 : PL) (x1 : Int32) (x2 : Int32) : Option (Int64) := mb_bd1 (f_One_isDistrict x1) (fun (r_1 : Int32) => (if r_1 = 0 then some (-1 : Int64) else mb_bd1 (f_One_within x2 (0 : Int32) (1 : Int32)) (fun (r_2 : Int32) => (if r_2 = 0 then some (-1 : Int64) else (if x2 = 0 then mb_chk x1 6 (some (L1 12 x1.toNatClampNeg)) else mb_chk x1 6 (some (L1 13 x1.toNatClampNeg)))))))
def rm_One_cheated : Room := { frames := 2, cells := 0, slots := 0, locals := 42 }
set_option maxHeartbeats 4000000 in
set_option maxRecDepth 100000 in
theorem c_One_cheated (l : Launch) (D : va_G) (k : Nat → ClassId) (sz : Nat) (a0 : Nat → Nat → Nat) (P0 : PI) (P1 : PI) (L1 : PL) (x1 : Int32) (x2 : Int32) (z : Int64) (hf : f_One_cheated L1 x1 x2 = some z) : Met l yX11_cheated wsX11_cheated rm_One_cheated (va_Pc [.ref (a0 0 0), .int x1, .int x2] (gw_pre D vwCl (tyL k) (wC_One k a0 P0 ++ (wC_Rods k (a0 9) P1 L1)) sz)) (va_Ql (fun (r : Int64) (_ : Unit) => r = z) (gw_b D vwCl (tyL k) (va_A (wC_One k a0 P0 ++ (wC_Rods k (a0 9) P1 L1)) sz) (wC_One k a0 P0 ++ (wC_Rods k (a0 9) P1 L1))) (va_A (wC_One k a0 P0 ++ (wC_Rods k (a0 9) P1 L1)) sz)) 0 0 (va_A (wC_One k a0 P0 ++ (wC_Rods k (a0 9) P1 L1)) sz) := by
  refine gm_l (cc := cX11_cheated) (maxL := 3) (by decide) rfl (Nat.le_of_ble_eq_true rfl) ?_
  intro p e s m args below meth c A Q ls H locs hx hb hml hown hts hK hN hA hP hD hS hl hret
  have hown : s.vm.findClass RX11 = some m.cls := hown
  have hl : lv_has ls 3 [(0, .ref (a0 0 0)), (1, .int x1), (2, .int x2)] := hl
  have iw_One : ∀ w ∈ u_ws RX11 TX11 16, w ∈ wsX11_cheated := by decide +kernel
  have iw_Rods : ∀ w ∈ u_ws RX4 TX4 13, w ∈ wsX11_cheated := by decide +kernel
  have fl_68 := hts (.fieldLink RX11 68 "OneMeasure" "rods" "LOneMeasure$Rods;") (by decide +kernel)
  have fl_288 := hts (.fieldLink RX11 288 "OneMeasure$Rods" "taken" "[J") (by decide +kernel)
  have fl_292 := hts (.fieldLink RX11 292 "OneMeasure$Rods" "given" "[J") (by decide +kernel)
  have lc_133 := hts (.constantLong RX11 133 (-1)) (by decide +kernel)
  unfold f_One_cheated at hf
  refine lv_iload_n hx hb dX11_cheated_0 rfl (lv_at hl 1 rfl) ?_
  obtain ⟨r_1, hz, hf⟩ := mb_bd1_s hf
  refine gc_i (r0 := r_1) (ws' := (wC_One k a0 P0 ++ (wC_Rods k (a0 9) P1 L1))) (wr := (wC_One k a0 P0 ++ (wC_Rods k (a0 9) P1 L1))) (va_runS (As := [.int x1]) (rest := []) ⟨hx, hb, hml, hown, hts⟩ (c_One_isDistrict l D k H.size x1 r_1 hz) (cwS 1 hts gX11_cheated_X11_isDistrict rfl rfl rfl (by decide +kernel) ⟨Nat.le_of_ble_eq_true rfl, Nat.le_of_ble_eq_true rfl⟩) (gp_S hP hD hK hN [] (by decide +kernel) rfl) rfl rfl hl.1 rfl (lv_room (Nat.le_of_ble_eq_true rfl)) dX11_cheated_1 ⟨Nat.zero_le _, Nat.zero_le _⟩) hP hD hS hA [] [0, 1, 2, 3, 4, 5, 6, 7, 8, 9, 10, 11, 12, 13, 14, 15] rfl rfl (by decide +kernel) (by decide +kernel) [0, 1, 2, 3, 4, 5, 6, 7, 8, 9, 10, 11, 12, 13, 14, 15] (by decide +kernel) rfl (fun H locs hP hD hS => ?_)
  clear hz
  refine lv_if_eq (tgt := 16) hx hb dX11_cheated_4 (by decide) (fun c_7 => ?_) (fun c_7 => ?_)
  · have hf := mb_if_t c_7 hf
    refine lv_ldc2 (v := (-1)) hx hb hown lc_133 dX11_cheated_16 ?_
    have hz := Option.some.inj hf
    subst hz
    exact hret _ _ _ _ dX11_cheated_19 hP hD hS
  · have hf := mb_if_f c_7 hf
    refine lv_iload_n hx hb dX11_cheated_7 rfl (lv_at hl 2 rfl) ?_
    refine lv_iconst (v := 0) hx hb dX11_cheated_8 (by decide) ?_
    refine lv_iconst (v := 1) hx hb dX11_cheated_9 (by decide) ?_
    obtain ⟨r_2, hz, hf⟩ := mb_bd1_s hf
    refine gc_i (r0 := r_2) (ws' := (wC_One k a0 P0 ++ (wC_Rods k (a0 9) P1 L1))) (wr := (wC_One k a0 P0 ++ (wC_Rods k (a0 9) P1 L1))) (va_runS (As := [.int x2, .int (0 : Int32), .int (1 : Int32)]) (rest := []) ⟨hx, hb, hml, hown, hts⟩ (c_One_within l D k H.size x2 (0 : Int32) (1 : Int32) r_2 hz) (cwS 3 hts gX11_cheated_X11_within rfl rfl rfl (by decide +kernel) ⟨Nat.le_of_ble_eq_true rfl, Nat.le_of_ble_eq_true rfl⟩) (gp_S hP hD hK hN [] (by decide +kernel) rfl) rfl rfl hl.1 rfl (lv_room (Nat.le_of_ble_eq_true rfl)) dX11_cheated_10 ⟨Nat.zero_le _, Nat.zero_le _⟩) hP hD hS hA [] [0, 1, 2, 3, 4, 5, 6, 7, 8, 9, 10, 11, 12, 13, 14, 15] rfl rfl (by decide +kernel) (by decide +kernel) [0, 1, 2, 3, 4, 5, 6, 7, 8, 9, 10, 11, 12, 13, 14, 15] (by decide +kernel) rfl (fun H locs hP hD hS => ?_)
    clear hz
    refine lv_if_ne (tgt := 20) hx hb dX11_cheated_13 (by decide) (fun c_6 => ?_) (fun c_6 => ?_)
    · have hf := mb_if_f c_6 hf
      refine lv_iload_n hx hb dX11_cheated_20 rfl (lv_at hl 2 rfl) ?_
      refine lv_if_ne (tgt := 36) hx hb dX11_cheated_21 (by decide) (fun c_5 => ?_) (fun c_5 => ?_)
      · have hf := mb_if_f c_5 hf
        refine lv_aload_n hx hb dX11_cheated_36 rfl (lv_at hl 0 rfl) ?_
        refine va_get (D := D) (ci := 11) (v := .ref (a0 9 0)) (C := RX11) (T := TX11) (N := 16) hx hb hts iw_One hown hK hP 0 rfl rfl 8 (by decide) fl_68 (fun _ h9 => h9) rfl dX11_cheated_37 ?_
        refine va_get (D := D) (ci := 4) (v := .ref (a0 9 13)) (C := RX4) (T := TX4) (N := 13) hx hb hts iw_Rods hown hK hP 4 rfl rfl 12 (by decide) fl_292 (fun _ h9 => h9) rfl dX11_cheated_40 ?_
        refine lv_iload_n hx hb dX11_cheated_43 rfl (lv_at hl 1 rfl) ?_
        obtain ⟨h_3, hf⟩ := mb_chk_s hf
        refine va_lald hx hb hK hP 15 1 rfl rfl h_3 dX11_cheated_44 ?_
        have hz := Option.some.inj hf
        subst hz
        exact hret _ _ _ _ dX11_cheated_45 hP hD hS
      · have hf := mb_if_t c_5 hf
        refine lv_aload_n hx hb dX11_cheated_24 rfl (lv_at hl 0 rfl) ?_
        refine va_get (D := D) (ci := 11) (v := .ref (a0 9 0)) (C := RX11) (T := TX11) (N := 16) hx hb hts iw_One hown hK hP 0 rfl rfl 8 (by decide) fl_68 (fun _ h9 => h9) rfl dX11_cheated_25 ?_
        refine va_get (D := D) (ci := 4) (v := .ref (a0 9 12)) (C := RX4) (T := TX4) (N := 13) hx hb hts iw_Rods hown hK hP 4 rfl rfl 11 (by decide) fl_288 (fun _ h9 => h9) rfl dX11_cheated_28 ?_
        refine lv_iload_n hx hb dX11_cheated_31 rfl (lv_at hl 1 rfl) ?_
        obtain ⟨h_4, hf⟩ := mb_chk_s hf
        refine va_lald hx hb hK hP 14 1 rfl rfl h_4 dX11_cheated_32 ?_
        refine lv_goto (tgt := 45) hx hb dX11_cheated_33 (by decide) ?_
        have hz := Option.some.inj hf
        subst hz
        exact hret _ _ _ _ dX11_cheated_45 hP hD hS
    · have hf := mb_if_t c_6 hf
      refine lv_ldc2 (v := (-1)) hx hb hown lc_133 dX11_cheated_16 ?_
      have hz := Option.some.inj hf
      subst hz
      exact hret _ _ _ _ dX11_cheated_19 hP hD hS
def f_Tours_forfeitWeeks_6_b (P0 : PI) (P1 : PI) (x0 : Int32) (x3 : Int32) (x4 : Int32) (self_7 : Int32 → Int32 → Option (Int32)) (x5_5 : Int32) (x6_6 : Int32) : Option (Int32) := (if x4 ≤ x6_6 then some x5_5 else mb_chk x0 12 (mb_bd1 (f_Rods_isForfeit P0 P1 x0 (((P0 8 x0.toNatClampNeg) + x6_6) + (1 : Int32)) ((P0 0 1) + x6_6) x3) (fun (r_9 : Int32) => (if r_9 = 0 then mb_let (x6_6 + (1 : Int32)) (fun (x6_10 : Int32) => self_7 x5_5 x6_10) else mb_let (x5_5 ||| ((1 : Int32) <<< (x6_6 &&& 31))) (fun (x5_11 : Int32) => mb_let (x6_6 + (1 : Int32)) (fun (x6_12 : Int32) => self_7 x5_11 x6_12))))))
def f_Tours_forfeitWeeks_6 (P0 : PI) (P1 : PI) (x0 : Int32) (x3 : Int32) (x4 : Int32) : Nat → Int32 → Int32 → Option (Int32)
  | 0, _, _ => none
  | n + 1, x5_5, x6_6 => f_Tours_forfeitWeeks_6_b P0 P1 x0 x3 x4 (f_Tours_forfeitWeeks_6 P0 P1 x0 x3 x4 n) x5_5 x6_6
def f_Tours_forfeitWeeks (P0 : PI) (P1 : PI) (x0 : Int32) (x3 : Int32) (x4 : Int32) : Option (Int32) := mb_let (0 : Int32) (fun (x5_1 : Int32) => mb_let (0 : Int32) (fun (x6_2 : Int32) => f_Tours_forfeitWeeks_6 P0 P1 x0 x3 x4 mb_fu x5_1 x6_2))
def rm_Tours_forfeitWeeks : Room := { frames := 4, cells := 0, slots := 0, locals := 98 }
set_option maxHeartbeats 4000000 in
set_option maxRecDepth 100000 in
theorem c_Tours_forfeitWeeks (l : Launch) (D : va_G) (k : Nat → ClassId) (sz : Nat) (b1 : Nat → Nat) (b2 : Nat → Nat) (P0 : PI) (L0 : PL) (P1 : PI) (x0 : Int32) (x3 : Int32) (x4 : Int32) (z : Int32) (hf : f_Tours_forfeitWeeks P0 P1 x0 x3 x4 = some z) : Met l yX7_forfeitWeeks wsX7_forfeitWeeks rm_Tours_forfeitWeeks (va_Pc [.int x0, .ref (b1 0), .ref (b2 0), .int x3, .int x4] (gw_pre D vwCl (tyL k) (wC_Rods k b1 P0 L0 ++ (wC_Decrees k b2 P1)) sz)) (va_Qi (fun (r : Int32) (_ : Unit) => r = z) (gw_b D vwCl (tyL k) (va_A (wC_Rods k b1 P0 L0 ++ (wC_Decrees k b2 P1)) sz) (wC_Rods k b1 P0 L0 ++ (wC_Decrees k b2 P1))) (va_A (wC_Rods k b1 P0 L0 ++ (wC_Decrees k b2 P1)) sz)) 0 0 (va_A (wC_Rods k b1 P0 L0 ++ (wC_Decrees k b2 P1)) sz) := by
  refine gm_i (cc := cX7_forfeitWeeks) (maxL := 7) (by decide) rfl (Nat.le_of_ble_eq_true rfl) ?_
  intro p e s m args below meth c A Q ls H locs hx hb hml hown hts hK hN hA hP hD hS hl hret
  have hown : s.vm.findClass RX7 = some m.cls := hown
  have hl : lv_has ls 7 [(0, .int x0), (1, .ref (b1 0)), (2, .ref (b2 0)), (3, .int x3), (4, .int x4)] := hl
  have iw_Rods : ∀ w ∈ u_ws RX4 TX4 13, w ∈ wsX7_forfeitWeeks := by decide +kernel
  have fl_52 := hts (.fieldLink RX7 52 "OneMeasure$Rods" "worn" "[I") (by decide +kernel)
  have fl_55 := hts (.fieldLink RX7 55 "OneMeasure$Rods" "week" "I") (by decide +kernel)
  unfold f_Tours_forfeitWeeks at hf
  refine lv_iconst (v := 0) hx hb dX7_forfeitWeeks_0 (by decide) ?_
  obtain ⟨x5_1, e_, hf⟩ := mb_let_s hf
  refine mb_topi e_ ?_
  clear e_
  refine lv_istore (lv' := [(5, .int x5_1), (0, .int x0), (1, .ref (b1 0)), (2, .ref (b2 0)), (3, .int x3), (4, .int x4)]) hx hb dX7_forfeitWeeks_1 hl (by decide) rfl (fun ls hl => ?_)
  refine lv_iconst (v := 0) hx hb dX7_forfeitWeeks_3 (by decide) ?_
  obtain ⟨x6_2, e_, hf⟩ := mb_let_s hf
  refine mb_topi e_ ?_
  clear e_
  refine lv_istore (lv' := [(6, .int x6_2), (5, .int x5_1), (0, .int x0), (1, .ref (b1 0)), (2, .ref (b2 0)), (3, .int x3), (4, .int x4)]) hx hb dX7_forfeitWeeks_4 hl (by decide) rfl (fun ls hl => ?_)
  have lp6_3 : ∀ (n : Nat) (x5_5 : Int32) (x6_6 : Int32) (H : Heap) (locs : List Loc) (ls : Array Slot), f_Tours_forfeitWeeks_6 P0 P1 x0 x3 x4 n x5_5 x6_6 = some z → va_P D vwCl (wC_Rods k b1 P0 L0 ++ (wC_Decrees k b2 P1)) H → va_D A (wC_Rods k b1 P0 L0 ++ (wC_Decrees k b2 P1)) → va_S A s.heap H locs → lv_has ls 7 [(0, .int x0), (1, .ref (b1 0)), (2, .ref (b2 0)), (3, .int x3), (4, .int x4), (5, .int x5_5), (6, .int x6_6)] → W p l e rm_Tours_forfeitWeeks s m args below meth c H locs 0 0 Q (F0 m 6 ls []) := by
    intro n
    induction n with
    | zero =>
      intro x5_5 x6_6 H locs ls hf
      exact nomatch (show (none : Option (Int32)) = some z from hf)
    | succ n ih_4 =>
      intro x5_5 x6_6 H locs ls hf hP hD hS hl
      have hf : f_Tours_forfeitWeeks_6_b P0 P1 x0 x3 x4 (f_Tours_forfeitWeeks_6 P0 P1 x0 x3 x4 n) x5_5 x6_6 = some z := hf
      unfold f_Tours_forfeitWeeks_6_b at hf
      refine lv_iload hx hb dX7_forfeitWeeks_6 (lv_at hl 6 rfl) ?_
      refine lv_iload hx hb dX7_forfeitWeeks_8 (lv_at hl 4 rfl) ?_
      refine lv_icmp_ge (tgt := 56) hx hb dX7_forfeitWeeks_10 (by decide) (fun c_14 => ?_) (fun c_14 => ?_)
      · have hf := mb_if_t c_14 hf
        refine lv_iload hx hb dX7_forfeitWeeks_56 (lv_at hl 5 rfl) ?_
        have hz := Option.some.inj hf
        subst hz
        exact hret _ _ _ _ dX7_forfeitWeeks_58 hP hD hS
      · have hf := mb_if_f c_14 hf
        refine lv_aload_n hx hb dX7_forfeitWeeks_13 rfl (lv_at hl 1 rfl) ?_
        refine lv_iload_n hx hb dX7_forfeitWeeks_14 rfl (lv_at hl 0 rfl) ?_
        refine lv_aload_n hx hb dX7_forfeitWeeks_15 rfl (lv_at hl 1 rfl) ?_
        refine va_get (D := D) (ci := 4) (v := .ref (b1 8)) (C := RX4) (T := TX4) (N := 13) hx hb hts iw_Rods hown hK hP 0 rfl rfl 7 (by decide) fl_52 (fun _ h9 => h9) rfl dX7_forfeitWeeks_16 ?_
        refine lv_iload_n hx hb dX7_forfeitWeeks_19 rfl (lv_at hl 0 rfl) ?_
        obtain ⟨h_8, hf⟩ := mb_chk_s hf
        refine va_iald hx hb hK hP 6 0 rfl rfl h_8 dX7_forfeitWeeks_20 ?_
        refine lv_iload hx hb dX7_forfeitWeeks_21 (lv_at hl 6 rfl) ?_
        refine lv_iadd hx hb dX7_forfeitWeeks_23 ?_
        refine lv_iconst (v := 1) hx hb dX7_forfeitWeeks_24 (by decide) ?_
        refine lv_iadd hx hb dX7_forfeitWeeks_25 ?_
        refine lv_aload_n hx hb dX7_forfeitWeeks_26 rfl (lv_at hl 1 rfl) ?_
        refine va_get (D := D) (ci := 4) (v := .int (P0 0 1)) (C := RX4) (T := TX4) (N := 13) hx hb hts iw_Rods hown hK hP 0 rfl rfl 1 (by decide) fl_55 (fun _ h9 => h9) rfl dX7_forfeitWeeks_27 ?_
        refine lv_iload hx hb dX7_forfeitWeeks_30 (lv_at hl 6 rfl) ?_
        refine lv_iadd hx hb dX7_forfeitWeeks_32 ?_
        refine lv_aload_n hx hb dX7_forfeitWeeks_33 rfl (lv_at hl 2 rfl) ?_
        refine lv_iload_n hx hb dX7_forfeitWeeks_34 rfl (lv_at hl 3 rfl) ?_
        obtain ⟨r_9, hz, hf⟩ := mb_bd1_s hf
        refine gc_i (r0 := r_9) (ws' := (wC_Rods k b1 P0 L0 ++ (wC_Decrees k b2 P1))) (wr := ([] : va_W)) (va_runV (As := [.int x0, .int (((P0 8 x0.toNatClampNeg) + x6_6) + (1 : Int32)), .int ((P0 0 1) + x6_6), .ref (b2 0), .int x3]) (rest := []) ⟨hx, hb, hml, hown, hts⟩ (c_Rods_isForfeit l D k H.size b1 b2 P0 L0 P1 x0 (((P0 8 x0.toNatClampNeg) + x6_6) + (1 : Int32)) ((P0 0 1) + x6_6) x3 r_9 hz) (cwV 5 hts gX7_forfeitWeeks_X4_isForfeit rfl rfl rfl (by decide +kernel) ⟨Nat.le_of_ble_eq_true rfl, Nat.le_of_ble_eq_true rfl⟩) (gp_V (ci := 4) (q0 := 0) (q := (RX4, TX4, 13)) hP hD hK hN [0, 1, 2, 3, 4, 5, 6, 7, 8, 9, 10, 11, 12, 13, 14, 15, 16, 17] (by decide +kernel) rfl rfl rfl) rfl rfl hl.1 rfl (lv_room (Nat.le_of_ble_eq_true rfl)) dX7_forfeitWeeks_35 ⟨Nat.zero_le _, Nat.zero_le _⟩) hP hD hS hA [0, 1, 2, 3, 4, 5, 6, 7, 8, 9, 10, 11, 12, 13, 14, 15, 16, 17] [] rfl rfl (by decide +kernel) (by decide +kernel) [0, 1, 2, 3, 4, 5, 6, 7, 8, 9, 10, 11, 12, 13, 14, 15, 16, 17] (by decide +kernel) rfl (fun H locs hP hD hS => ?_)
        clear hz
        refine lv_if_eq (tgt := 50) hx hb dX7_forfeitWeeks_38 (by decide) (fun c_13 => ?_) (fun c_13 => ?_)
        · have hf := mb_if_t c_13 hf
          obtain ⟨x6_10, e_, hf⟩ := mb_let_s hf
          refine lv_iinc (v := x6_10) (lv' := [(6, .int x6_10), (0, .int x0), (1, .ref (b1 0)), (2, .ref (b2 0)), (3, .int x3), (4, .int x4), (5, .int x5_5)]) hx hb dX7_forfeitWeeks_50 hl (k := 6) rfl (by rw [e_]; rfl) (by decide) rfl (fun ls hl => ?_)
          clear e_
          refine lv_goto (tgt := 6) hx hb dX7_forfeitWeeks_53 (by decide) ?_
          exact ih_4 x5_5 x6_10 _ _ _ hf hP hD hS (lv_sub hl [1, 2, 3, 4, 5, 6, 0] rfl)
        · have hf := mb_if_f c_13 hf
          refine lv_iload hx hb dX7_forfeitWeeks_41 (lv_at hl 5 rfl) ?_
          refine lv_iconst (v := 1) hx hb dX7_forfeitWeeks_43 (by decide) ?_
          refine lv_iload hx hb dX7_forfeitWeeks_44 (lv_at hl 6 rfl) ?_
          refine lv_ishl hx hb dX7_forfeitWeeks_46 ?_
          refine lv_ior hx hb dX7_forfeitWeeks_47 ?_
          obtain ⟨x5_11, e_, hf⟩ := mb_let_s hf
          refine mb_topi e_ ?_
          clear e_
          refine lv_istore (lv' := [(5, .int x5_11), (0, .int x0), (1, .ref (b1 0)), (2, .ref (b2 0)), (3, .int x3), (4, .int x4), (6, .int x6_6)]) hx hb dX7_forfeitWeeks_48 hl (by decide) rfl (fun ls hl => ?_)
          obtain ⟨x6_12, e_, hf⟩ := mb_let_s hf
          refine lv_iinc (v := x6_12) (lv' := [(6, .int x6_12), (5, .int x5_11), (0, .int x0), (1, .ref (b1 0)), (2, .ref (b2 0)), (3, .int x3), (4, .int x4)]) hx hb dX7_forfeitWeeks_50 hl (k := 6) rfl (by rw [e_]; rfl) (by decide) rfl (fun ls hl => ?_)
          clear e_
          refine lv_goto (tgt := 6) hx hb dX7_forfeitWeeks_53 (by decide) ?_
          exact ih_4 x5_11 x6_12 _ _ _ hf hP hD hS (lv_sub hl [2, 3, 4, 5, 6, 1, 0] rfl)
  exact lp6_3 mb_fu x5_1 x6_2 _ _ _ hf hP hD hS (lv_sub hl [2, 3, 4, 5, 6, 1, 0] rfl)
def f_Tours_lossOf_6_b (P0 : PI) (P1 : PI) (x0 : Int32) (x3 : Int32) (x4 : Int32) (self_7 : Int64 → Int32 → Option (Int64)) (x5_5 : Int64) (x7_6 : Int32) : Option (Int64) := (if x4 ≤ x7_6 then some x5_5 else mb_chk x0 12 (mb_bd1 (f_Rods_shortIn P0 P1 x0 ((P0 8 x0.toNatClampNeg) + x7_6)) (fun (r_9 : Int64) => mb_let (if r_9 < (0 : Int64) then (0 : Int64) else r_9) (fun (v_10 : Int64) => mb_let (x5_5 + v_10) (fun (x5_11 : Int64) => (if ((x3 >>> (x7_6 &&& 31)) &&& (1 : Int32)) = 0 then mb_let (x7_6 + (1 : Int32)) (fun (x7_12 : Int32) => self_7 x5_11 x7_12) else some x5_11))))))
def f_Tours_lossOf_6 (P0 : PI) (P1 : PI) (x0 : Int32) (x3 : Int32) (x4 : Int32) : Nat → Int64 → Int32 → Option (Int64)
  | 0, _, _ => none
  | n + 1, x5_5, x7_6 => f_Tours_lossOf_6_b P0 P1 x0 x3 x4 (f_Tours_lossOf_6 P0 P1 x0 x3 x4 n) x5_5 x7_6
def f_Tours_lossOf (P0 : PI) (P1 : PI) (x0 : Int32) (x3 : Int32) (x4 : Int32) : Option (Int64) := mb_let (0 : Int64) (fun (x5_1 : Int64) => mb_let (0 : Int32) (fun (x7_2 : Int32) => f_Tours_lossOf_6 P0 P1 x0 x3 x4 mb_fu x5_1 x7_2))
def rm_Tours_lossOf : Room := { frames := 3, cells := 0, slots := 0, locals := 85 }
set_option maxHeartbeats 4000000 in
set_option maxRecDepth 100000 in
theorem c_Tours_lossOf (l : Launch) (D : va_G) (k : Nat → ClassId) (sz : Nat) (b1 : Nat → Nat) (b2 : Nat → Nat) (P0 : PI) (L0 : PL) (P1 : PI) (x0 : Int32) (x3 : Int32) (x4 : Int32) (z : Int64) (hf : f_Tours_lossOf P0 P1 x0 x3 x4 = some z) : Met l yX7_lossOf wsX7_lossOf rm_Tours_lossOf (va_Pc [.int x0, .ref (b1 0), .ref (b2 0), .int x3, .int x4] (gw_pre D vwCl (tyL k) (wC_Rods k b1 P0 L0 ++ (wC_Units k b2 P1)) sz)) (va_Ql (fun (r : Int64) (_ : Unit) => r = z) (gw_b D vwCl (tyL k) (va_A (wC_Rods k b1 P0 L0 ++ (wC_Units k b2 P1)) sz) (wC_Rods k b1 P0 L0 ++ (wC_Units k b2 P1))) (va_A (wC_Rods k b1 P0 L0 ++ (wC_Units k b2 P1)) sz)) 0 0 (va_A (wC_Rods k b1 P0 L0 ++ (wC_Units k b2 P1)) sz) := by
  refine gm_l (cc := cX7_lossOf) (maxL := 8) (by decide) rfl (Nat.le_of_ble_eq_true rfl) ?_
  intro p e s m args below meth c A Q ls H locs hx hb hml hown hts hK hN hA hP hD hS hl hret
  have hown : s.vm.findClass RX7 = some m.cls := hown
  have hl : lv_has ls 8 [(0, .int x0), (1, .ref (b1 0)), (2, .ref (b2 0)), (3, .int x3), (4, .int x4)] := hl
  have iw_Rods : ∀ w ∈ u_ws RX4 TX4 13, w ∈ wsX7_lossOf := by decide +kernel
  have fl_52 := hts (.fieldLink RX7 52 "OneMeasure$Rods" "worn" "[I") (by decide +kernel)
  have ml_66 := hts (.methodLink RX7 66 Lib.MathLoose.max_long.x) (by decide +kernel)
  have maxJ_st := hts (.static Lib.MathLoose.max_long.x) (by decide +kernel)
  have ma_ini := hts (.initialized "java/lang/Math") (by decide +kernel)
  have maxJ_code := hts (.code Lib.MathLoose.max_long.x Lib.MathLoose.max_long.code 4 (some .long)) (by decide +kernel)
  unfold f_Tours_lossOf at hf
  refine lv_lconst (v := 0) hx hb dX7_lossOf_0 (by decide) ?_
  obtain ⟨x5_1, e_, hf⟩ := mb_let_s hf
  refine mb_topl e_ ?_
  clear e_
  refine lv_lstore (lv' := [(5, .long x5_1), (0, .int x0), (1, .ref (b1 0)), (2, .ref (b2 0)), (3, .int x3), (4, .int x4)]) hx hb dX7_lossOf_1 hl (by decide) rfl (fun ls hl => ?_)
  refine lv_iconst (v := 0) hx hb dX7_lossOf_3 (by decide) ?_
  obtain ⟨x7_2, e_, hf⟩ := mb_let_s hf
  refine mb_topi e_ ?_
  clear e_
  refine lv_istore (lv' := [(7, .int x7_2), (5, .long x5_1), (0, .int x0), (1, .ref (b1 0)), (2, .ref (b2 0)), (3, .int x3), (4, .int x4)]) hx hb dX7_lossOf_4 hl (by decide) rfl (fun ls hl => ?_)
  have lp6_3 : ∀ (n : Nat) (x5_5 : Int64) (x7_6 : Int32) (H : Heap) (locs : List Loc) (ls : Array Slot), f_Tours_lossOf_6 P0 P1 x0 x3 x4 n x5_5 x7_6 = some z → va_P D vwCl (wC_Rods k b1 P0 L0 ++ (wC_Units k b2 P1)) H → va_D A (wC_Rods k b1 P0 L0 ++ (wC_Units k b2 P1)) → va_S A s.heap H locs → lv_has ls 8 [(0, .int x0), (1, .ref (b1 0)), (2, .ref (b2 0)), (3, .int x3), (4, .int x4), (5, .long x5_5), (7, .int x7_6)] → W p l e rm_Tours_lossOf s m args below meth c H locs 0 0 Q (F0 m 6 ls []) := by
    intro n
    induction n with
    | zero =>
      intro x5_5 x7_6 H locs ls hf
      exact nomatch (show (none : Option (Int64)) = some z from hf)
    | succ n ih_4 =>
      intro x5_5 x7_6 H locs ls hf hP hD hS hl
      have hf : f_Tours_lossOf_6_b P0 P1 x0 x3 x4 (f_Tours_lossOf_6 P0 P1 x0 x3 x4 n) x5_5 x7_6 = some z := hf
      unfold f_Tours_lossOf_6_b at hf
      refine lv_iload hx hb dX7_lossOf_6 (lv_at hl 6 rfl) ?_
      refine lv_iload hx hb dX7_lossOf_8 (lv_at hl 4 rfl) ?_
      refine lv_icmp_ge (tgt := 55) hx hb dX7_lossOf_10 (by decide) (fun c_14 => ?_) (fun c_14 => ?_)
      · have hf := mb_if_t c_14 hf
        refine lv_lload hx hb dX7_lossOf_55 (lv_at hl 5 rfl) ?_
        have hz := Option.some.inj hf
        subst hz
        exact hret _ _ _ _ dX7_lossOf_57 hP hD hS
      · have hf := mb_if_f c_14 hf
        refine lv_lload hx hb dX7_lossOf_13 (lv_at hl 5 rfl) ?_
        refine lv_lconst (v := 0) hx hb dX7_lossOf_15 (by decide) ?_
        refine lv_aload_n hx hb dX7_lossOf_16 rfl (lv_at hl 1 rfl) ?_
        refine lv_iload_n hx hb dX7_lossOf_17 rfl (lv_at hl 0 rfl) ?_
        refine lv_aload_n hx hb dX7_lossOf_18 rfl (lv_at hl 1 rfl) ?_
        refine va_get (D := D) (ci := 4) (v := .ref (b1 8)) (C := RX4) (T := TX4) (N := 13) hx hb hts iw_Rods hown hK hP 0 rfl rfl 7 (by decide) fl_52 (fun _ h9 => h9) rfl dX7_lossOf_19 ?_
        refine lv_iload_n hx hb dX7_lossOf_22 rfl (lv_at hl 0 rfl) ?_
        obtain ⟨h_8, hf⟩ := mb_chk_s hf
        refine va_iald hx hb hK hP 6 0 rfl rfl h_8 dX7_lossOf_23 ?_
        refine lv_iload hx hb dX7_lossOf_24 (lv_at hl 6 rfl) ?_
        refine lv_iadd hx hb dX7_lossOf_26 ?_
        refine lv_aload_n hx hb dX7_lossOf_27 rfl (lv_at hl 2 rfl) ?_
        obtain ⟨r_9, hz, hf⟩ := mb_bd1_s hf
        refine gc_l (r0 := r_9) (ws' := (wC_Rods k b1 P0 L0 ++ (wC_Units k b2 P1))) (wr := ([] : va_W)) (va_runV (As := [.int x0, .int ((P0 8 x0.toNatClampNeg) + x7_6), .ref (b2 0)]) (rest := [.long (0 : Int64), .long x5_5]) ⟨hx, hb, hml, hown, hts⟩ (c_Rods_shortIn l D k H.size b1 b2 P0 L0 P1 x0 ((P0 8 x0.toNatClampNeg) + x7_6) r_9 hz) (cwV 3 hts gX7_lossOf_X4_shortIn rfl rfl rfl (by decide +kernel) ⟨Nat.le_of_ble_eq_true rfl, Nat.le_of_ble_eq_true rfl⟩) (gp_V (ci := 4) (q0 := 0) (q := (RX4, TX4, 13)) hP hD hK hN [0, 1, 2, 3, 4, 5, 6, 7, 8, 9, 10, 11, 12, 13, 14, 15] (by decide +kernel) rfl rfl rfl) rfl rfl hl.1 rfl (lv_room (Nat.le_of_ble_eq_true rfl)) dX7_lossOf_28 ⟨Nat.zero_le _, Nat.zero_le _⟩) hP hD hS hA [0, 1, 2, 3, 4, 5, 6, 7, 8, 9, 10, 11, 12, 13, 14, 15] [] rfl rfl (by decide +kernel) (by decide +kernel) [0, 1, 2, 3, 4, 5, 6, 7, 8, 9, 10, 11, 12, 13, 14, 15] (by decide +kernel) rfl (fun H locs hP hD hS => ?_)
        clear hz
        obtain ⟨v_10, e_, hf⟩ := mb_let_s hf
        refine va_mmax_long hx hb (hml.trans hl.1.symm) hown ml_66 maxJ_st ma_ini maxJ_code (Nat.le_of_ble_eq_true rfl) (Nat.le_of_ble_eq_true rfl) (Nat.zero_le _) (Nat.zero_le _) dX7_lossOf_31 ?_
        refine mb_topl e_ ?_
        clear e_
        refine lv_ladd hx hb dX7_lossOf_34 ?_
        obtain ⟨x5_11, e_, hf⟩ := mb_let_s hf
        refine mb_topl e_ ?_
        clear e_
        refine lv_lstore (lv' := [(5, .long x5_11), (0, .int x0), (1, .ref (b1 0)), (2, .ref (b2 0)), (3, .int x3), (4, .int x4), (7, .int x7_6)]) hx hb dX7_lossOf_35 hl (by decide) rfl (fun ls hl => ?_)
        refine lv_iload_n hx hb dX7_lossOf_37 rfl (lv_at hl 4 rfl) ?_
        refine lv_iload hx hb dX7_lossOf_38 (lv_at hl 6 rfl) ?_
        refine lv_ishr hx hb dX7_lossOf_40 ?_
        refine lv_iconst (v := 1) hx hb dX7_lossOf_41 (by decide) ?_
        refine lv_iand hx hb dX7_lossOf_42 ?_
        refine lv_if_eq (tgt := 49) hx hb dX7_lossOf_43 (by decide) (fun c_13 => ?_) (fun c_13 => ?_)
        · have hf := mb_if_t c_13 hf
          obtain ⟨x7_12, e_, hf⟩ := mb_let_s hf
          refine lv_iinc (v := x7_12) (lv' := [(7, .int x7_12), (5, .long x5_11), (0, .int x0), (1, .ref (b1 0)), (2, .ref (b2 0)), (3, .int x3), (4, .int x4)]) hx hb dX7_lossOf_49 hl (k := 6) rfl (by rw [e_]; rfl) (by decide) rfl (fun ls hl => ?_)
          clear e_
          refine lv_goto (tgt := 6) hx hb dX7_lossOf_52 (by decide) ?_
          exact ih_4 x5_11 x7_12 _ _ _ hf hP hD hS (lv_sub hl [2, 3, 4, 5, 6, 1, 0] rfl)
        · have hf := mb_if_f c_13 hf
          refine lv_goto (tgt := 55) hx hb dX7_lossOf_46 (by decide) ?_
          refine lv_lload hx hb dX7_lossOf_55 (lv_at hl 0 rfl) ?_
          have hz := Option.some.inj hf
          subst hz
          exact hret _ _ _ _ dX7_lossOf_57 hP hD hS
  exact lp6_3 mb_fu x5_1 x7_2 _ _ _ hf hP hD hS (lv_sub hl [2, 3, 4, 5, 6, 1, 0] rfl)
