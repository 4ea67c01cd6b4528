def f_Decrees_surely_45_b (P0 : PI) (x2 : Int32) (x3 : Int32) (x5_4 : Int32) (x6_6 : Int32) (self_11 : Int32 → Option (Int32)) (x7_10 : Int32) : Option (Int32) := (if (16 : Int32) ≤ x7_10 then some x5_4 else (if ((x6_6 >>> (x7_10 &&& 31)) &&& (1 : Int32)) = 0 then mb_let (x7_10 + (1 : Int32)) (fun (x7_12 : Int32) => self_11 x7_12) else mb_bd1 (f_Decrees_lets P0 x7_10 x2 x3) (fun (r_13 : Int32) => (if r_13 = 0 then mb_let (x7_10 + (1 : Int32)) (fun (x7_14 : Int32) => self_11 x7_14) else some (-4 : Int32)))))
def f_Decrees_surely_45 (P0 : PI) (x2 : Int32) (x3 : Int32) (x5_4 : Int32) (x6_6 : Int32) : Nat → Int32 → Option (Int32)
  | 0, _ => none
  | n + 1, x7_10 => f_Decrees_surely_45_b P0 x2 x3 x5_4 x6_6 (f_Decrees_surely_45 P0 x2 x3 x5_4 x6_6 n) x7_10
def f_Decrees_surely (P0 : PI) (x1 : Int32) (x2 : Int32) (x3 : Int32) : Option (Int32) := mb_bd1 (f_Decrees_latestOf P0 x1 x2 x3) (fun (r_1 : Int32) => mb_let r_1 (fun (x4_2 : Int32) => (if 0 ≤ x4_2 then mb_chk x4_2 33 (mb_let (P0 3 x4_2.toNatClampNeg) (fun (x5_4 : Int32) => mb_bd1 (f_Decrees_meanings P0 x1 x2 x3) (fun (r_5 : Int32) => mb_let (r_5 &&& (((1 : Int32) <<< (x5_4 &&& 31)) ^^^ (-1 : Int32))) (fun (x6_6 : Int32) => mb_let (0 : Int32) (fun (x7_7 : Int32) => f_Decrees_surely_45 P0 x2 x3 x5_4 x6_6 mb_fu x7_7))))) else some (-4 : Int32))))
def rm_Decrees_surely : Room := { frames := 3, cells := 0, slots := 0, locals := 73 }
set_option maxHeartbeats 4000000 in
set_option maxRecDepth 100000 in
theorem c_Decrees_surely (l : Launch) (D : va_G) (k : Nat → ClassId) (sz : Nat) (b0 : Nat → Nat) (P0 : PI) (x1 : Int32) (x2 : Int32) (x3 : Int32) (z : Int32) (hf : f_Decrees_surely P0 x1 x2 x3 = some z) : Met l yX0_surely wsX0_surely rm_Decrees_surely (va_Pc [.ref (b0 0), .int x1, .int x2, .int x3] (gw_pre D vwCl (tyL k) (wC_Decrees k b0 P0) sz)) (va_Qi (fun (r : Int32) (_ : Unit) => r = z) (gw_b D vwCl (tyL k) (va_A (wC_Decrees k b0 P0) sz) (wC_Decrees k b0 P0)) (va_A (wC_Decrees k b0 P0) sz)) 0 0 (va_A (wC_Decrees k b0 P0) sz) := by
  refine gm_i (cc := cX0_surely) (maxL := 8) (by decide) rfl (Nat.le_of_ble_eq_true rfl) ?_
  intro p e s m args below meth c A Q ls H locs hx hb hml hown hts hK hN hA hP hD hS hl hret
  have hown : s.vm.findClass RX0 = some m.cls := hown
  have hl : lv_has ls 8 [(0, .ref (b0 0)), (1, .int x1), (2, .int x2), (3, .int x3)] := hl
  have iw_Decrees : ∀ w ∈ u_ws RX0 TX0 8, w ∈ wsX0_surely := by decide +kernel
  have fl_20 := hts (.fieldLink RX0 20 "OneMeasure$Decrees" "second" "[I") (by decide +kernel)
  unfold f_Decrees_surely at hf
  refine lv_aload_n hx hb dX0_surely_0 rfl (lv_at hl 0 rfl) ?_
  refine lv_iload_n hx hb dX0_surely_1 rfl (lv_at hl 1 rfl) ?_
  refine lv_iload_n hx hb dX0_surely_2 rfl (lv_at hl 2 rfl) ?_
  refine lv_iload_n hx hb dX0_surely_3 rfl (lv_at hl 3 rfl) ?_
  obtain ⟨r_1, hz, hf⟩ := mb_bd1_s hf
  refine gc_i (r0 := r_1) (ws' := (wC_Decrees k b0 P0)) (wr := ([] : va_W)) (va_runV (As := [.int x1, .int x2, .int x3]) (rest := []) ⟨hx, hb, hml, hown, hts⟩ (c_Decrees_latestOf l D k H.size b0 P0 x1 x2 x3 r_1 hz) (cwV 3 hts gX0_surely_X0_latestOf rfl rfl rfl (by decide +kernel) ⟨Nat.le_of_ble_eq_true rfl, Nat.le_of_ble_eq_true rfl⟩) (gp_V (ci := 0) (q0 := 0) (q := (RX0, TX0, 8)) hP hD hK hN [0, 1, 2, 3, 4, 5] (by decide +kernel) rfl rfl rfl) rfl rfl hl.1 rfl (lv_room (Nat.le_of_ble_eq_true rfl)) dX0_surely_4 ⟨Nat.zero_le _, Nat.zero_le _⟩) hP hD hS hA [0, 1, 2, 3, 4, 5] [] rfl rfl (by decide +kernel) (by decide +kernel) [0, 1, 2, 3, 4, 5] (by decide +kernel) rfl (fun H locs hP hD hS => ?_)
  clear hz
  obtain ⟨x4_2, e_, hf⟩ := mb_let_s hf
  refine mb_topi e_ ?_
  clear e_
  refine lv_istore (lv' := [(4, .int x4_2), (0, .ref (b0 0)), (1, .int x1), (2, .int x2), (3, .int x3)]) hx hb dX0_surely_7 hl (by decide) rfl (fun ls hl => ?_)
  refine lv_iload hx hb dX0_surely_9 (lv_at hl 0 rfl) ?_
  refine lv_if_ge (tgt := 17) hx hb dX0_surely_11 (by decide) (fun c_18 => ?_) (fun c_18 => ?_)
  · have hf := mb_if_t c_18 hf
    refine lv_aload_n hx hb dX0_surely_17 rfl (lv_at hl 1 rfl) ?_
    refine va_get (D := D) (ci := 0) (v := .ref (b0 3)) (C := RX0) (T := TX0) (N := 8) hx hb hts iw_Decrees hown hK hP 0 rfl rfl 2 (by decide) fl_20 (fun _ h9 => h9) rfl dX0_surely_18 ?_
    refine lv_iload hx hb dX0_surely_21 (lv_at hl 0 rfl) ?_
    obtain ⟨h_3, hf⟩ := mb_chk_s hf
    refine va_iald hx hb hK hP 3 0 rfl rfl h_3 dX0_surely_23 ?_
    obtain ⟨x5_4, e_, hf⟩ := mb_let_s hf
    refine mb_topi e_ ?_
    clear e_
    refine lv_istore (lv' := [(5, .int x5_4), (4, .int x4_2), (0, .ref (b0 0)), (1, .int x1), (2, .int x2), (3, .int x3)]) hx hb dX0_surely_24 hl (by decide) rfl (fun ls hl => ?_)
    refine lv_aload_n hx hb dX0_surely_26 rfl (lv_at hl 2 rfl) ?_
    refine lv_iload_n hx hb dX0_surely_27 rfl (lv_at hl 3 rfl) ?_
    refine lv_iload_n hx hb dX0_surely_28 rfl (lv_at hl 4 rfl) ?_
    refine lv_iload_n hx hb dX0_surely_29 rfl (lv_at hl 5 rfl) ?_
    obtain ⟨r_5, hz, hf⟩ := mb_bd1_s hf
    refine gc_i (r0 := r_5) (ws' := (wC_Decrees k b0 P0)) (wr := ([] : va_W)) (va_runV (As := [.int x1, .int x2, .int x3]) (rest := []) ⟨hx, hb, hml, hown, hts⟩ (c_Decrees_meanings l D k H.size b0 P0 x1 x2 x3 r_5 hz) (cwV 3 hts gX0_surely_X0_meanings rfl rfl rfl (by decide +kernel) ⟨Nat.le_of_ble_eq_true rfl, Nat.le_of_ble_eq_true rfl⟩) (gp_V (ci := 0) (q0 := 0) (q := (RX0, TX0, 8)) hP hD hK hN [0, 1, 2, 3, 4, 5] (by decide +kernel) rfl rfl rfl) rfl rfl hl.1 rfl (lv_room (Nat.le_of_ble_eq_true rfl)) dX0_surely_30 ⟨Nat.zero_le _, Nat.zero_le _⟩) hP hD hS hA [0, 1, 2, 3, 4, 5] [] rfl rfl (by decide +kernel) (by decide +kernel) [0, 1, 2, 3, 4, 5] (by decide +kernel) rfl (fun H locs hP hD hS => ?_)
    clear hz
    refine lv_iconst (v := 1) hx hb dX0_surely_33 (by decide) ?_
    refine lv_iload hx hb dX0_surely_34 (lv_at hl 0 rfl) ?_
    refine lv_ishl hx hb dX0_surely_36 ?_
    refine lv_iconst (v := (-1)) hx hb dX0_surely_37 (by decide) ?_
    refine lv_ixor hx hb dX0_surely_38 ?_
    refine lv_iand hx hb dX0_surely_39 ?_
    obtain ⟨x6_6, e_, hf⟩ := mb_let_s hf
    refine mb_topi e_ ?_
    clear e_
    refine lv_istore (lv' := [(6, .int x6_6), (5, .int x5_4), (4, .int x4_2), (0, .ref (b0 0)), (1, .int x1), (2, .int x2), (3, .int x3)]) hx hb dX0_surely_40 hl (by decide) rfl (fun ls hl => ?_)
    refine lv_iconst (v := 0) hx hb dX0_surely_42 (by decide) ?_
    obtain ⟨x7_7, e_, hf⟩ := mb_let_s hf
    refine mb_topi e_ ?_
    clear e_
    refine lv_istore (lv' := [(7, .int x7_7), (6, .int x6_6), (5, .int x5_4), (4, .int x4_2), (0, .ref (b0 0)), (1, .int x1), (2, .int x2), (3, .int x3)]) hx hb dX0_surely_43 hl (by decide) rfl (fun ls hl => ?_)
    have lp45_8 : ∀ (n : Nat) (x7_10 : Int32) (H : Heap) (locs : List Loc) (ls : Array Slot), f_Decrees_surely_45 P0 x2 x3 x5_4 x6_6 n x7_10 = some z → va_P D vwCl (wC_Decrees k b0 P0) H → va_D A (wC_Decrees k b0 P0) → va_S A s.heap H locs → lv_has ls 8 [(0, .ref (b0 0)), (2, .int x2), (3, .int x3), (5, .int x5_4), (6, .int x6_6), (7, .int x7_10)] → W p l e rm_Decrees_surely s m args below meth c H locs 0 0 Q (F0 m 45 ls []) := by
      intro n
      induction n with
      | zero =>
        intro x7_10 H locs ls hf
        exact nomatch (show (none : Option (Int32)) = some z from hf)
      | succ n ih_9 =>
        intro x7_10 H locs ls hf hP hD hS hl
        have hf : f_Decrees_surely_45_b P0 x2 x3 x5_4 x6_6 (f_Decrees_surely_45 P0 x2 x3 x5_4 x6_6 n) x7_10 = some z := hf
        unfold f_Decrees_surely_45_b at hf
        refine lv_iload hx hb dX0_surely_45 (lv_at hl 5 rfl) ?_
        refine lv_bipush (v := 16) hx hb dX0_surely_47 (by decide) ?_
        refine lv_icmp_ge (tgt := 82) hx hb dX0_surely_49 (by decide) (fun c_17 => ?_) (fun c_17 => ?_)
        · have hf := mb_if_t c_17 hf
          refine lv_iload hx hb dX0_surely_82 (lv_at hl 3 rfl) ?_
          have hz := Option.some.inj hf
          subst hz
          exact hret _ _ _ _ dX0_surely_84 hP hD hS
        · have hf := mb_if_f c_17 hf
          refine lv_iload hx hb dX0_surely_52 (lv_at hl 4 rfl) ?_
          refine lv_iload hx hb dX0_surely_54 (lv_at hl 5 rfl) ?_
          refine lv_ishr hx hb dX0_surely_56 ?_
          refine lv_iconst (v := 1) hx hb dX0_surely_57 (by decide) ?_
          refine lv_iand hx hb dX0_surely_58 ?_
          refine lv_if_eq (tgt := 76) hx hb dX0_surely_59 (by decide) (fun c_16 => ?_) (fun c_16 => ?_)
          · have hf := mb_if_t c_16 hf
            obtain ⟨x7_12, e_, hf⟩ := mb_let_s hf
            refine lv_iinc (v := x7_12) (lv' := [(7, .int x7_12), (0, .ref (b0 0)), (2, .int x2), (3, .int x3), (5, .int x5_4), (6, .int x6_6)]) hx hb dX0_surely_76 hl (k := 5) rfl (by rw [e_]; rfl) (by decide) rfl (fun ls hl => ?_)
            clear e_
            refine lv_goto (tgt := 45) hx hb dX0_surely_79 (by decide) ?_
            exact ih_9 x7_12 _ _ _ hf hP hD hS (lv_sub hl [1, 2, 3, 4, 5, 0] rfl)
          · have hf := mb_if_f c_16 hf
            refine lv_aload_n hx hb dX0_surely_62 rfl (lv_at hl 0 rfl) ?_
            refine lv_iload hx hb dX0_surely_63 (lv_at hl 5 rfl) ?_
            refine lv_iload_n hx hb dX0_surely_65 rfl (lv_at hl 1 rfl) ?_
            refine lv_iload_n hx hb dX0_surely_66 rfl (lv_at hl 2 rfl) ?_
            obtain ⟨r_13, hz, hf⟩ := mb_bd1_s hf
            refine gc_i (r0 := r_13) (ws' := (wC_Decrees k b0 P0)) (wr := ([] : va_W)) (va_runV (As := [.int x7_10, .int x2, .int x3]) (rest := []) ⟨hx, hb, hml, hown, hts⟩ (c_Decrees_lets l D k H.size b0 P0 x7_10 x2 x3 r_13 hz) (cwV 3 hts gX0_surely_X0_lets rfl rfl rfl (by decide +kernel) ⟨Nat.le_of_ble_eq_true rfl, Nat.le_of_ble_eq_true rfl⟩) (gp_V (ci := 0) (q0 := 0) (q := (RX0, TX0, 8)) hP hD hK hN [0, 1, 2, 3, 4, 5] (by decide +kernel) rfl rfl rfl) rfl rfl hl.1 rfl (lv_room (Nat.le_of_ble_eq_true rfl)) dX0_surely_67 ⟨Nat.zero_le _, Nat.zero_le _⟩) hP hD hS hA [0, 1, 2, 3, 4, 5] [] rfl rfl (by decide +kernel) (by decide +kernel) [0, 1, 2, 3, 4, 5] (by decide +kernel) rfl (fun H locs hP hD hS => ?_)
            clear hz
            refine lv_if_eq (tgt := 76) hx hb dX0_surely_70 (by decide) (fun c_15 => ?_) (fun c_15 => ?_)
            · have hf := mb_if_t c_15 hf
              obtain ⟨x7_14, e_, hf⟩ := mb_let_s hf
              refine lv_iinc (v := x7_14) (lv' := [(7, .int x7_14), (0, .ref (b0 0)), (2, .int x2), (3, .int x3), (5, .int x5_4), (6, .int x6_6)]) hx hb dX0_surely_76 hl (k := 5) rfl (by rw [e_]; rfl) (by decide) rfl (fun ls hl => ?_)
              clear e_
              refine lv_goto (tgt := 45) hx hb dX0_surely_79 (by decide) ?_
              exact ih_9 x7_14 _ _ _ hf hP hD hS (lv_sub hl [1, 2, 3, 4, 5, 0] rfl)
            · have hf := mb_if_f c_15 hf
              refine lv_bipush (v := (-4)) hx hb dX0_surely_73 (by decide) ?_
              have hz := Option.some.inj hf
              subst hz
              exact hret _ _ _ _ dX0_surely_75 hP hD hS
    exact lp45_8 mb_fu x7_7 _ _ _ hf hP hD hS (lv_sub hl [4, 6, 7, 2, 1, 0] rfl)
  · have hf := mb_if_f c_18 hf
    refine lv_bipush (v := (-4)) hx hb dX0_surely_14 (by decide) ?_
    have hz := Option.some.inj hf
    subst hz
    exact hret _ _ _ _ dX0_surely_16 hP hD hS
def f_One_means (P1 : PI) (x1 : Int32) (x2 : Int32) (x3 : Int32) (x4 : Int32) : Option (Int32) := mb_bd1 (f_One_within x1 (0 : Int32) (9 : Int32)) (fun (r_1 : Int32) => (if r_1 = 0 then some (-1 : Int32) else mb_bd1 (f_One_isDistrict x2) (fun (r_2 : Int32) => (if r_2 = 0 then some (-1 : Int32) else mb_bd1 (f_One_isDay x3) (fun (r_3 : Int32) => (if r_3 = 0 then some (-1 : Int32) else mb_bd1 (f_One_within x4 (0 : Int32) (1 : Int32)) (fun (r_4 : Int32) => (if r_4 = 0 then some (-1 : Int32) else (if x4 = 0 then mb_bd1 (f_Decrees_meanings P1 x1 x2 x3) (fun (r_6 : Int32) => some r_6) else mb_bd1 (f_Decrees_surely P1 x1 x2 x3) (fun (r_5 : Int32) => some r_5))))))))))
def rm_One_means : Room := { frames := 4, cells := 0, slots := 0, locals := 100 }
set_option maxHeartbeats 4000000 in
set_option maxRecDepth 100000 in
theorem c_One_means (l : Launch) (D : va_G) (k : Nat → ClassId) (sz : Nat) (a0 : Nat → Nat → Nat) (P0 : PI) (P1 : PI) (x1 : Int32) (x2 : Int32) (x3 : Int32) (x4 : Int32) (z : Int32) (hf : f_One_means P1 x1 x2 x3 x4 = some z) : Met l yX11_means wsX11_means rm_One_means (va_Pc [.ref (a0 0 0), .int x1, .int x2, .int x3, .int x4] (gw_pre D vwCl (tyL k) (wC_One k a0 P0 ++ (wC_Decrees k (a0 7) P1)) sz)) (va_Qi (fun (r : Int32) (_ : Unit) => r = z) (gw_b D vwCl (tyL k) (va_A (wC_One k a0 P0 ++ (wC_Decrees k (a0 7) P1)) sz) (wC_One k a0 P0 ++ (wC_Decrees k (a0 7) P1))) (va_A (wC_One k a0 P0 ++ (wC_Decrees k (a0 7) P1)) sz)) 0 0 (va_A (wC_One k a0 P0 ++ (wC_Decrees k (a0 7) P1)) sz) := by
  refine gm_i (cc := cX11_means) (maxL := 5) (by decide) rfl (Nat.le_of_ble_eq_true rfl) ?_
  intro p e s m args below meth c A Q ls H locs hx hb hml hown hts hK hN hA hP hD hS hl hret
  have hown : s.vm.findClass RX11 = some m.cls := hown
  have hl : lv_has ls 5 [(0, .ref (a0 0 0)), (1, .int x1), (2, .int x2), (3, .int x3), (4, .int x4)] := hl
  have iw_One : ∀ w ∈ u_ws RX11 TX11 16, w ∈ wsX11_means := by decide +kernel
  have fl_54 := hts (.fieldLink RX11 54 "OneMeasure" "decrees" "LOneMeasure$Decrees;") (by decide +kernel)
  unfold f_One_means at hf
  refine lv_iload_n hx hb dX11_means_0 rfl (lv_at hl 1 rfl) ?_
  refine lv_iconst (v := 0) hx hb dX11_means_1 (by decide) ?_
  refine lv_bipush (v := 9) hx hb dX11_means_2 (by decide) ?_
  obtain ⟨r_1, hz, hf⟩ := mb_bd1_s hf
  refine gc_i (r0 := r_1) (ws' := (wC_One k a0 P0 ++ (wC_Decrees k (a0 7) P1))) (wr := (wC_One k a0 P0 ++ (wC_Decrees k (a0 7) P1))) (va_runS (As := [.int x1, .int (0 : Int32), .int (9 : Int32)]) (rest := []) ⟨hx, hb, hml, hown, hts⟩ (c_One_within l D k H.size x1 (0 : Int32) (9 : Int32) r_1 hz) (cwS 3 hts gX11_means_X11_within rfl rfl rfl (by decide +kernel) ⟨Nat.le_of_ble_eq_true rfl, Nat.le_of_ble_eq_true rfl⟩) (gp_S hP hD hK hN [] (by decide +kernel) rfl) rfl rfl hl.1 rfl (lv_room (Nat.le_of_ble_eq_true rfl)) dX11_means_4 ⟨Nat.zero_le _, Nat.zero_le _⟩) hP hD hS hA [] [0, 1, 2, 3, 4, 5, 6, 7, 8, 9] rfl rfl (by decide +kernel) (by decide +kernel) [0, 1, 2, 3, 4, 5, 6, 7, 8, 9] (by decide +kernel) rfl (fun H locs hP hD hS => ?_)
  clear hz
  refine lv_if_eq (tgt := 17) hx hb dX11_means_7 (by decide) (fun c_11 => ?_) (fun c_11 => ?_)
  · have hf := mb_if_t c_11 hf
    refine lv_iconst (v := (-1)) hx hb dX11_means_17 (by decide) ?_
    have hz := Option.some.inj hf
    subst hz
    exact hret _ _ _ _ dX11_means_18 hP hD hS
  · have hf := mb_if_f c_11 hf
    refine lv_iload_n hx hb dX11_means_10 rfl (lv_at hl 2 rfl) ?_
    obtain ⟨r_2, hz, hf⟩ := mb_bd1_s hf
    refine gc_i (r0 := r_2) (ws' := (wC_One k a0 P0 ++ (wC_Decrees k (a0 7) P1))) (wr := (wC_One k a0 P0 ++ (wC_Decrees k (a0 7) P1))) (va_runS (As := [.int x2]) (rest := []) ⟨hx, hb, hml, hown, hts⟩ (c_One_isDistrict l D k H.size x2 r_2 hz) (cwS 1 hts gX11_means_X11_isDistrict rfl rfl rfl (by decide +kernel) ⟨Nat.le_of_ble_eq_true rfl, Nat.le_of_ble_eq_true rfl⟩) (gp_S hP hD hK hN [] (by decide +kernel) rfl) rfl rfl hl.1 rfl (lv_room (Nat.le_of_ble_eq_true rfl)) dX11_means_11 ⟨Nat.zero_le _, Nat.zero_le _⟩) hP hD hS hA [] [0, 1, 2, 3, 4, 5, 6, 7, 8, 9] rfl rfl (by decide +kernel) (by decide +kernel) [0, 1, 2, 3, 4, 5, 6, 7, 8, 9] (by decide +kernel) rfl (fun H locs hP hD hS => ?_)
    clear hz
    refine lv_if_ne (tgt := 19) hx hb dX11_means_14 (by decide) (fun c_10 => ?_) (fun c_10 => ?_)
    · have hf := mb_if_f c_10 hf
      refine lv_iload_n hx hb dX11_means_19 rfl (lv_at hl 3 rfl) ?_
      obtain ⟨r_3, hz, hf⟩ := mb_bd1_s hf
      refine gc_i (r0 := r_3) (ws' := (wC_One k a0 P0 ++ (wC_Decrees k (a0 7) P1))) (wr := (wC_One k a0 P0 ++ (wC_Decrees k (a0 7) P1))) (va_runS (As := [.int x3]) (rest := []) ⟨hx, hb, hml, hown, hts⟩ (c_One_isDay l D k H.size x3 r_3 hz) (cwS 1 hts gX11_means_X11_isDay rfl rfl rfl (by decide +kernel) ⟨Nat.le_of_ble_eq_true rfl, Nat.le_of_ble_eq_true rfl⟩) (gp_S hP hD hK hN [] (by decide +kernel) rfl) rfl rfl hl.1 rfl (lv_room (Nat.le_of_ble_eq_true rfl)) dX11_means_20 ⟨Nat.zero_le _, Nat.zero_le _⟩) hP hD hS hA [] [0, 1, 2, 3, 4, 5, 6, 7, 8, 9] rfl rfl (by decide +kernel) (by decide +kernel) [0, 1, 2, 3, 4, 5, 6, 7, 8, 9] (by decide +kernel) rfl (fun H locs hP hD hS => ?_)
      clear hz
      refine lv_if_eq (tgt := 36) hx hb dX11_means_23 (by decide) (fun c_9 => ?_) (fun c_9 => ?_)
      · have hf := mb_if_t c_9 hf
        refine lv_iconst (v := (-1)) hx hb dX11_means_36 (by decide) ?_
        have hz := Option.some.inj hf
        subst hz
        exact hret _ _ _ _ dX11_means_37 hP hD hS
      · have hf := mb_if_f c_9 hf
        refine lv_iload hx hb dX11_means_26 (lv_at hl 4 rfl) ?_
        refine lv_iconst (v := 0) hx hb dX11_means_28 (by decide) ?_
        refine lv_iconst (v := 1) hx hb dX11_means_29 (by decide) ?_
        obtain ⟨r_4, hz, hf⟩ := mb_bd1_s hf
        refine gc_i (r0 := r_4) (ws' := (wC_One k a0 P0 ++ (wC_Decrees k (a0 7) P1))) (wr := (wC_One k a0 P0 ++ (wC_Decrees k (a0 7) P1))) (va_runS (As := [.int x4, .int (0 : Int32), .int (1 : Int32)]) (rest := []) ⟨hx, hb, hml, hown, hts⟩ (c_One_within l D k H.size x4 (0 : Int32) (1 : Int32) r_4 hz) (cwS 3 hts gX11_means_X11_within rfl rfl rfl (by decide +kernel) ⟨Nat.le_of_ble_eq_true rfl, Nat.le_of_ble_eq_true rfl⟩) (gp_S hP hD hK hN [] (by decide +kernel) rfl) rfl rfl hl.1 rfl (lv_room (Nat.le_of_ble_eq_true rfl)) dX11_means_30 ⟨Nat.zero_le _, Nat.zero_le _⟩) hP hD hS hA [] [0, 1, 2, 3, 4, 5, 6, 7, 8, 9] rfl rfl (by decide +kernel) (by decide +kernel) [0, 1, 2, 3, 4, 5, 6, 7, 8, 9] (by decide +kernel) rfl (fun H locs hP hD hS => ?_)
        clear hz
        refine lv_if_ne (tgt := 38) hx hb dX11_means_33 (by decide) (fun c_8 => ?_) (fun c_8 => ?_)
        · have hf := mb_if_f c_8 hf
          refine lv_iload hx hb dX11_means_38 (lv_at hl 4 rfl) ?_
          refine lv_if_ne (tgt := 56) hx hb dX11_means_40 (by decide) (fun c_7 => ?_) (fun c_7 => ?_)
          · have hf := mb_if_f c_7 hf
            refine lv_aload_n hx hb dX11_means_56 rfl (lv_at hl 0 rfl) ?_
            refine va_get (D := D) (ci := 11) (v := .ref (a0 7 0)) (C := RX11) (T := TX11) (N := 16) hx hb hts iw_One hown hK hP 0 rfl rfl 6 (by decide) fl_54 (fun _ h9 => h9) rfl dX11_means_57 ?_
            refine lv_iload_n hx hb dX11_means_60 rfl (lv_at hl 1 rfl) ?_
            refine lv_iload_n hx hb dX11_means_61 rfl (lv_at hl 2 rfl) ?_
            refine lv_iload_n hx hb dX11_means_62 rfl (lv_at hl 3 rfl) ?_
            obtain ⟨r_5, hz, hf⟩ := mb_bd1_s hf
            refine gc_i (r0 := r_5) (ws' := (wC_One k a0 P0 ++ (wC_Decrees k (a0 7) P1))) (wr := (wC_One k a0 P0)) (va_runV (As := [.int x1, .int x2, .int x3]) (rest := []) ⟨hx, hb, hml, hown, hts⟩ (c_Decrees_surely l D k H.size (a0 7) P1 x1 x2 x3 r_5 hz) (cwV 3 hts gX11_means_X0_surely rfl rfl rfl (by decide +kernel) ⟨Nat.le_of_ble_eq_true rfl, Nat.le_of_ble_eq_true rfl⟩) (gp_V (ci := 0) (q0 := 0) (q := (RX0, TX0, 8)) hP hD hK hN [4, 5, 6, 7, 8, 9] (by decide +kernel) rfl rfl rfl) rfl rfl hl.1 rfl (lv_room (Nat.le_of_ble_eq_true rfl)) dX11_means_63 ⟨Nat.zero_le _, Nat.zero_le _⟩) hP hD hS hA [4, 5, 6, 7, 8, 9] [0, 1, 2, 3] rfl rfl (by decide +kernel) (by decide +kernel) [0, 1, 2, 3, 4, 5, 6, 7, 8, 9] (by decide +kernel) rfl (fun H locs hP hD hS => ?_)
            clear hz
            have hz := Option.some.inj hf
            subst hz
            exact hret _ _ _ _ dX11_means_66 hP hD hS
          · have hf := mb_if_t c_7 hf
            refine lv_aload_n hx hb dX11_means_43 rfl (lv_at hl 0 rfl) ?_
            refine va_get (D := D) (ci := 11) (v := .ref (a0 7 0)) (C := RX11) (T := TX11) (N := 16) hx hb hts iw_One hown hK hP 0 rfl rfl 6 (by decide) fl_54 (fun _ h9 => h9) rfl dX11_means_44 ?_
            refine lv_iload_n hx hb dX11_means_47 rfl (lv_at hl 1 rfl) ?_
            refine lv_iload_n hx hb dX11_means_48 rfl (lv_at hl 2 rfl) ?_
            refine lv_iload_n hx hb dX11_means_49 rfl (lv_at hl 3 rfl) ?_
            obtain ⟨r_6, hz, hf⟩ := mb_bd1_s hf
            refine gc_i (r0 := r_6) (ws' := (wC_One k a0 P0 ++ (wC_Decrees k (a0 7) P1))) (wr := (wC_One k a0 P0)) (va_runV (As := [.int x1, .int x2, .int x3]) (rest := []) ⟨hx, hb, hml, hown, hts⟩ (c_Decrees_meanings l D k H.size (a0 7) P1 x1 x2 x3 r_6 hz) (cwV 3 hts gX11_means_X0_meanings rfl rfl rfl (by decide +kernel) ⟨Nat.le_of_ble_eq_true rfl, Nat.le_of_ble_eq_true rfl⟩) (gp_V (ci := 0) (q0 := 0) (q := (RX0, TX0, 8)) hP hD hK hN [4, 5, 6, 7, 8, 9] (by decide +kernel) rfl rfl rfl) rfl rfl hl.1 rfl (lv_room (Nat.le_of_ble_eq_true rfl)) dX11_means_50 ⟨Nat.zero_le _, Nat.zero_le _⟩) hP hD hS hA [4, 5, 6, 7, 8, 9] [0, 1, 2, 3] rfl rfl (by decide +kernel) (by decide +kernel) [0, 1, 2, 3, 4, 5, 6, 7, 8, 9] (by decide +kernel) rfl (fun H locs hP hD hS => ?_)
            clear hz
            refine lv_goto (tgt := 66) hx hb dX11_means_53 (by decide) ?_
            have hz := Option.some.inj hf
            subst hz
            exact hret _ _ _ _ dX11_means_66 hP hD hS
        · have hf := mb_if_t c_8 hf
          refine lv_iconst (v := (-1)) hx hb dX11_means_36 (by decide) ?_
          have hz := Option.some.inj hf
          subst hz
          exact hret _ _ _ _ dX11_means_37 hP hD hS
    · have hf := mb_if_t c_10 hf
      refine lv_iconst (v := (-1)) hx hb dX11_means_17 (by decide) ?_
      have hz := Option.some.inj hf
      subst hz
      exact hret _ _ _ _ dX11_means_18 hP hD hS
def f_Papers_add (P0 : PI) (x1 : Int32) (x2 : Int32) (x3 : Int32) (x4 : Int32) (x5 : Int32) : Option (Int32 × PI) := mb_chk (P0 0 5) 10 (mb_let (mb_u2 P0 1 (P0 0 5).toNatClampNeg x1) (fun (P0_1 : PI) => mb_chk (P0_1 0 5) 10 (mb_let (mb_u2 P0_1 2 (P0_1 0 5).toNatClampNeg x2) (fun (P0_3 : PI) => mb_chk (P0_3 0 5) 10 (mb_let (mb_u2 P0_3 3 (P0_3 0 5).toNatClampNeg x3) (fun (P0_5 : PI) => mb_chk (P0_5 0 5) 10 (mb_let (mb_u2 P0_5 4 (P0_5 0 5).toNatClampNeg x4) (fun (P0_7 : PI) => mb_chk (P0_7 0 5) 10 (mb_let (mb_u2 P0_7 5 (P0_7 0 5).toNatClampNeg x5) (fun (P0_9 : PI) => mb_let (mb_uo P0_9 5 ((P0_9 0 5) + (1 : Int32))) (fun (P0_11 : PI) => some ((P0_9 0 5), P0_11))))))))))))
def rm_Papers_add : Room := { frames := 0, cells := 0, slots := 0, locals := 0 }
set_option maxHeartbeats 4000000 in
set_option maxRecDepth 100000 in
theorem c_Papers_add (l : Launch) (D : va_G) (k : Nat → ClassId) (sz : Nat) (b0 : Nat → Nat) (P0 : PI) (L0 : PL) (x1 : Int32) (x2 : Int32) (x3 : Int32) (x4 : Int32) (x5 : Int32) (z : Int32 × PI) (hf : f_Papers_add P0 x1 x2 x3 x4 x5 = some z) : Met l yX3_add wsX3_add rm_Papers_add (va_Pc [.ref (b0 0), .int x1, .int x2, .int x3, .int x4, .int x5] (gw_pre D vwCl (tyL k) (wC_Papers k b0 P0 L0) sz)) (va_Qi (fun (r : Int32) (_ : Unit) => r = z.1) (gw_b D vwCl (tyL k) (va_A (wC_Papers k b0 P0 L0) sz) (wC_Papers k b0 z.2 L0)) (va_A (wC_Papers k b0 P0 L0) sz)) 0 0 (va_A (wC_Papers k b0 P0 L0) sz) := by
  refine gm_i (cc := cX3_add) (maxL := 6) (by decide) rfl (Nat.le_of_ble_eq_true rfl) ?_
  intro p e s m args below meth c A Q ls H locs hx hb hml hown hts hK hN hA hP hD hS hl hret
  have hown : s.vm.findClass RX3 = some m.cls := hown
  have hl : lv_has ls 6 [(0, .ref (b0 0)), (1, .int x1), (2, .int x2), (3, .int x3), (4, .int x4), (5, .int x5)] := hl
  have iw_Papers : ∀ w ∈ u_ws RX3 TX3 9, w ∈ wsX3_add := by decide +kernel
  have fl_9 := hts (.fieldLink RX3 9 "OneMeasure$Papers" "district" "[I") (by decide +kernel)
  have fl_13 := hts (.fieldLink RX3 13 "OneMeasure$Papers" "word" "[I") (by decide +kernel)
  have fl_16 := hts (.fieldLink RX3 16 "OneMeasure$Papers" "day" "[I") (by decide +kernel)
  have fl_19 := hts (.fieldLink RX3 19 "OneMeasure$Papers" "amount" "[I") (by decide +kernel)
  have fl_22 := hts (.fieldLink RX3 22 "OneMeasure$Papers" "reading" "[I") (by decide +kernel)
  have fl_25 := hts (.fieldLink RX3 25 "OneMeasure$Papers" "count" "I") (by decide +kernel)
  unfold f_Papers_add at hf
  refine lv_aload_n hx hb dX3_add_0 rfl (lv_at hl 0 rfl) ?_
  refine va_get (D := D) (ci := 3) (v := .ref (b0 1)) (C := RX3) (T := TX3) (N := 9) hx hb hts iw_Papers hown hK hP 0 rfl rfl 0 (by decide) fl_9 (fun _ h9 => h9) rfl dX3_add_1 ?_
  refine lv_aload_n hx hb dX3_add_4 rfl (lv_at hl 0 rfl) ?_
  refine va_get (D := D) (ci := 3) (v := .int (P0 0 5)) (C := RX3) (T := TX3) (N := 9) hx hb hts iw_Papers hown hK hP 0 rfl rfl 5 (by decide) fl_25 (fun _ h9 => h9) rfl dX3_add_5 ?_
  refine lv_iload_n hx hb dX3_add_8 rfl (lv_at hl 1 rfl) ?_
  obtain ⟨h_2, hf⟩ := mb_chk_s hf
  obtain ⟨P0_1, e_, hf⟩ := mb_let_s hf
  refine va_iast hx hb hK hP hD hS 1 0 rfl rfl h_2 dX3_add_9 (fun H locs hP hD hS => ?_)
  have hP : va_P D vwCl (wC_Papers k b0 P0_1 L0) H := by rw [e_]; exact hP
  have hD : va_D A (wC_Papers k b0 P0_1 L0) := by rw [e_]; exact hD
  clear e_
  refine lv_aload_n hx hb dX3_add_10 rfl (lv_at hl 0 rfl) ?_
  refine va_get (D := D) (ci := 3) (v := .ref (b0 2)) (C := RX3) (T := TX3) (N := 9) hx hb hts iw_Papers hown hK hP 0 rfl rfl 1 (by decide) fl_13 (fun _ h9 => h9) rfl dX3_add_11 ?_
  refine lv_aload_n hx hb dX3_add_14 rfl (lv_at hl 0 rfl) ?_
  refine va_get (D := D) (ci := 3) (v := .int (P0_1 0 5)) (C := RX3) (T := TX3) (N := 9) hx hb hts iw_Papers hown hK hP 0 rfl rfl 5 (by decide) fl_25 (fun _ h9 => h9) rfl dX3_add_15 ?_
  refine lv_iload_n hx hb dX3_add_18 rfl (lv_at hl 2 rfl) ?_
  obtain ⟨h_4, hf⟩ := mb_chk_s hf
  obtain ⟨P0_3, e_, hf⟩ := mb_let_s hf
  refine va_iast hx hb hK hP hD hS 2 0 rfl rfl h_4 dX3_add_19 (fun H locs hP hD hS => ?_)
  have hP : va_P D vwCl (wC_Papers k b0 P0_3 L0) H := by rw [e_]; exact hP
  have hD : va_D A (wC_Papers k b0 P0_3 L0) := by rw [e_]; exact hD
  clear e_
  refine lv_aload_n hx hb dX3_add_20 rfl (lv_at hl 0 rfl) ?_
  refine va_get (D := D) (ci := 3) (v := .ref (b0 3)) (C := RX3) (T := TX3) (N := 9) hx hb hts iw_Papers hown hK hP 0 rfl rfl 2 (by decide) fl_16 (fun _ h9 => h9) rfl dX3_add_21 ?_
  refine lv_aload_n hx hb dX3_add_24 rfl (lv_at hl 0 rfl) ?_
  refine va_get (D := D) (ci := 3) (v := .int (P0_3 0 5)) (C := RX3) (T := TX3) (N := 9) hx hb hts iw_Papers hown hK hP 0 rfl rfl 5 (by decide) fl_25 (fun _ h9 => h9) rfl dX3_add_25 ?_
  refine lv_iload_n hx hb dX3_add_28 rfl (lv_at hl 3 rfl) ?_
  obtain ⟨h_6, hf⟩ := mb_chk_s hf
  obtain ⟨P0_5, e_, hf⟩ := mb_let_s hf
  refine va_iast hx hb hK hP hD hS 3 0 rfl rfl h_6 dX3_add_29 (fun H locs hP hD hS => ?_)
  have hP : va_P D vwCl (wC_Papers k b0 P0_5 L0) H := by rw [e_]; exact hP
  have hD : va_D A (wC_Papers k b0 P0_5 L0) := by rw [e_]; exact hD
  clear e_
  refine lv_aload_n hx hb dX3_add_30 rfl (lv_at hl 0 rfl) ?_
  refine va_get (D := D) (ci := 3) (v := .ref (b0 4)) (C := RX3) (T := TX3) (N := 9) hx hb hts iw_Papers hown hK hP 0 rfl rfl 3 (by decide) fl_19 (fun _ h9 => h9) rfl dX3_add_31 ?_
  refine lv_aload_n hx hb dX3_add_34 rfl (lv_at hl 0 rfl) ?_
  refine va_get (D := D) (ci := 3) (v := .int (P0_5 0 5)) (C := RX3) (T := TX3) (N := 9) hx hb hts iw_Papers hown hK hP 0 rfl rfl 5 (by decide) fl_25 (fun _ h9 => h9) rfl dX3_add_35 ?_
  refine lv_iload hx hb dX3_add_38 (lv_at hl 4 rfl) ?_
  obtain ⟨h_8, hf⟩ := mb_chk_s hf
  obtain ⟨P0_7, e_, hf⟩ := mb_let_s hf
  refine va_iast hx hb hK hP hD hS 4 0 rfl rfl h_8 dX3_add_40 (fun H locs hP hD hS => ?_)
  have hP : va_P D vwCl (wC_Papers k b0 P0_7 L0) H := by rw [e_]; exact hP
  have hD : va_D A (wC_Papers k b0 P0_7 L0) := by rw [e_]; exact hD
  clear e_
  refine lv_aload_n hx hb dX3_add_41 rfl (lv_at hl 0 rfl) ?_
  refine va_get (D := D) (ci := 3) (v := .ref (b0 5)) (C := RX3) (T := TX3) (N := 9) hx hb hts iw_Papers hown hK hP 0 rfl rfl 4 (by decide) fl_22 (fun _ h9 => h9) rfl dX3_add_42 ?_
  refine lv_aload_n hx hb dX3_add_45 rfl (lv_at hl 0 rfl) ?_
  refine va_get (D := D) (ci := 3) (v := .int (P0_7 0 5)) (C := RX3) (T := TX3) (N := 9) hx hb hts iw_Papers hown hK hP 0 rfl rfl 5 (by decide) fl_25 (fun _ h9 => h9) rfl dX3_add_46 ?_
  refine lv_iload hx hb dX3_add_49 (lv_at hl 5 rfl) ?_
  obtain ⟨h_10, hf⟩ := mb_chk_s hf
  obtain ⟨P0_9, e_, hf⟩ := mb_let_s hf
  refine va_iast hx hb hK hP hD hS 5 0 rfl rfl h_10 dX3_add_51 (fun H locs hP hD hS => ?_)
  have hP : va_P D vwCl (wC_Papers k b0 P0_9 L0) H := by rw [e_]; exact hP
  have hD : va_D A (wC_Papers k b0 P0_9 L0) := by rw [e_]; exact hD
  clear e_
  refine lv_aload_n hx hb dX3_add_52 rfl (lv_at hl 0 rfl) ?_
  refine lv_dup hx hb dX3_add_53 rfl ?_
  refine va_get (D := D) (ci := 3) (v := .int (P0_9 0 5)) (C := RX3) (T := TX3) (N := 9) hx hb hts iw_Papers hown hK hP 0 rfl rfl 5 (by decide) fl_25 (fun _ h9 => h9) rfl dX3_add_54 ?_
  refine lv_dup_x1 hx hb dX3_add_57 rfl rfl ?_
  refine lv_iconst (v := 1) hx hb dX3_add_58 (by decide) ?_
  refine lv_iadd hx hb dX3_add_59 ?_
  obtain ⟨P0_11, e_, hf⟩ := mb_let_s hf
  refine va_put (D := D) (ci := 3) (v := .int ((P0_9 0 5) + (1 : Int32))) (ty := .int) (C := RX3) (T := TX3) (N := 9) hx hb hts iw_Papers tyX3 tyX3_ok nmX3 hown hK hP hD hS 0 rfl rfl 5 (by decide) fl_25 (fun _ h9 => h9) rfl (by decide +kernel) rfl rfl (Nat.le_of_ble_eq_true rfl) dX3_add_60 (fun H locs hP hD hS => ?_)
  have hP : va_P D vwCl (wC_Papers k b0 P0_11 L0) H := by rw [e_]; exact hP
  have hD : va_D A (wC_Papers k b0 P0_11 L0) := by rw [e_]; exact hD
  clear e_
  have hz := Option.some.inj hf
  subst hz
  exact hret _ _ _ _ dX3_add_63 hP hD hS
def f_One_paper (P1 : PI) (x1 : Int32) (x2 : Int32) (x3 : Int32) (x4 : Int32) (x5 : Int32) : Option (Int32 × PI) := mb_bd1 (f_One_isDistrict x1) (fun (r_1 : Int32) => (if r_1 = 0 then some ((-1 : Int32), P1) else mb_bd1 (f_One_within x2 (0 : Int32) (9 : Int32)) (fun (r_2 : Int32) => (if r_2 = 0 then some ((-1 : Int32), P1) else mb_bd1 (f_One_isDay x3) (fun (r_3 : Int32) => (if r_3 = 0 then some ((-1 : Int32), P1) else mb_bd1 (f_One_within x4 (1 : Int32) (1000000 : Int32)) (fun (r_4 : Int32) => (if r_4 = 0 then some ((-1 : Int32), P1) else mb_bd1 (f_One_within x5 (0 : Int32) (2 : Int32)) (fun (r_5 : Int32) => (if r_5 = 0 then some ((-1 : Int32), P1) else (if (P1 0 5) < (10 : Int32) then mb_bd2 (f_Papers_add P1 x1 x2 x3 x4 x5) (fun (r_6 : Int32) (P1_7 : PI) => some (r_6, P1_7)) else some ((-3 : Int32), P1))))))))))))
def rm_One_paper : Room := { frames := 2, cells := 0, slots := 0, locals := 42 }
set_option maxHeartbeats 4000000 in
set_option maxRecDepth 100000 in
theorem c_One_paper (l : Launch) (D : va_G) (k : Nat → ClassId) (sz : Nat) (a0 : Nat → Nat → Nat) (P0 : PI) (P1 : PI) (L1 : PL) (x1 : Int32) (x2 : Int32) (x3 : Int32) (x4 : Int32) (x5 : Int32) (z : Int32 × PI) (hf : f_One_paper P1 x1 x2 x3 x4 x5 = some z) : Met l yX11_paper wsX11_paper rm_One_paper (va_Pc [.ref (a0 0 0), .int x1, .int x2, .int x3, .int x4, .int x5] (gw_pre D vwCl (tyL k) (wC_One k a0 P0 ++ (wC_Papers k (a0 8) P1 L1)) sz)) (va_Qi (fun (r : Int32) (_ : Unit) => r = z.1) (gw_b D vwCl (tyL k) (va_A (wC_One k a0 P0 ++ (wC_Papers k (a0 8) P1 L1)) sz) (wC_One k a0 P0 ++ (wC_Papers k (a0 8) z.2 L1))) (va_A (wC_One k a0 P0 ++ (wC_Papers k (a0 8) P1 L1)) sz)) 0 0 (va_A (wC_One k a0 P0 ++ (wC_Papers k (a0 8) P1 L1)) sz) := by
  refine gm_i (cc := cX11_paper) (maxL := 6) (by decide) rfl (Nat.le_of_ble_eq_true rfl) ?_
  intro p e s m args below meth c A Q ls H locs hx hb hml hown hts hK hN hA hP hD hS hl hret
  have hown : s.vm.findClass RX11 = some m.cls := hown
  have hl : lv_has ls 6 [(0, .ref (a0 0 0)), (1, .int x1), (2, .int x2), (3, .int x3), (4, .int x4), (5, .int x5)] := hl
  have iw_One : ∀ w ∈ u_ws RX11 TX11 16, w ∈ wsX11_paper := by decide +kernel
  have iw_Papers : ∀ w ∈ u_ws RX3 TX3 9, w ∈ wsX11_paper := by decide +kernel
  have fl_61 := hts (.fieldLink RX11 61 "OneMeasure" "papers" "LOneMeasure$Papers;") (by decide +kernel)
  have fl_242 := hts (.fieldLink RX11 242 "OneMeasure$Papers" "count" "I") (by decide +kernel)
  have lc_109 := hts (.constant RX11 109 (1000000)) (by decide +kernel)
  unfold f_One_paper at hf
  refine lv_iload_n hx hb dX11_paper_0 rfl (lv_at hl 1 rfl) ?_
  obtain ⟨r_1, hz, hf⟩ := mb_bd1_s hf
  refine gc_i (r0 := r_1) (ws' := (wC_One k a0 P0 ++ (wC_Papers k (a0 8) P1 L1))) (wr := (wC_One k a0 P0 ++ (wC_Papers k (a0 8) P1 L1))) (va_runS (As := [.int x1]) (rest := []) ⟨hx, hb, hml, hown, hts⟩ (c_One_isDistrict l D k H.size x1 r_1 hz) (cwS 1 hts gX11_paper_X11_isDistrict rfl rfl rfl (by decide +kernel) ⟨Nat.le_of_ble_eq_true rfl, Nat.le_of_ble_eq_true rfl⟩) (gp_S hP hD hK hN [] (by decide +kernel) rfl) rfl rfl hl.1 rfl (lv_room (Nat.le_of_ble_eq_true rfl)) dX11_paper_1 ⟨Nat.zero_le _, Nat.zero_le _⟩) hP hD hS hA [] [0, 1, 2, 3, 4, 5, 6, 7, 8, 9] rfl rfl (by decide +kernel) (by decide +kernel) [0, 1, 2, 3, 4, 5, 6, 7, 8, 9] (by decide +kernel) rfl (fun H locs hP hD hS => ?_)
  clear hz
  refine lv_if_eq (tgt := 24) hx hb dX11_paper_4 (by decide) (fun c_13 => ?_) (fun c_13 => ?_)
  · have hf := mb_if_t c_13 hf
    refine lv_iconst (v := (-1)) hx hb dX11_paper_24 (by decide) ?_
    have hz := Option.some.inj hf
    subst hz
    exact hret _ _ _ _ dX11_paper_25 hP hD hS
  · have hf := mb_if_f c_13 hf
    refine lv_iload_n hx hb dX11_paper_7 rfl (lv_at hl 2 rfl) ?_
    refine lv_iconst (v := 0) hx hb dX11_paper_8 (by decide) ?_
    refine lv_bipush (v := 9) hx hb dX11_paper_9 (by decide) ?_
    obtain ⟨r_2, hz, hf⟩ := mb_bd1_s hf
    refine gc_i (r0 := r_2) (ws' := (wC_One k a0 P0 ++ (wC_Papers k (a0 8) P1 L1))) (wr := (wC_One k a0 P0 ++ (wC_Papers k (a0 8) P1 L1))) (va_runS (As := [.int x2, .int (0 : Int32), .int (9 : Int32)]) (rest := []) ⟨hx, hb, hml, hown, hts⟩ (c_One_within l D k H.size x2 (0 : Int32) (9 : Int32) r_2 hz) (cwS 3 hts gX11_paper_X11_within rfl rfl rfl (by decide +kernel) ⟨Nat.le_of_ble_eq_true rfl, Nat.le_of_ble_eq_true rfl⟩) (gp_S hP hD hK hN [] (by decide +kernel) rfl) rfl rfl hl.1 rfl (lv_room (Nat.le_of_ble_eq_true rfl)) dX11_paper_11 ⟨Nat.zero_le _, Nat.zero_le _⟩) hP hD hS hA [] [0, 1, 2, 3, 4, 5, 6, 7, 8, 9] rfl rfl (by decide +kernel) (by decide +kernel) [0, 1, 2, 3, 4, 5, 6, 7, 8, 9] (by decide +kernel) rfl (fun H locs hP hD hS => ?_)
    clear hz
    refine lv_if_eq (tgt := 24) hx hb dX11_paper_14 (by decide) (fun c_12 => ?_) (fun c_12 => ?_)
    · have hf := mb_if_t c_12 hf
      refine lv_iconst (v := (-1)) hx hb dX11_paper_24 (by decide) ?_
      have hz := Option.some.inj hf
      subst hz
      exact hret _ _ _ _ dX11_paper_25 hP hD hS
    · have hf := mb_if_f c_12 hf
      refine lv_iload_n hx hb dX11_paper_17 rfl (lv_at hl 3 rfl) ?_
      obtain ⟨r_3, hz, hf⟩ := mb_bd1_s hf
      refine gc_i (r0 := r_3) (ws' := (wC_One k a0 P0 ++ (wC_Papers k (a0 8) P1 L1))) (wr := (wC_One k a0 P0 ++ (wC_Papers k (a0 8) P1 L1))) (va_runS (As := [.int x3]) (rest := []) ⟨hx, hb, hml, hown, hts⟩ (c_One_isDay l D k H.size x3 r_3 hz) (cwS 1 hts gX11_paper_X11_isDay rfl rfl rfl (by decide +kernel) ⟨Nat.le_of_ble_eq_true rfl, Nat.le_of_ble_eq_true rfl⟩) (gp_S hP hD hK hN [] (by decide +kernel) rfl) rfl rfl hl.1 rfl (lv_room (Nat.le_of_ble_eq_true rfl)) dX11_paper_18 ⟨Nat.zero_le _, Nat.zero_le _⟩) hP hD hS hA [] [0, 1, 2, 3, 4, 5, 6, 7, 8, 9] rfl rfl (by decide +kernel) (by decide +kernel) [0, 1, 2, 3, 4, 5, 6, 7, 8, 9] (by decide +kernel) rfl (fun H locs hP hD hS => ?_)
      clear hz
      refine lv_if_ne (tgt := 26) hx hb dX11_paper_21 (by decide) (fun c_11 => ?_) (fun c_11 => ?_)
      · have hf := mb_if_f c_11 hf
        refine lv_iload hx hb dX11_paper_26 (lv_at hl 4 rfl) ?_
        refine lv_iconst (v := 1) hx hb dX11_paper_28 (by decide) ?_
        refine lv_ldc (v := (1000000)) hx hb hown lc_109 dX11_paper_29 ?_
        obtain ⟨r_4, hz, hf⟩ := mb_bd1_s hf
        refine gc_i (r0 := r_4) (ws' := (wC_One k a0 P0 ++ (wC_Papers k (a0 8) P1 L1))) (wr := (wC_One k a0 P0 ++ (wC_Papers k (a0 8) P1 L1))) (va_runS (As := [.int x4, .int (1 : Int32), .int (1000000 : Int32)]) (rest := []) ⟨hx, hb, hml, hown, hts⟩ (c_One_within l D k H.size x4 (1 : Int32) (1000000 : Int32) r_4 hz) (cwS 3 hts gX11_paper_X11_within rfl rfl rfl (by decide +kernel) ⟨Nat.le_of_ble_eq_true rfl, Nat.le_of_ble_eq_true rfl⟩) (gp_S hP hD hK hN [] (by decide +kernel) rfl) rfl rfl hl.1 rfl (lv_room (Nat.le_of_ble_eq_true rfl)) dX11_paper_31 ⟨Nat.zero_le _, Nat.zero_le _⟩) hP hD hS hA [] [0, 1, 2, 3, 4, 5, 6, 7, 8, 9] rfl rfl (by decide +kernel) (by decide +kernel) [0, 1, 2, 3, 4, 5, 6, 7, 8, 9] (by decide +kernel) rfl (fun H locs hP hD hS => ?_)
        clear hz
        refine lv_if_eq (tgt := 47) hx hb dX11_paper_34 (by decide) (fun c_10 => ?_) (fun c_10 => ?_)
        · have hf := mb_if_t c_10 hf
          refine lv_iconst (v := (-1)) hx hb dX11_paper_47 (by decide) ?_
          have hz := Option.some.inj hf
          subst hz
          exact hret _ _ _ _ dX11_paper_48 hP hD hS
        · have hf := mb_if_f c_10 hf
          refine lv_iload hx hb dX11_paper_37 (lv_at hl 5 rfl) ?_
          refine lv_iconst (v := 0) hx hb dX11_paper_39 (by decide) ?_
          refine lv_iconst (v := 2) hx hb dX11_paper_40 (by decide) ?_
          obtain ⟨r_5, hz, hf⟩ := mb_bd1_s hf
          refine gc_i (r0 := r_5) (ws' := (wC_One k a0 P0 ++ (wC_Papers k (a0 8) P1 L1))) (wr := (wC_One k a0 P0 ++ (wC_Papers k (a0 8) P1 L1))) (va_runS (As := [.int x5, .int (0 : Int32), .int (2 : Int32)]) (rest := []) ⟨hx, hb, hml, hown, hts⟩ (c_One_within l D k H.size x5 (0 : Int32) (2 : Int32) r_5 hz) (cwS 3 hts gX11_paper_X11_within rfl rfl rfl (by decide +kernel) ⟨Nat.le_of_ble_eq_true rfl, Nat.le_of_ble_eq_true rfl⟩) (gp_S hP hD hK hN [] (by decide +kernel) rfl) rfl rfl hl.1 rfl (lv_room (Nat.le_of_ble_eq_true rfl)) dX11_paper_41 ⟨Nat.zero_le _, Nat.zero_le _⟩) hP hD hS hA [] [0, 1, 2, 3, 4, 5, 6, 7, 8, 9] rfl rfl (by decide +kernel) (by decide +kernel) [0, 1, 2, 3, 4, 5, 6, 7, 8, 9] (by decide +kernel) rfl (fun H locs hP hD hS => ?_)
          clear hz
          refine lv_if_ne (tgt := 49) hx hb dX11_paper_44 (by decide) (fun c_9 => ?_) (fun c_9 => ?_)
          · have hf := mb_if_f c_9 hf
            refine lv_aload_n hx hb dX11_paper_49 rfl (lv_at hl 0 rfl) ?_
            refine va_get (D := D) (ci := 11) (v := .ref (a0 8 0)) (C := RX11) (T := TX11) (N := 16) hx hb hts iw_One hown hK hP 0 rfl rfl 7 (by decide) fl_61 (fun _ h9 => h9) rfl dX11_paper_50 ?_
            refine va_get (D := D) (ci := 3) (v := .int (P1 0 5)) (C := RX3) (T := TX3) (N := 9) hx hb hts iw_Papers hown hK hP 4 rfl rfl 5 (by decide) fl_242 (fun _ h9 => h9) rfl dX11_paper_53 ?_
            refine lv_bipush (v := 10) hx hb dX11_paper_56 (by decide) ?_
            refine lv_icmp_lt (tgt := 64) hx hb dX11_paper_58 (by decide) (fun c_8 => ?_) (fun c_8 => ?_)
            · have hf := mb_if_t c_8 hf
              refine lv_aload_n hx hb dX11_paper_64 rfl (lv_at hl 0 rfl) ?_
              refine va_get (D := D) (ci := 11) (v := .ref (a0 8 0)) (C := RX11) (T := TX11) (N := 16) hx hb hts iw_One hown hK hP 0 rfl rfl 7 (by decide) fl_61 (fun _ h9 => h9) rfl dX11_paper_65 ?_
              refine lv_iload_n hx hb dX11_paper_68 rfl (lv_at hl 1 rfl) ?_
              refine lv_iload_n hx hb dX11_paper_69 rfl (lv_at hl 2 rfl) ?_
              refine lv_iload_n hx hb dX11_paper_70 rfl (lv_at hl 3 rfl) ?_
              refine lv_iload hx hb dX11_paper_71 (lv_at hl 4 rfl) ?_
              refine lv_iload hx hb dX11_paper_73 (lv_at hl 5 rfl) ?_
              obtain ⟨r_6, P1_7, hz, hf⟩ := mb_bd2_s hf
              refine gc_i (r0 := r_6) (ws' := (wC_One k a0 P0 ++ (wC_Papers k (a0 8) P1_7 L1))) (wr := (wC_One k a0 P0)) (va_runV (As := [.int x1, .int x2, .int x3, .int x4, .int x5]) (rest := []) ⟨hx, hb, hml, hown, hts⟩ (c_Papers_add l D k H.size (a0 8) P1 L1 x1 x2 x3 x4 x5 (r_6, P1_7) hz) (cwV 5 hts gX11_paper_X3_add rfl rfl rfl (by decide +kernel) ⟨Nat.le_of_ble_eq_true rfl, Nat.le_of_ble_eq_true rfl⟩) (gp_V (ci := 3) (q0 := 0) (q := (RX3, TX3, 9)) hP hD hK hN [4, 5, 6, 7, 8, 9] (by decide +kernel) rfl rfl rfl) rfl rfl hl.1 rfl (lv_room (Nat.le_of_ble_eq_true rfl)) dX11_paper_75 ⟨Nat.zero_le _, Nat.zero_le _⟩) hP hD hS hA [4, 5, 6, 7, 8, 9] [0, 1, 2, 3] rfl rfl (by decide +kernel) (by decide +kernel) [0, 1, 2, 3, 4, 5, 6, 7, 8, 9] (by decide +kernel) rfl (fun H locs hP hD hS => ?_)
              clear hz
              have hz := Option.some.inj hf
              subst hz
              exact hret _ _ _ _ dX11_paper_78 hP hD hS
            · have hf := mb_if_f c_8 hf
              refine lv_bipush (v := (-3)) hx hb dX11_paper_61 (by decide) ?_
              have hz := Option.some.inj hf
              subst hz
              exact hret _ _ _ _ dX11_paper_63 hP hD hS
          · have hf := mb_if_t c_9 hf
            refine lv_iconst (v := (-1)) hx hb dX11_paper_47 (by decide) ?_
            have hz := Option.some.inj hf
            subst hz
            exact hret _ _ _ _ dX11_paper_48 hP hD hS
      · have hf := mb_if_t c_11 hf
        refine lv_iconst (v := (-1)) hx hb dX11_paper_24 (by decide) ?_
        have hz := Option.some.inj hf
        subst hz
        exact hret _ _ _ _ dX11_paper_25 hP hD hS
def f_Papers_told (P0 : PI) (x1 : Int32) : Option (Int32) := (if x1 < 0 then some (0 : Int32) else (if (P0 0 5) ≤ x1 then some (0 : Int32) else some (1 : Int32)))
def rm_Papers_told : Room := { frames := 0, cells := 0, slots := 0, locals := 0 }
set_option maxHeartbeats 4000000 in
set_option maxRecDepth 100000 in
theorem c_Papers_told (l : Launch) (D : va_G) (k : Nat → ClassId) (sz : Nat) (b0 : Nat → Nat) (P0 : PI) (L0 : PL) (x1 : Int32) (z : Int32) (hf : f_Papers_told P0 x1 = some z) : Met l yX3_told wsX3_told rm_Papers_told (va_Pc [.ref (b0 0), .int x1] (gw_pre D vwCl (tyL k) (wC_Papers k b0 P0 L0) sz)) (va_Qi (fun (r : Int32) (_ : Unit) => r = z) (gw_b D vwCl (tyL k) (va_A (wC_Papers k b0 P0 L0) sz) (wC_Papers k b0 P0 L0)) (va_A (wC_Papers k b0 P0 L0) sz)) 0 0 (va_A (wC_Papers k b0 P0 L0) sz) := by
  refine gm_z (cc := cX3_told) (maxL := 2) (by decide) rfl (Nat.le_of_ble_eq_true rfl) ?_
  intro p e s m args below meth c A Q ls H locs hx hb hml hown hts hK hN hA hP hD hS hl hret
  have hown : s.vm.findClass RX3 = some m.cls := hown
  have hl : lv_has ls 2 [(0, .ref (b0 0)), (1, .int x1)] := hl
  have iw_Papers : ∀ w ∈ u_ws RX3 TX3 9, w ∈ wsX3_told := by decide +kernel
  have fl_25 := hts (.fieldLink RX3 25 "OneMeasure$Papers" "count" "I") (by decide +kernel)
  unfold f_Papers_told at hf
  refine lv_iload_n hx hb dX3_told_0 rfl (lv_at hl 1 rfl) ?_
  refine lv_if_lt (tgt := 16) hx hb dX3_told_1 (by decide) (fun c_2 => ?_) (fun c_2 => ?_)
  · have hf := mb_if_t c_2 hf
    refine lv_iconst (v := 0) hx hb dX3_told_16 (by decide) ?_
    have hz := Option.some.inj hf
    subst hz
    exact hret _ _ _ _ mb_n0 dX3_told_17 hP hD hS
  · have hf := mb_if_f c_2 hf
    refine lv_iload_n hx hb dX3_told_4 rfl (lv_at hl 1 rfl) ?_
    refine lv_aload_n hx hb dX3_told_5 rfl (lv_at hl 0 rfl) ?_
    refine va_get (D := D) (ci := 3) (v := .int (P0 0 5)) (C := RX3) (T := TX3) (N := 9) hx hb hts iw_Papers hown hK hP 0 rfl rfl 5 (by decide) fl_25 (fun _ h9 => h9) rfl dX3_told_6 ?_
    refine lv_icmp_ge (tgt := 16) hx hb dX3_told_9 (by decide) (fun c_1 => ?_) (fun c_1 => ?_)
    · have hf := mb_if_t c_1 hf
      refine lv_iconst (v := 0) hx hb dX3_told_16 (by decide) ?_
      have hz := Option.some.inj hf
      subst hz
      exact hret _ _ _ _ mb_n0 dX3_told_17 hP hD hS
    · have hf := mb_if_f c_1 hf
      refine lv_iconst (v := 1) hx hb dX3_told_12 (by decide) ?_
      refine lv_goto (tgt := 17) hx hb dX3_told_13 (by decide) ?_
      have hz := Option.some.inj hf
      subst hz
      exact hret _ _ _ _ mb_n1 dX3_told_17 hP hD hS
def f_Decrees_heaping_7_b (P0 : PI) (x1 : Int32) (x2 : Int32) (K41_3 : Int32 → Option (Int32)) (self_9 : Int32 → Option (Int32)) (x3_8 : Int32) : Option (Int32) := (if x3_8 < 0 then some (-1 : Int32) else mb_chk x3_8 33 ((if (P0 1 x3_8.toNatClampNeg) = (104 : Int32) then mb_chk x3_8 33 ((if (P0 2 x3_8.toNatClampNeg) = x1 then mb_bd1 (f_Decrees_onDay P0 x3_8 x2) (fun (r_14 : Int32) => (if r_14 = 0 then mb_let (x3_8 + (-1 : Int32)) (fun (x3_15 : Int32) => self_9 x3_15) else K41_3 x3_8)) else mb_let (x3_8 + (-1 : Int32)) (fun (x3_13 : Int32) => self_9 x3_13))) else mb_let (x3_8 + (-1 : Int32)) (fun (x3_11 : Int32) => self_9 x3_11))))
def f_Decrees_heaping_7 (P0 : PI) (x1 : Int32) (x2 : Int32) (K41_3 : Int32 → Option (Int32)) : Nat → Int32 → Option (Int32)
  | 0, _ => none
  | n + 1, x3_8 => f_Decrees_heaping_7_b P0 x1 x2 K41_3 (f_Decrees_heaping_7 P0 x1 x2 K41_3 n) x3_8
def f_Decrees_heaping (P0 : PI) (x1 : Int32) (x2 : Int32) : Option (Int32) := mb_let ((P0 0 5) - (1 : Int32)) (fun (x3_1 : Int32) => mb_jn (fun (x3_2 : Int32) => mb_chk x3_2 33 (some (P0 3 x3_2.toNatClampNeg))) (fun K41_3 => f_Decrees_heaping_7 P0 x1 x2 K41_3 mb_fu x3_1))
def rm_Decrees_heaping : Room := { frames := 1, cells := 0, slots := 0, locals := 22 }
set_option maxHeartbeats 4000000 in
set_option maxRecDepth 100000 in
theorem c_Decrees_heaping (l : Launch) (D : va_G) (k : Nat → ClassId) (sz : Nat) (b0 : Nat → Nat) (P0 : PI) (x1 : Int32) (x2 : Int32) (z : Int32) (hf : f_Decrees_heaping P0 x1 x2 = some z) : Met l yX0_heaping wsX0_heaping rm_Decrees_heaping (va_Pc [.ref (b0 0), .int x1, .int x2] (gw_pre D vwCl (tyL k) (wC_Decrees k b0 P0) sz)) (va_Qi (fun (r : Int32) (_ : Unit) => r = z) (gw_b D vwCl (tyL k) (va_A (wC_Decrees k b0 P0) sz) (wC_Decrees k b0 P0)) (va_A (wC_Decrees k b0 P0) sz)) 0 0 (va_A (wC_Decrees k b0 P0) sz) := by
  refine gm_i (cc := cX0_heaping) (maxL := 4) (by decide) rfl (Nat.le_of_ble_eq_true rfl) ?_
  intro p e s m args below meth c A Q ls H locs hx hb hml hown hts hK hN hA hP hD hS hl hret
  have hown : s.vm.findClass RX0 = some m.cls := hown
  have hl : lv_has ls 4 [(0, .ref (b0 0)), (1, .int x1), (2, .int x2)] := hl
  have iw_Decrees : ∀ w ∈ u_ws RX0 TX0 8, w ∈ wsX0_heaping := by decide +kernel
  have fl_13 := hts (.fieldLink RX0 13 "OneMeasure$Decrees" "letter" "[I") (by decide +kernel)
  have fl_17 := hts (.fieldLink RX0 17 "OneMeasure$Decrees" "first" "[I") (by decide +kernel)
  have fl_20 := hts (.fieldLink RX0 20 "OneMeasure$Decrees" "second" "[I") (by decide +kernel)
  have fl_29 := hts (.fieldLink RX0 29 "OneMeasure$Decrees" "count" "I") (by decide +kernel)
  unfold f_Decrees_heaping at hf
  refine lv_aload_n hx hb dX0_heaping_0 rfl (lv_at hl 0 rfl) ?_
  refine va_get (D := D) (ci := 0) (v := .int (P0 0 5)) (C := RX0) (T := TX0) (N := 8) hx hb hts iw_Decrees hown hK hP 0 rfl rfl 5 (by decide) fl_29 (fun _ h9 => h9) rfl dX0_heaping_1 ?_
  refine lv_iconst (v := 1) hx hb dX0_heaping_4 (by decide) ?_
  refine lv_isub hx hb dX0_heaping_5 ?_
  obtain ⟨x3_1, e_, hf⟩ := mb_let_s hf
  refine mb_topi e_ ?_
  clear e_
  refine lv_istore_n (lv' := [(3, .int x3_1), (0, .ref (b0 0)), (1, .int x1), (2, .int x2)]) hx hb dX0_heaping_6 rfl hl (by decide) rfl (fun ls hl => ?_)
  obtain ⟨K41_3, eK41_3, hf⟩ := mb_jn_s hf
  have k41_4 : ∀ (x3_2 : Int32) (H : Heap) (locs : List Loc) (ls : Array Slot), K41_3 x3_2 = some z → va_P D vwCl (wC_Decrees k b0 P0) H → va_D A (wC_Decrees k b0 P0) → va_S A s.heap H locs → lv_has ls 4 [(0, .ref (b0 0)), (3, .int x3_2)] → W p l e rm_Decrees_heaping s m args below meth c H locs 0 0 Q (F0 m 41 ls []) := by
    intro x3_2 H locs ls hf hP hD hS hl
    have hf := mb_j1 eK41_3 hf
    refine lv_aload_n hx hb dX0_heaping_41 rfl (lv_at hl 0 rfl) ?_
    refine va_get (D := D) (ci := 0) (v := .ref (b0 3)) (C := RX0) (T := TX0) (N := 8) hx hb hts iw_Decrees hown hK hP 0 rfl rfl 2 (by decide) fl_20 (fun _ h9 => h9) rfl dX0_heaping_42 ?_
    refine lv_iload_n hx hb dX0_heaping_45 rfl (lv_at hl 1 rfl) ?_
    obtain ⟨h_5, hf⟩ := mb_chk_s hf
    refine va_iald hx hb hK hP 3 0 rfl rfl h_5 dX0_heaping_46 ?_
    have hz := Option.some.inj hf
    subst hz
    exact hret _ _ _ _ dX0_heaping_47 hP hD hS
  have lp7_6 : ∀ (n : Nat) (x3_8 : Int32) (H : Heap) (locs : List Loc) (ls : Array Slot), f_Decrees_heaping_7 P0 x1 x2 K41_3 n x3_8 = some z → va_P D vwCl (wC_Decrees k b0 P0) H → va_D A (wC_Decrees k b0 P0) → va_S A s.heap H locs → lv_has ls 4 [(0, .ref (b0 0)), (1, .int x1), (2, .int x2), (3, .int x3_8)] → W p l e rm_Decrees_heaping s m args below meth c H locs 0 0 Q (F0 m 7 ls []) := by
    intro n
    induction n with
    | zero =>
      intro x3_8 H locs ls hf
      exact nomatch (show (none : Option (Int32)) = some z from hf)
    | succ n ih_7 =>
      intro x3_8 H locs ls hf hP hD hS hl
      have hf : f_Decrees_heaping_7_b P0 x1 x2 K41_3 (f_Decrees_heaping_7 P0 x1 x2 K41_3 n) x3_8 = some z := hf
      unfold f_Decrees_heaping_7_b at hf
      refine lv_iload_n hx hb dX0_heaping_7 rfl (lv_at hl 3 rfl) ?_
      refine lv_if_lt (tgt := 54) hx hb dX0_heaping_8 (by decide) (fun c_19 => ?_) (fun c_19 => ?_)
      · have hf := mb_if_t c_19 hf
        refine lv_iconst (v := (-1)) hx hb dX0_heaping_54 (by decide) ?_
        have hz := Option.some.inj hf
        subst hz
        exact hret _ _ _ _ dX0_heaping_55 hP hD hS
      · have hf := mb_if_f c_19 hf
        refine lv_aload_n hx hb dX0_heaping_11 rfl (lv_at hl 0 rfl) ?_
        refine va_get (D := D) (ci := 0) (v := .ref (b0 1)) (C := RX0) (T := TX0) (N := 8) hx hb hts iw_Decrees hown hK hP 0 rfl rfl 0 (by decide) fl_13 (fun _ h9 => h9) rfl dX0_heaping_12 ?_
        refine lv_iload_n hx hb dX0_heaping_15 rfl (lv_at hl 3 rfl) ?_
        obtain ⟨h_10, hf⟩ := mb_chk_s hf
        refine va_iald hx hb hK hP 1 0 rfl rfl h_10 dX0_heaping_16 ?_
        refine lv_bipush (v := 104) hx hb dX0_heaping_17 (by decide) ?_
        refine lv_icmp_ne (tgt := 48) hx hb dX0_heaping_19 (by decide) (fun c_18 => ?_) (fun c_18 => ?_)
        · have hf := mb_if_f c_18 hf
          obtain ⟨x3_11, e_, hf⟩ := mb_let_s hf
          refine lv_iinc (v := x3_11) (lv' := [(3, .int x3_11), (0, .ref (b0 0)), (1, .int x1), (2, .int x2)]) hx hb dX0_heaping_48 hl (k := 3) rfl (by rw [e_]; rfl) (by decide) rfl (fun ls hl => ?_)
          clear e_
          refine lv_goto (tgt := 7) hx hb dX0_heaping_51 (by decide) ?_
          exact ih_7 x3_11 _ _ _ hf hP hD hS (lv_sub hl [1, 2, 3, 0] rfl)
        · have hf := mb_if_t c_18 hf
          refine lv_aload_n hx hb dX0_heaping_22 rfl (lv_at hl 0 rfl) ?_
          refine va_get (D := D) (ci := 0) (v := .ref (b0 2)) (C := RX0) (T := TX0) (N := 8) hx hb hts iw_Decrees hown hK hP 0 rfl rfl 1 (by decide) fl_17 (fun _ h9 => h9) rfl dX0_heaping_23 ?_
          refine lv_iload_n hx hb dX0_heaping_26 rfl (lv_at hl 3 rfl) ?_
          obtain ⟨h_12, hf⟩ := mb_chk_s hf
          refine va_iald hx hb hK hP 2 0 rfl rfl h_12 dX0_heaping_27 ?_
          refine lv_iload_n hx hb dX0_heaping_28 rfl (lv_at hl 1 rfl) ?_
          refine lv_icmp_ne (tgt := 48) hx hb dX0_heaping_29 (by decide) (fun c_17 => ?_) (fun c_17 => ?_)
          · have hf := mb_if_f c_17 hf
            obtain ⟨x3_13, e_, hf⟩ := mb_let_s hf
            refine lv_iinc (v := x3_13) (lv' := [(3, .int x3_13), (0, .ref (b0 0)), (1, .int x1), (2, .int x2)]) hx hb dX0_heaping_48 hl (k := 3) rfl (by rw [e_]; rfl) (by decide) rfl (fun ls hl => ?_)
            clear e_
            refine lv_goto (tgt := 7) hx hb dX0_heaping_51 (by decide) ?_
            exact ih_7 x3_13 _ _ _ hf hP hD hS (lv_sub hl [1, 2, 3, 0] rfl)
          · have hf := mb_if_t c_17 hf
            refine lv_aload_n hx hb dX0_heaping_32 rfl (lv_at hl 0 rfl) ?_
            refine lv_iload_n hx hb dX0_heaping_33 rfl (lv_at hl 3 rfl) ?_
            refine lv_iload_n hx hb dX0_heaping_34 rfl (lv_at hl 2 rfl) ?_
            obtain ⟨r_14, hz, hf⟩ := mb_bd1_s hf
            refine gc_i (r0 := r_14) (ws' := (wC_Decrees k b0 P0)) (wr := ([] : va_W)) (va_runV (As := [.int x3_8, .int x2]) (rest := []) ⟨hx, hb, hml, hown, hts⟩ (c_Decrees_onDay l D k H.size b0 P0 x3_8 x2 r_14 hz) (cwV 2 hts gX0_heaping_X0_onDay rfl rfl rfl (by decide +kernel) ⟨Nat.le_of_ble_eq_true rfl, Nat.le_of_ble_eq_true rfl⟩) (gp_V (ci := 0) (q0 := 0) (q := (RX0, TX0, 8)) hP hD hK hN [0, 1, 2, 3, 4, 5] (by decide +kernel) rfl rfl rfl) rfl rfl hl.1 rfl (lv_room (Nat.le_of_ble_eq_true rfl)) dX0_heaping_35 ⟨Nat.zero_le _, Nat.zero_le _⟩) hP hD hS hA [0, 1, 2, 3, 4, 5] [] rfl rfl (by decide +kernel) (by decide +kernel) [0, 1, 2, 3, 4, 5] (by decide +kernel) rfl (fun H locs hP hD hS => ?_)
            clear hz
            refine lv_if_eq (tgt := 48) hx hb dX0_heaping_38 (by decide) (fun c_16 => ?_) (fun c_16 => ?_)
            · have hf := mb_if_t c_16 hf
              obtain ⟨x3_15, e_, hf⟩ := mb_let_s hf
              refine lv_iinc (v := x3_15) (lv' := [(3, .int x3_15), (0, .ref (b0 0)), (1, .int x1), (2, .int x2)]) hx hb dX0_heaping_48 hl (k := 3) rfl (by rw [e_]; rfl) (by decide) rfl (fun ls hl => ?_)
              clear e_
              refine lv_goto (tgt := 7) hx hb dX0_heaping_51 (by decide) ?_
              exact ih_7 x3_15 _ _ _ hf hP hD hS (lv_sub hl [1, 2, 3, 0] rfl)
            · have hf := mb_if_f c_16 hf
              exact k41_4 x3_8 _ _ _ hf hP hD hS (lv_sub hl [0, 3] rfl)
  exact lp7_6 mb_fu x3_1 _ _ _ hf hP hD hS (lv_sub hl [1, 2, 3, 0] rfl)
def f_Papers_ruleFor (P0 : PI) (P1 : PI) (x1 : Int32) (x2 : Int32) : Option (Int32) := mb_chk x1 10 ((if (P0 5 x1.toNatClampNeg) = 0 then some (1 : Int32) else mb_chk x1 10 ((if (P0 5 x1.toNatClampNeg) = (1 : Int32) then some (0 : Int32) else mb_chk x1 10 (mb_bd1 (f_Decrees_heaping P1 (P0 1 x1.toNatClampNeg) x2) (fun (r_4 : Int32) => some r_4))))))
def rm_Papers_ruleFor : Room := { frames := 2, cells := 0, slots := 0, locals := 45 }
set_option maxHeartbeats 4000000 in
set_option maxRecDepth 100000 in
theorem c_Papers_ruleFor (l : Launch) (D : va_G) (k : Nat → ClassId) (sz : Nat) (b0 : Nat → Nat) (b3 : Nat → Nat) (P0 : PI) (L0 : PL) (P1 : PI) (x1 : Int32) (x2 : Int32) (z : Int32) (hf : f_Papers_ruleFor P0 P1 x1 x2 = some z) : Met l yX3_ruleFor wsX3_ruleFor rm_Papers_ruleFor (va_Pc [.ref (b0 0), .int x1, .int x2, .ref (b3 0)] (gw_pre D vwCl (tyL k) (wC_Papers k b0 P0 L0 ++ (wC_Decrees k b3 P1)) sz)) (va_Qi (fun (r : Int32) (_ : Unit) => r = z) (gw_b D vwCl (tyL k) (va_A (wC_Papers k b0 P0 L0 ++ (wC_Decrees k b3 P1)) sz) (wC_Papers k b0 P0 L0 ++ (wC_Decrees k b3 P1))) (va_A (wC_Papers k b0 P0 L0 ++ (wC_Decrees k b3 P1)) sz)) 0 0 (va_A (wC_Papers k b0 P0 L0 ++ (wC_Decrees k b3 P1)) sz) := by
  refine gm_i (cc := cX3_ruleFor) (maxL := 4) (by decide) rfl (Nat.le_of_ble_eq_true rfl) ?_
  intro p e s m args below meth c A Q ls H locs hx hb hml hown hts hK hN hA hP hD hS hl hret
  have hown : s.vm.findClass RX3 = some m.cls := hown
  have hl : lv_has ls 4 [(0, .ref (b0 0)), (1, .int x1), (2, .int x2), (3, .ref (b3 0))] := hl
  have iw_Papers : ∀ w ∈ u_ws RX3 TX3 9, w ∈ wsX3_ruleFor := by decide +kernel
  have fl_9 := hts (.fieldLink RX3 9 "OneMeasure$Papers" "district" "[I") (by decide +kernel)
  have fl_22 := hts (.fieldLink RX3 22 "OneMeasure$Papers" "reading" "[I") (by decide +kernel)
  unfold f_Papers_ruleFor at hf
  refine lv_aload_n hx hb dX3_ruleFor_0 rfl (lv_at hl 0 rfl) ?_
  refine va_get (D := D) (ci := 3) (v := .ref (b0 5)) (C := RX3) (T := TX3) (N := 9) hx hb hts iw_Papers hown hK hP 0 rfl rfl 4 (by decide) fl_22 (fun _ h9 => h9) rfl dX3_ruleFor_1 ?_
  refine lv_iload_n hx hb dX3_ruleFor_4 rfl (lv_at hl 1 rfl) ?_
  obtain ⟨h_1, hf⟩ := mb_chk_s hf
  refine va_iald hx hb hK hP 5 0 rfl rfl h_1 dX3_ruleFor_5 ?_
  refine lv_if_ne (tgt := 11) hx hb dX3_ruleFor_6 (by decide) (fun c_6 => ?_) (fun c_6 => ?_)
  · have hf := mb_if_f c_6 hf
    refine lv_aload_n hx hb dX3_ruleFor_11 rfl (lv_at hl 0 rfl) ?_
    refine va_get (D := D) (ci := 3) (v := .ref (b0 5)) (C := RX3) (T := TX3) (N := 9) hx hb hts iw_Papers hown hK hP 0 rfl rfl 4 (by decide) fl_22 (fun _ h9 => h9) rfl dX3_ruleFor_12 ?_
    refine lv_iload_n hx hb dX3_ruleFor_15 rfl (lv_at hl 1 rfl) ?_
    obtain ⟨h_2, hf⟩ := mb_chk_s hf
    refine va_iald hx hb hK hP 5 0 rfl rfl h_2 dX3_ruleFor_16 ?_
    refine lv_iconst (v := 1) hx hb dX3_ruleFor_17 (by decide) ?_
    refine lv_icmp_ne (tgt := 23) hx hb dX3_ruleFor_18 (by decide) (fun c_5 => ?_) (fun c_5 => ?_)
    · have hf := mb_if_f c_5 hf
      refine lv_aload_n hx hb dX3_ruleFor_23 rfl (lv_at hl 3 rfl) ?_
      refine lv_aload_n hx hb dX3_ruleFor_24 rfl (lv_at hl 0 rfl) ?_
      refine va_get (D := D) (ci := 3) (v := .ref (b0 1)) (C := RX3) (T := TX3) (N := 9) hx hb hts iw_Papers hown hK hP 0 rfl rfl 0 (by decide) fl_9 (fun _ h9 => h9) rfl dX3_ruleFor_25 ?_
      refine lv_iload_n hx hb dX3_ruleFor_28 rfl (lv_at hl 1 rfl) ?_
      obtain ⟨h_3, hf⟩ := mb_chk_s hf
      refine va_iald hx hb hK hP 1 0 rfl rfl h_3 dX3_ruleFor_29 ?_
      refine lv_iload_n hx hb dX3_ruleFor_30 rfl (lv_at hl 2 rfl) ?_
      obtain ⟨r_4, hz, hf⟩ := mb_bd1_s hf
      refine gc_i (r0 := r_4) (ws' := (wC_Papers k b0 P0 L0 ++ (wC_Decrees k b3 P1))) (wr := (wC_Papers k b0 P0 L0)) (va_runV (As := [.int (P0 1 x1.toNatClampNeg), .int x2]) (rest := []) ⟨hx, hb, hml, hown, hts⟩ (c_Decrees_heaping l D k H.size b3 P1 (P0 1 x1.toNatClampNeg) x2 r_4 hz) (cwV 2 hts gX3_ruleFor_X0_heaping rfl rfl rfl (by decide +kernel) ⟨Nat.le_of_ble_eq_true rfl, Nat.le_of_ble_eq_true rfl⟩) (gp_V (ci := 0) (q0 := 0) (q := (RX0, TX0, 8)) hP hD hK hN [6, 7, 8, 9, 10, 11] (by decide +kernel) rfl rfl rfl) rfl rfl hl.1 rfl (lv_room (Nat.le_of_ble_eq_true rfl)) dX3_ruleFor_31 ⟨Nat.zero_le _, Nat.zero_le _⟩) hP hD hS hA [6, 7, 8, 9, 10, 11] [0, 1, 2, 3, 4, 5] rfl rfl (by decide +kernel) (by decide +kernel) [0, 1, 2, 3, 4, 5, 6, 7, 8, 9, 10, 11] (by decide +kernel) rfl (fun H locs hP hD hS => ?_)
      clear hz
      have hz := Option.some.inj hf
      subst hz
      exact hret _ _ _ _ dX3_ruleFor_34 hP hD hS
    · have hf := mb_if_t c_5 hf
      refine lv_iconst (v := 0) hx hb dX3_ruleFor_21 (by decide) ?_
      have hz := Option.some.inj hf
      subst hz
      exact hret _ _ _ _ dX3_ruleFor_22 hP hD hS
  · have hf := mb_if_t c_6 hf
    refine lv_iconst (v := 1) hx hb dX3_ruleFor_9 (by decide) ?_
    have hz := Option.some.inj hf
    subst hz
    exact hret _ _ _ _ dX3_ruleFor_10 hP hD hS
def f_Papers_consider (P0 : PI) (L0 : PL) (x1 : Int64) : Option (PI × PL) := mb_jn (fun (y_1 : Int64) => mb_let (mb_uoL L0 6 y_1) (fun (L0_4 : PL) => mb_jn (fun (y_5 : Int64) => mb_let (mb_uoL L0_4 7 y_5) (fun (L0_8 : PL) => mb_let (mb_uo P0 8 (1 : Int32)) (fun (P0_9 : PI) => some (P0_9, L0_8)))) (fun J43_6 => (if (P0 0 8) = 0 then J43_6 x1 else mb_let (if x1 < (L0_4 0 7) then (L0_4 0 7) else x1) (fun (v_10 : Int64) => J43_6 v_10))))) (fun J20_2 => (if (P0 0 8) = 0 then J20_2 x1 else mb_let (if x1 < (L0 0 6) then x1 else (L0 0 6)) (fun (v_12 : Int64) => J20_2 v_12)))
def rm_Papers_consider : Room := { frames := 1, cells := 0, slots := 0, locals := 40 }
set_option maxHeartbeats 4000000 in
set_option maxRecDepth 100000 in
theorem c_Papers_consider (l : Launch) (D : va_G) (k : Nat → ClassId) (sz : Nat) (b0 : Nat → Nat) (P0 : PI) (L0 : PL) (x1 : Int64) (z : PI × PL) (hf : f_Papers_consider P0 L0 x1 = some z) : Met l yX3_consider wsX3_consider rm_Papers_consider (va_Pc [.ref (b0 0), .long x1] (gw_pre D vwCl (tyL k) (wC_Papers k b0 P0 L0) sz)) (va_Qv (fun (_ : Unit) => True) (gw_b D vwCl (tyL k) (va_A (wC_Papers k b0 P0 L0) sz) (wC_Papers k b0 z.1 z.2)) (va_A (wC_Papers k b0 P0 L0) sz)) 0 0 (va_A (wC_Papers k b0 P0 L0) sz) := by
  refine gm_v (cc := cX3_consider) (maxL := 3) (by decide) rfl (Nat.le_of_ble_eq_true rfl) ?_
  intro p e s m args below meth c A Q ls H locs hx hb hml hown hts hK hN hA hP hD hS hl hret
  have hown : s.vm.findClass RX3 = some m.cls := hown
  have hl : lv_has ls 3 [(0, .ref (b0 0)), (1, .long x1)] := hl
  have iw_Papers : ∀ w ∈ u_ws RX3 TX3 9, w ∈ wsX3_consider := by decide +kernel
  have fl_29 := hts (.fieldLink RX3 29 "OneMeasure$Papers" "least" "J") (by decide +kernel)
  have fl_33 := hts (.fieldLink RX3 33 "OneMeasure$Papers" "most" "J") (by decide +kernel)
  have fl_36 := hts (.fieldLink RX3 36 "OneMeasure$Papers" "any" "Z") (by decide +kernel)
  have ml_80 := hts (.methodLink RX3 80 Lib.MathLoose.max_long.x) (by decide +kernel)
  have maxJ_st := hts (.static Lib.MathLoose.max_long.x) (by decide +kernel)
  have ma_ini := hts (.initialized "java/lang/Math") (by decide +kernel)
  have maxJ_code := hts (.code Lib.MathLoose.max_long.x Lib.MathLoose.max_long.code 4 (some .long)) (by decide +kernel)
  have ml_74 := hts (.methodLink RX3 74 Lib.MathLoose.min_long.x) (by decide +kernel)
  have minJ_st := hts (.static Lib.MathLoose.min_long.x) (by decide +kernel)
  have minJ_code := hts (.code Lib.MathLoose.min_long.x Lib.MathLoose.min_long.code 4 (some .long)) (by decide +kernel)
  unfold f_Papers_consider at hf
  refine lv_aload_n hx hb dX3_consider_0 rfl (lv_at hl 0 rfl) ?_
  refine lv_aload_n hx hb dX3_consider_1 rfl (lv_at hl 0 rfl) ?_
  refine va_get (D := D) (ci := 3) (v := .int (P0 0 8)) (C := RX3) (T := TX3) (N := 9) hx hb hts iw_Papers hown hK hP 0 rfl rfl 8 (by decide) fl_36 (fun _ h9 => h9) rfl dX3_consider_2 ?_
  obtain ⟨J20_2, eJ20_2, hf⟩ := mb_jn_s hf
  have j20_3 : ∀ (y_1 : Int64) (H : Heap) (locs : List Loc) (ls : Array Slot), J20_2 y_1 = some z → va_P D vwCl (wC_Papers k b0 P0 L0) H → va_D A (wC_Papers k b0 P0 L0) → va_S A s.heap H locs → lv_has ls 3 [(0, .ref (b0 0)), (1, .long x1)] → W p l e rm_Papers_consider s m args below meth c H locs 0 0 Q (F0 m 20 ls [.long y_1, .ref (b0 0)]) := by
    intro y_1 H locs ls hf hP hD hS hl
    have hf := mb_j1 eJ20_2 hf
    obtain ⟨L0_4, e_, hf⟩ := mb_let_s hf
    refine va_put (D := D) (ci := 3) (v := .long y_1) (ty := .long) (C := RX3) (T := TX3) (N := 9) hx hb hts iw_Papers tyX3 tyX3_ok nmX3 hown hK hP hD hS 0 rfl rfl 6 (by decide) fl_29 (fun _ h9 => h9) rfl (by decide +kernel) rfl rfl (Nat.le_of_ble_eq_true rfl) dX3_consider_20 (fun H locs hP hD hS => ?_)
    have hP : va_P D vwCl (wC_Papers k b0 P0 L0_4) H := by rw [e_]; exact hP
    have hD : va_D A (wC_Papers k b0 P0 L0_4) := by rw [e_]; exact hD
    clear e_
    refine lv_aload_n hx hb dX3_consider_23 rfl (lv_at hl 0 rfl) ?_
    refine lv_aload_n hx hb dX3_consider_24 rfl (lv_at hl 0 rfl) ?_
    refine va_get (D := D) (ci := 3) (v := .int (P0 0 8)) (C := RX3) (T := TX3) (N := 9) hx hb hts iw_Papers hown hK hP 0 rfl rfl 8 (by decide) fl_36 (fun _ h9 => h9) rfl dX3_consider_25 ?_
    obtain ⟨J43_6, eJ43_6, hf⟩ := mb_jn_s hf
    have j43_7 : ∀ (y_5 : Int64) (H : Heap) (locs : List Loc) (ls : Array Slot), J43_6 y_5 = some z → va_P D vwCl (wC_Papers k b0 P0 L0_4) H → va_D A (wC_Papers k b0 P0 L0_4) → va_S A s.heap H locs → lv_has ls 3 [(0, .ref (b0 0))] → W p l e rm_Papers_consider s m args below meth c H locs 0 0 Q (F0 m 43 ls [.long y_5, .ref (b0 0)]) := by
      intro y_5 H locs ls hf hP hD hS hl
      have hf := mb_j1 eJ43_6 hf
      obtain ⟨L0_8, e_, hf⟩ := mb_let_s hf
      refine va_put (D := D) (ci := 3) (v := .long y_5) (ty := .long) (C := RX3) (T := TX3) (N := 9) hx hb hts iw_Papers tyX3 tyX3_ok nmX3 hown hK hP hD hS 0 rfl rfl 7 (by decide) fl_33 (fun _ h9 => h9) rfl (by decide +kernel) rfl rfl (Nat.le_of_ble_eq_true rfl) dX3_consider_43 (fun H locs hP hD hS => ?_)
      have hP : va_P D vwCl (wC_Papers k b0 P0 L0_8) H := by rw [e_]; exact hP
      have hD : va_D A (wC_Papers k b0 P0 L0_8) := by rw [e_]; exact hD
      clear e_
      refine lv_aload_n hx hb dX3_consider_46 rfl (lv_at hl 0 rfl) ?_
      refine lv_iconst (v := 1) hx hb dX3_consider_47 (by decide) ?_
      obtain ⟨P0_9, e_, hf⟩ := mb_let_s hf
      refine va_put (D := D) (ci := 3) (v := .int (1 : Int32)) (ty := .boolean) (C := RX3) (T := TX3) (N := 9) hx hb hts iw_Papers tyX3 tyX3_ok nmX3 hown hK hP hD hS 0 rfl rfl 8 (by decide) fl_36 (fun _ h9 => h9) rfl (by decide +kernel) rfl rfl (Nat.le_of_ble_eq_true rfl) dX3_consider_48 (fun H locs hP hD hS => ?_)
      have hP : va_P D vwCl (wC_Papers k b0 P0_9 L0_8) H := by rw [e_]; exact hP
      have hD : va_D A (wC_Papers k b0 P0_9 L0_8) := by rw [e_]; exact hD
      clear e_
      have hz := Option.some.inj hf
      subst hz
      exact hret _ _ _ _ dX3_consider_51 hP hD hS
    refine lv_if_eq (tgt := 42) hx hb dX3_consider_28 (by decide) (fun c_11 => ?_) (fun c_11 => ?_)
    · have hf := mb_if_t c_11 hf
      refine lv_lload_n hx hb dX3_consider_42 rfl (lv_at hl 1 rfl) ?_
      exact j43_7 x1 _ _ _ hf hP hD hS (lv_sub hl [0] rfl)
    · have hf := mb_if_f c_11 hf
      refine lv_aload_n hx hb dX3_consider_31 rfl (lv_at hl 0 rfl) ?_
      refine va_get (D := D) (ci := 3) (v := .long (L0_4 0 7)) (C := RX3) (T := TX3) (N := 9) hx hb hts iw_Papers hown hK hP 0 rfl rfl 7 (by decide) fl_33 (fun _ h9 => h9) rfl dX3_consider_32 ?_
      refine lv_lload_n hx hb dX3_consider_35 rfl (lv_at hl 1 rfl) ?_
      obtain ⟨v_10, e_, hf⟩ := mb_let_s hf
      refine va_mmax_long hx hb (hml.trans hl.1.symm) hown ml_80 maxJ_st ma_ini maxJ_code (Nat.le_of_ble_eq_true rfl) (Nat.le_of_ble_eq_true rfl) (Nat.zero_le _) (Nat.zero_le _) dX3_consider_36 ?_
      refine mb_topl e_ ?_
      clear e_
      refine lv_goto (tgt := 43) hx hb dX3_consider_39 (by decide) ?_
      exact j43_7 v_10 _ _ _ hf hP hD hS (lv_sub hl [0] rfl)
  refine lv_if_eq (tgt := 19) hx hb dX3_consider_5 (by decide) (fun c_13 => ?_) (fun c_13 => ?_)
  · have hf := mb_if_t c_13 hf
    refine lv_lload_n hx hb dX3_consider_19 rfl (lv_at hl 1 rfl) ?_
    exact j20_3 x1 _ _ _ hf hP hD hS (lv_sub hl [0, 1] rfl)
  · have hf := mb_if_f c_13 hf
    refine lv_aload_n hx hb dX3_consider_8 rfl (lv_at hl 0 rfl) ?_
    refine va_get (D := D) (ci := 3) (v := .long (L0 0 6)) (C := RX3) (T := TX3) (N := 9) hx hb hts iw_Papers hown hK hP 0 rfl rfl 6 (by decide) fl_29 (fun _ h9 => h9) rfl dX3_consider_9 ?_
    refine lv_lload_n hx hb dX3_consider_12 rfl (lv_at hl 1 rfl) ?_
    obtain ⟨v_12, e_, hf⟩ := mb_let_s hf
    refine va_mmin_long hx hb (hml.trans hl.1.symm) hown ml_74 minJ_st ma_ini minJ_code (Nat.le_of_ble_eq_true rfl) (Nat.le_of_ble_eq_true rfl) (Nat.zero_le _) (Nat.zero_le _) dX3_consider_13 ?_
    refine mb_topl e_ ?_
    clear e_
    refine lv_goto (tgt := 20) hx hb dX3_consider_16 (by decide) ?_
    exact j20_3 v_12 _ _ _ hf hP hD hS (lv_sub hl [0, 1] rfl)
def f_Papers_reckon_38_b (P1 : PI) (x1 : Int32) (x5_5 : Int32) (x6_7 : Int32) (self_14 : Int32 → PI → PL → Option (Int32 × PI × PL)) (x7_11 : Int32) (P0_12 : PI) (L0_13 : PL) : Option (Int32 × PI × PL) := (if (P1 0 3) ≤ x7_11 then mb_z (P0_12 0 8) (some ((P0_12 0 8), P0_12, L0_13)) else (if ((x5_5 >>> (x7_11 &&& 31)) &&& (1 : Int32)) = 0 then mb_let (x7_11 + (1 : Int32)) (fun (x7_46 : Int32) => self_14 x7_46 P0_12 L0_13) else mb_chk x1 10 (mb_chk x7_11 16 (mb_let (((P0_12 4 x1.toNatClampNeg)).toInt64 * ((P1 2 x7_11.toNatClampNeg)).toInt64) (fun (x8_18 : Int64) => mb_chk x7_11 16 (mb_jn (fun (y_20 : Int32) => mb_let y_20 (fun (x10_23 : Int32) => mb_jn (fun (P0_24 : PI) (L0_25 : PL) => (if x10_23 = 0 then mb_let (x7_11 + (1 : Int32)) (fun (x7_28 : Int32) => self_14 x7_28 P0_24 L0_25) else (if x6_7 = 0 then mb_let (x7_11 + (1 : Int32)) (fun (x7_29 : Int32) => self_14 x7_29 P0_24 L0_25) else mb_chk x7_11 16 (mb_dvl (100 : Int64) (mb_dvl (1000 : Int64) (mb_bd2 (f_Papers_consider P0_24 L0_25 (((x8_18 * (((100 : Int32) + (P1 3 x7_11.toNatClampNeg))).toInt64) / (100 : Int64)) / (1000 : Int64))) (fun (P0_33 : PI) (L0_34 : PL) => mb_let (x7_11 + (1 : Int32)) (fun (x7_35 : Int32) => self_14 x7_35 P0_33 L0_34)))))))) (fun J117_26 => mb_jn (mb_dvl (1000 : Int64) (mb_bd2 (f_Papers_consider P0_12 L0_13 (x8_18 / (1000 : Int64))) (fun (P0_41 : PI) (L0_42 : PL) => J117_26 P0_41 L0_42))) (fun J107_38 => (if x10_23 = 0 then J107_38 else (if x6_7 = (1 : Int32) then J117_26 P0_12 L0_13 else J107_38)))))) (fun J94_21 => (if (P1 1 x7_11.toNatClampNeg) = (1 : Int32) then J94_21 (1 : Int32) else J94_21 (0 : Int32)))))))))
def f_Papers_reckon_38 (P1 : PI) (x1 : Int32) (x5_5 : Int32) (x6_7 : Int32) : Nat → Int32 → PI → PL → Option (Int32 × PI × PL)
  | 0, _, _, _ => none
  | n + 1, x7_11, P0_12, L0_13 => f_Papers_reckon_38_b P1 x1 x5_5 x6_7 (f_Papers_reckon_38 P1 x1 x5_5 x6_7 n) x7_11 P0_12 L0_13
def f_Papers_reckon (P0 : PI) (L0 : PL) (P1 : PI) (P2 : PI) (x1 : Int32) (x2 : Int32) : Option (Int32 × PI × PL) := mb_let (mb_uo P0 8 (0 : Int32)) (fun (P0_1 : PI) => mb_chk x1 10 (mb_chk x1 10 (mb_bd1 (f_Decrees_meanings P2 (P0_1 2 x1.toNatClampNeg) (P0_1 1 x1.toNatClampNeg) x2) (fun (r_4 : Int32) => mb_let r_4 (fun (x5_5 : Int32) => mb_bd1 (f_Papers_ruleFor P0_1 P2 x1 x2) (fun (r_6 : Int32) => mb_let r_6 (fun (x6_7 : Int32) => mb_let (0 : Int32) (fun (x7_8 : Int32) => f_Papers_reckon_38 P1 x1 x5_5 x6_7 mb_fu x7_8 P0_1 L0))))))))
def rm_Papers_reckon : Room := { frames := 3, cells := 0, slots := 0, locals := 68 }
set_option maxHeartbeats 4000000 in
set_option maxRecDepth 100000 in
theorem c_Papers_reckon (l : Launch) (D : va_G) (k : Nat → ClassId) (sz : Nat) (b0 : Nat → Nat) (b3 : Nat → Nat) (b4 : Nat → Nat) (P0 : PI) (L0 : PL) (P1 : PI) (P2 : PI) (x1 : Int32) (x2 : Int32) (z : Int32 × PI × PL) (hf : f_Papers_reckon P0 L0 P1 P2 x1 x2 = some z) : Met l yX3_reckon wsX3_reckon rm_Papers_reckon (va_Pc [.ref (b0 0), .int x1, .int x2, .ref (b3 0), .ref (b4 0)] (gw_pre D vwCl (tyL k) (wC_Papers k b0 P0 L0 ++ (wC_Units k b3 P1 ++ (wC_Decrees k b4 P2))) sz)) (va_Qi (fun (r : Int32) (_ : Unit) => r = z.1) (gw_b D vwCl (tyL k) (va_A (wC_Papers k b0 P0 L0 ++ (wC_Units k b3 P1 ++ (wC_Decrees k b4 P2))) sz) (wC_Papers k b0 z.2.1 z.2.2 ++ (wC_Units k b3 P1 ++ (wC_Decrees k b4 P2)))) (va_A (wC_Papers k b0 P0 L0 ++ (wC_Units k b3 P1 ++ (wC_Decrees k b4 P2))) sz)) 0 0 (va_A (wC_Papers k b0 P0 L0 ++ (wC_Units k b3 P1 ++ (wC_Decrees k b4 P2))) sz) := by
  refine gm_z (cc := cX3_reckon) (maxL := 11) (by decide) rfl (Nat.le_of_ble_eq_true rfl) ?_
  intro p e s m args below meth c A Q ls H locs hx hb hml hown hts hK hN hA hP hD hS hl hret
  have hown : s.vm.findClass RX3 = some m.cls := hown
  have hl : lv_has ls 11 [(0, .ref (b0 0)), (1, .int x1), (2, .int x2), (3, .ref (b3 0)), (4, .ref (b4 0))] := hl
  have iw_Papers : ∀ w ∈ u_ws RX3 TX3 9, w ∈ wsX3_reckon := by decide +kernel
  have iw_Units : ∀ w ∈ u_ws RX9 TX9 4, w ∈ wsX3_reckon := by decide +kernel
  have fl_9 := hts (.fieldLink RX3 9 "OneMeasure$Papers" "district" "[I") (by decide +kernel)
  have fl_13 := hts (.fieldLink RX3 13 "OneMeasure$Papers" "word" "[I") (by decide +kernel)
  have fl_19 := hts (.fieldLink RX3 19 "OneMeasure$Papers" "amount" "[I") (by decide +kernel)
  have fl_36 := hts (.fieldLink RX3 36 "OneMeasure$Papers" "any" "Z") (by decide +kernel)
  have fl_50 := hts (.fieldLink RX3 50 "OneMeasure$Units" "count" "I") (by decide +kernel)
  have fl_53 := hts (.fieldLink RX3 53 "OneMeasure$Units" "size" "[I") (by decide +kernel)
  have fl_56 := hts (.fieldLink RX3 56 "OneMeasure$Units" "sort" "[I") (by decide +kernel)
  have fl_65 := hts (.fieldLink RX3 65 "OneMeasure$Units" "heap" "[I") (by decide +kernel)
  have lc_59 := hts (.constantLong RX3 59 (1000)) (by decide +kernel)
  have lc_68 := hts (.constantLong RX3 68 (100)) (by decide +kernel)
  unfold f_Papers_reckon at hf
  refine lv_aload_n hx hb dX3_reckon_0 rfl (lv_at hl 0 rfl) ?_
  refine lv_iconst (v := 0) hx hb dX3_reckon_1 (by decide) ?_
  obtain ⟨P0_1, e_, hf⟩ := mb_let_s hf
  refine va_put (D := D) (ci := 3) (v := .int (0 : Int32)) (ty := .boolean) (C := RX3) (T := TX3) (N := 9) hx hb hts iw_Papers tyX3 tyX3_ok nmX3 hown hK hP hD hS 0 rfl rfl 8 (by decide) fl_36 (fun _ h9 => h9) rfl (by decide +kernel) rfl rfl (Nat.le_of_ble_eq_true rfl) dX3_reckon_2 (fun H locs hP hD hS => ?_)
  have hP : va_P D vwCl (wC_Papers k b0 P0_1 L0 ++ (wC_Units k b3 P1 ++ (wC_Decrees k b4 P2))) H := by rw [e_]; exact hP
  have hD : va_D A (wC_Papers k b0 P0_1 L0 ++ (wC_Units k b3 P1 ++ (wC_Decrees k b4 P2))) := by rw [e_]; exact hD
  clear e_
  refine lv_aload hx hb dX3_reckon_5 (lv_at hl 4 rfl) ?_
  refine lv_aload_n hx hb dX3_reckon_7 rfl (lv_at hl 0 rfl) ?_
  refine va_get (D := D) (ci := 3) (v := .ref (b0 2)) (C := RX3) (T := TX3) (N := 9) hx hb hts iw_Papers hown hK hP 0 rfl rfl 1 (by decide) fl_13 (fun _ h9 => h9) rfl dX3_reckon_8 ?_
  refine lv_iload_n hx hb dX3_reckon_11 rfl (lv_at hl 1 rfl) ?_
  obtain ⟨h_2, hf⟩ := mb_chk_s hf
  refine va_iald hx hb hK hP 2 0 rfl rfl h_2 dX3_reckon_12 ?_
  refine lv_aload_n hx hb dX3_reckon_13 rfl (lv_at hl 0 rfl) ?_
  refine va_get (D := D) (ci := 3) (v := .ref (b0 1)) (C := RX3) (T := TX3) (N := 9) hx hb hts iw_Papers hown hK hP 0 rfl rfl 0 (by decide) fl_9 (fun _ h9 => h9) rfl dX3_reckon_14 ?_
  refine lv_iload_n hx hb dX3_reckon_17 rfl (lv_at hl 1 rfl) ?_
  obtain ⟨h_3, hf⟩ := mb_chk_s hf
  refine va_iald hx hb hK hP 1 0 rfl rfl h_3 dX3_reckon_18 ?_
  refine lv_iload_n hx hb dX3_reckon_19 rfl (lv_at hl 2 rfl) ?_
  obtain ⟨r_4, hz, hf⟩ := mb_bd1_s hf
  refine gc_i (r0 := r_4) (ws' := (wC_Papers k b0 P0_1 L0 ++ (wC_Units k b3 P1 ++ (wC_Decrees k b4 P2)))) (wr := (wC_Papers k b0 P0_1 L0 ++ (wC_Units k b3 P1))) (va_runV (As := [.int (P0_1 2 x1.toNatClampNeg), .int (P0_1 1 x1.toNatClampNeg), .int x2]) (rest := []) ⟨hx, hb, hml, hown, hts⟩ (c_Decrees_meanings l D k H.size b4 P2 (P0_1 2 x1.toNatClampNeg) (P0_1 1 x1.toNatClampNeg) x2 r_4 hz) (cwV 3 hts gX3_reckon_X0_meanings rfl rfl rfl (by decide +kernel) ⟨Nat.le_of_ble_eq_true rfl, Nat.le_of_ble_eq_true rfl⟩) (gp_V (ci := 0) (q0 := 0) (q := (RX0, TX0, 8)) hP hD hK hN [10, 11, 12, 13, 14, 15] (by decide +kernel) rfl rfl rfl) rfl rfl hl.1 rfl (lv_room (Nat.le_of_ble_eq_true rfl)) dX3_reckon_20 ⟨Nat.zero_le _, Nat.zero_le _⟩) hP hD hS hA [10, 11, 12, 13, 14, 15] [0, 1, 2, 3, 4, 5, 6, 7, 8, 9] rfl rfl (by decide +kernel) (by decide +kernel) [0, 1, 2, 3, 4, 5, 6, 7, 8, 9, 10, 11, 12, 13, 14, 15] (by decide +kernel) rfl (fun H locs hP hD hS => ?_)
  clear hz
  obtain ⟨x5_5, e_, hf⟩ := mb_let_s hf
  refine mb_topi e_ ?_
  clear e_
  refine lv_istore (lv' := [(5, .int x5_5), (0, .ref (b0 0)), (1, .int x1), (2, .int x2), (3, .ref (b3 0)), (4, .ref (b4 0))]) hx hb dX3_reckon_23 hl (by decide) rfl (fun ls hl => ?_)
  refine lv_aload_n hx hb dX3_reckon_25 rfl (lv_at hl 1 rfl) ?_
  refine lv_iload_n hx hb dX3_reckon_26 rfl (lv_at hl 2 rfl) ?_
  refine lv_iload_n hx hb dX3_reckon_27 rfl (lv_at hl 3 rfl) ?_
  refine lv_aload hx hb dX3_reckon_28 (lv_at hl 5 rfl) ?_
  obtain ⟨r_6, hz, hf⟩ := mb_bd1_s hf
  refine gc_i (r0 := r_6) (ws' := (wC_Papers k b0 P0_1 L0 ++ (wC_Units k b3 P1 ++ (wC_Decrees k b4 P2)))) (wr := (wC_Units k b3 P1)) (va_runV (As := [.int x1, .int x2, .ref (b4 0)]) (rest := []) ⟨hx, hb, hml, hown, hts⟩ (c_Papers_ruleFor l D k H.size b0 b4 P0_1 L0 P2 x1 x2 r_6 hz) (cwV 3 hts gX3_reckon_X3_ruleFor rfl rfl rfl (by decide +kernel) ⟨Nat.le_of_ble_eq_true rfl, Nat.le_of_ble_eq_true rfl⟩) (gp_V (ci := 3) (q0 := 0) (q := (RX3, TX3, 9)) hP hD hK hN [0, 1, 2, 3, 4, 5, 10, 11, 12, 13, 14, 15] (by decide +kernel) rfl rfl rfl) rfl rfl hl.1 rfl (lv_room (Nat.le_of_ble_eq_true rfl)) dX3_reckon_30 ⟨Nat.zero_le _, Nat.zero_le _⟩) hP hD hS hA [0, 1, 2, 3, 4, 5, 10, 11, 12, 13, 14, 15] [6, 7, 8, 9] rfl rfl (by decide +kernel) (by decide +kernel) [4, 5, 6, 7, 8, 9, 0, 1, 2, 3, 10, 11, 12, 13, 14, 15] (by decide +kernel) rfl (fun H locs hP hD hS => ?_)
  clear hz
  obtain ⟨x6_7, e_, hf⟩ := mb_let_s hf
  refine mb_topi e_ ?_
  clear e_
  refine lv_istore (lv' := [(6, .int x6_7), (5, .int x5_5), (0, .ref (b0 0)), (1, .int x1), (2, .int x2), (3, .ref (b3 0)), (4, .ref (b4 0))]) hx hb dX3_reckon_33 hl (by decide) rfl (fun ls hl => ?_)
  refine lv_iconst (v := 0) hx hb dX3_reckon_35 (by decide) ?_
  obtain ⟨x7_8, e_, hf⟩ := mb_let_s hf
  refine mb_topi e_ ?_
  clear e_
  refine lv_istore (lv' := [(7, .int x7_8), (6, .int x6_7), (5, .int x5_5), (0, .ref (b0 0)), (1, .int x1), (2, .int x2), (3, .ref (b3 0)), (4, .ref (b4 0))]) hx hb dX3_reckon_36 hl (by decide) rfl (fun ls hl => ?_)
  have lp38_9 : ∀ (n : Nat) (x7_11 : Int32) (P0_12 : PI) (L0_13 : PL) (H : Heap) (locs : List Loc) (ls : Array Slot), f_Papers_reckon_38 P1 x1 x5_5 x6_7 n x7_11 P0_12 L0_13 = some z → va_P D vwCl (wC_Papers k b0 P0_12 L0_13 ++ (wC_Units k b3 P1 ++ (wC_Decrees k b4 P2))) H → va_D A (wC_Papers k b0 P0_12 L0_13 ++ (wC_Units k b3 P1 ++ (wC_Decrees k b4 P2))) → va_S A s.heap H locs → lv_has ls 11 [(0, .ref (b0 0)), (1, .int x1), (3, .ref (b3 0)), (5, .int x5_5), (6, .int x6_7), (7, .int x7_11)] → W p l e rm_Papers_reckon s m args below meth c H locs 0 0 Q (F0 m 38 ls []) := by
    intro n
    induction n with
    | zero =>
      intro x7_11 P0_12 L0_13 H locs ls hf
      exact nomatch (show (none : Option (Int32 × PI × PL)) = some z from hf)
    | succ n ih_10 =>
      intro x7_11 P0_12 L0_13 H locs ls hf hP hD hS hl
      have hf : f_Papers_reckon_38_b P1 x1 x5_5 x6_7 (f_Papers_reckon_38 P1 x1 x5_5 x6_7 n) x7_11 P0_12 L0_13 = some z := hf
      unfold f_Papers_reckon_38_b at hf
      refine lv_iload hx hb dX3_reckon_38 (lv_at hl 5 rfl) ?_
      refine lv_aload_n hx hb dX3_reckon_40 rfl (lv_at hl 2 rfl) ?_
      refine va_get (D := D) (ci := 9) (v := .int (P1 0 3)) (C := RX9) (T := TX9) (N := 4) hx hb hts iw_Units hown hK hP 6 rfl rfl 3 (by decide) fl_50 (fun _ h9 => h9) rfl dX3_reckon_41 ?_
      refine lv_icmp_ge (tgt := 159) hx hb dX3_reckon_44 (by decide) (fun c_48 => ?_) (fun c_48 => ?_)
      · have hf := mb_if_t c_48 hf
        refine lv_aload_n hx hb dX3_reckon_159 rfl (lv_at hl 0 rfl) ?_
        refine va_get (D := D) (ci := 3) (v := .int (P0_12 0 8)) (C := RX3) (T := TX3) (N := 9) hx hb hts iw_Papers hown hK hP 0 rfl rfl 8 (by decide) fl_36 (fun _ h9 => h9) rfl dX3_reckon_160 ?_
        obtain ⟨h_15, hf⟩ := mb_z_s hf
        have hz := Option.some.inj hf
        subst hz
        exact hret _ _ _ _ h_15 dX3_reckon_163 hP hD hS
      · have hf := mb_if_f c_48 hf
        refine lv_iload hx hb dX3_reckon_47 (lv_at hl 3 rfl) ?_
        refine lv_iload hx hb dX3_reckon_49 (lv_at hl 5 rfl) ?_
        refine lv_ishr hx hb dX3_reckon_51 ?_
        refine lv_iconst (v := 1) hx hb dX3_reckon_52 (by decide) ?_
        refine lv_iand hx hb dX3_reckon_53 ?_
        refine lv_if_ne (tgt := 60) hx hb dX3_reckon_54 (by decide) (fun c_47 => ?_) (fun c_47 => ?_)
        · have hf := mb_if_f c_47 hf
          refine lv_aload_n hx hb dX3_reckon_60 rfl (lv_at hl 0 rfl) ?_
          refine va_get (D := D) (ci := 3) (v := .ref (b0 4)) (C := RX3) (T := TX3) (N := 9) hx hb hts iw_Papers hown hK hP 0 rfl rfl 3 (by decide) fl_19 (fun _ h9 => h9) rfl dX3_reckon_61 ?_
          refine lv_iload_n hx hb dX3_reckon_64 rfl (lv_at hl 1 rfl) ?_
          obtain ⟨h_16, hf⟩ := mb_chk_s hf
          refine va_iald hx hb hK hP 4 0 rfl rfl h_16 dX3_reckon_65 ?_
          refine lv_i2l hx hb dX3_reckon_66 rfl ?_
          refine lv_aload_n hx hb dX3_reckon_67 rfl (lv_at hl 2 rfl) ?_
          refine va_get (D := D) (ci := 9) (v := .ref (b3 2)) (C := RX9) (T := TX9) (N := 4) hx hb hts iw_Units hown hK hP 6 rfl rfl 1 (by decide) fl_53 (fun _ h9 => h9) rfl dX3_reckon_68 ?_
          refine lv_iload hx hb dX3_reckon_71 (lv_at hl 5 rfl) ?_
          obtain ⟨h_17, hf⟩ := mb_chk_s hf
          refine va_iald hx hb hK hP 8 0 rfl rfl h_17 dX3_reckon_73 ?_
          refine lv_i2l hx hb dX3_reckon_74 rfl ?_
          refine lv_lmul hx hb dX3_reckon_75 ?_
          obtain ⟨x8_18, e_, hf⟩ := mb_let_s hf
          refine mb_topl e_ ?_
          clear e_
          refine lv_lstore (lv' := [(8, .long x8_18), (0, .ref (b0 0)), (1, .int x1), (3, .ref (b3 0)), (5, .int x5_5), (6, .int x6_7), (7, .int x7_11)]) hx hb dX3_reckon_76 hl (by decide) rfl (fun ls hl => ?_)
          refine lv_aload_n hx hb dX3_reckon_78 rfl (lv_at hl 3 rfl) ?_
          refine va_get (D := D) (ci := 9) (v := .ref (b3 1)) (C := RX9) (T := TX9) (N := 4) hx hb hts iw_Units hown hK hP 6 rfl rfl 0 (by decide) fl_56 (fun _ h9 => h9) rfl dX3_reckon_79 ?_
          refine lv_iload hx hb dX3_reckon_82 (lv_at hl 6 rfl) ?_
          obtain ⟨h_19, hf⟩ := mb_chk_s hf
          refine va_iald hx hb hK hP 7 0 rfl rfl h_19 dX3_reckon_84 ?_
          refine lv_iconst (v := 1) hx hb dX3_reckon_85 (by decide) ?_
          obtain ⟨J94_21, eJ94_21, hf⟩ := mb_jn_s hf
          have j94_22 : ∀ (y_20 : Int32) (H : Heap) (locs : List Loc) (ls : Array Slot), J94_21 y_20 = some z → va_P D vwCl (wC_Papers k b0 P0_12 L0_13 ++ (wC_Units k b3 P1 ++ (wC_Decrees k b4 P2))) H → va_D A (wC_Papers k b0 P0_12 L0_13 ++ (wC_Units k b3 P1 ++ (wC_Decrees k b4 P2))) → va_S A s.heap H locs → lv_has ls 11 [(0, .ref (b0 0)), (1, .int x1), (3, .ref (b3 0)), (5, .int x5_5), (6, .int x6_7), (7, .int x7_11), (8, .long x8_18)] → W p l e rm_Papers_reckon s m args below meth c H locs 0 0 Q (F0 m 94 ls [.int y_20]) := by
            intro y_20 H locs ls hf hP hD hS hl
            have hf := mb_j1 eJ94_21 hf
            obtain ⟨x10_23, e_, hf⟩ := mb_let_s hf
            refine mb_topi e_ ?_
            clear e_
            refine lv_istore (lv' := [(10, .int x10_23), (0, .ref (b0 0)), (1, .int x1), (3, .ref (b3 0)), (5, .int x5_5), (6, .int x6_7), (7, .int x7_11), (8, .long x8_18)]) hx hb dX3_reckon_94 hl (by decide) rfl (fun ls hl => ?_)
            refine lv_iload hx hb dX3_reckon_96 (lv_at hl 0 rfl) ?_
            obtain ⟨J117_26, eJ117_26, hf⟩ := mb_jn_s hf
            have j117_27 : ∀ (P0_24 : PI) (L0_25 : PL) (H : Heap) (locs : List Loc) (ls : Array Slot), J117_26 P0_24 L0_25 = some z → va_P D vwCl (wC_Papers k b0 P0_24 L0_25 ++ (wC_Units k b3 P1 ++ (wC_Decrees k b4 P2))) H → va_D A (wC_Papers k b0 P0_24 L0_25 ++ (wC_Units k b3 P1 ++ (wC_Decrees k b4 P2))) → va_S A s.heap H locs → lv_has ls 11 [(0, .ref (b0 0)), (1, .int x1), (3, .ref (b3 0)), (5, .int x5_5), (6, .int x6_7), (7, .int x7_11), (8, .long x8_18), (10, .int x10_23)] → W p l e rm_Papers_reckon s m args below meth c H locs 0 0 Q (F0 m 117 ls []) := by
              intro P0_24 L0_25 H locs ls hf hP hD hS hl
              have hf := mb_j2 eJ117_26 hf
              refine lv_iload hx hb dX3_reckon_117 (lv_at hl 7 rfl) ?_
              refine lv_if_eq (tgt := 153) hx hb dX3_reckon_119 (by decide) (fun c_37 => ?_) (fun c_37 => ?_)
              · have hf := mb_if_t c_37 hf
                obtain ⟨x7_28, e_, hf⟩ := mb_let_s hf
                refine lv_iinc (v := x7_28) (lv' := [(7, .int x7_28), (0, .ref (b0 0)), (1, .int x1), (3, .ref (b3 0)), (5, .int x5_5), (6, .int x6_7), (8, .long x8_18), (10, .int x10_23)]) hx hb dX3_reckon_153 hl (k := 5) rfl (by rw [e_]; rfl) (by decide) rfl (fun ls hl => ?_)
                clear e_
                refine lv_goto (tgt := 38) hx hb dX3_reckon_156 (by decide) ?_
                exact ih_10 x7_28 P0_24 L0_25 _ _ _ hf hP hD hS (lv_sub hl [1, 2, 3, 4, 5, 0] rfl)
              · have hf := mb_if_f c_37 hf
                refine lv_iload hx hb dX3_reckon_122 (lv_at hl 4 rfl) ?_
                refine lv_if_eq (tgt := 153) hx hb dX3_reckon_124 (by decide) (fun c_36 => ?_) (fun c_36 => ?_)
                · have hf := mb_if_t c_36 hf
                  obtain ⟨x7_29, e_, hf⟩ := mb_let_s hf
                  refine lv_iinc (v := x7_29) (lv' := [(7, .int x7_29), (0, .ref (b0 0)), (1, .int x1), (3, .ref (b3 0)), (5, .int x5_5), (6, .int x6_7), (8, .long x8_18), (10, .int x10_23)]) hx hb dX3_reckon_153 hl (k := 5) rfl (by rw [e_]; rfl) (by decide) rfl (fun ls hl => ?_)
                  clear e_
                  refine lv_goto (tgt := 38) hx hb dX3_reckon_156 (by decide) ?_
                  exact ih_10 x7_29 P0_24 L0_25 _ _ _ hf hP hD hS (lv_sub hl [1, 2, 3, 4, 5, 0] rfl)
                · have hf := mb_if_f c_36 hf
                  refine lv_aload_n hx hb dX3_reckon_127 rfl (lv_at hl 0 rfl) ?_
                  refine lv_lload hx hb dX3_reckon_128 (lv_at hl 6 rfl) ?_
                  refine lv_bipush (v := 100) hx hb dX3_reckon_130 (by decide) ?_
                  refine lv_aload_n hx hb dX3_reckon_132 rfl (lv_at hl 2 rfl) ?_
                  refine va_get (D := D) (ci := 9) (v := .ref (b3 3)) (C := RX9) (T := TX9) (N := 4) hx hb hts iw_Units hown hK hP 6 rfl rfl 2 (by decide) fl_65 (fun _ h9 => h9) rfl dX3_reckon_133 ?_
                  refine lv_iload hx hb dX3_reckon_136 (lv_at hl 5 rfl) ?_
                  obtain ⟨h_30, hf⟩ := mb_chk_s hf
                  refine va_iald hx hb hK hP 9 0 rfl rfl h_30 dX3_reckon_138 ?_
                  refine lv_iadd hx hb dX3_reckon_139 ?_
                  refine lv_i2l hx hb dX3_reckon_140 rfl ?_
                  refine lv_lmul hx hb dX3_reckon_141 ?_
                  refine lv_ldc2 (v := (100)) hx hb hown lc_68 dX3_reckon_142 ?_
                  obtain ⟨h_31, hf⟩ := mb_dvl_s hf
                  refine lv_ldiv hx hb dX3_reckon_145 h_31 ?_
                  refine lv_ldc2 (v := (1000)) hx hb hown lc_59 dX3_reckon_146 ?_
                  obtain ⟨h_32, hf⟩ := mb_dvl_s hf
                  refine lv_ldiv hx hb dX3_reckon_149 h_32 ?_
                  obtain ⟨P0_33, L0_34, hz, hf⟩ := mb_bd2_s hf
                  refine gc_v (ws' := (wC_Papers k b0 P0_33 L0_34 ++ (wC_Units k b3 P1 ++ (wC_Decrees k b4 P2)))) (wr := (wC_Units k b3 P1 ++ (wC_Decrees k b4 P2))) (va_runV (As := [.long (((x8_18 * (((100 : Int32) + (P1 3 x7_11.toNatClampNeg))).toInt64) / (100 : Int64)) / (1000 : Int64))]) (rest := []) ⟨hx, hb, hml, hown, hts⟩ (c_Papers_consider l D k H.size b0 P0_24 L0_25 (((x8_18 * (((100 : Int32) + (P1 3 x7_11.toNatClampNeg))).toInt64) / (100 : Int64)) / (1000 : Int64)) (P0_33, L0_34) hz) (cwV 1 hts gX3_reckon_X3_consider rfl rfl rfl (by decide +kernel) ⟨Nat.le_of_ble_eq_true rfl, Nat.le_of_ble_eq_true rfl⟩) (gp_V (ci := 3) (q0 := 0) (q := (RX3, TX3, 9)) hP hD hK hN [0, 1, 2, 3, 4, 5] (by decide +kernel) rfl rfl rfl) rfl rfl hl.1 rfl (lv_room (Nat.le_of_ble_eq_true rfl)) dX3_reckon_150 ⟨Nat.zero_le _, Nat.zero_le _⟩) hP hD hS hA [0, 1, 2, 3, 4, 5] [6, 7, 8, 9, 10, 11, 12, 13, 14, 15] rfl rfl (by decide +kernel) (by decide +kernel) [10, 11, 12, 13, 14, 15, 0, 1, 2, 3, 4, 5, 6, 7, 8, 9] (by decide +kernel) rfl (fun H locs hP hD hS => ?_)
                  clear hz
                  obtain ⟨x7_35, e_, hf⟩ := mb_let_s hf
                  refine lv_iinc (v := x7_35) (lv' := [(7, .int x7_35), (0, .ref (b0 0)), (1, .int x1), (3, .ref (b3 0)), (5, .int x5_5), (6, .int x6_7), (8, .long x8_18), (10, .int x10_23)]) hx hb dX3_reckon_153 hl (k := 5) rfl (by rw [e_]; rfl) (by decide) rfl (fun ls hl => ?_)
                  clear e_
                  refine lv_goto (tgt := 38) hx hb dX3_reckon_156 (by decide) ?_
                  exact ih_10 x7_35 P0_33 L0_34 _ _ _ hf hP hD hS (lv_sub hl [1, 2, 3, 4, 5, 0] rfl)
            obtain ⟨J107_38, eJ107_38, hf⟩ := mb_jn_s hf
            have j107_39 : ∀ (H : Heap) (locs : List Loc) (ls : Array Slot), J107_38 = some z → va_P D vwCl (wC_Papers k b0 P0_12 L0_13 ++ (wC_Units k b3 P1 ++ (wC_Decrees k b4 P2))) H → va_D A (wC_Papers k b0 P0_12 L0_13 ++ (wC_Units k b3 P1 ++ (wC_Decrees k b4 P2))) → va_S A s.heap H locs → lv_has ls 11 [(0, .ref (b0 0)), (1, .int x1), (3, .ref (b3 0)), (5, .int x5_5), (6, .int x6_7), (7, .int x7_11), (8, .long x8_18), (10, .int x10_23)] → W p l e rm_Papers_reckon s m args below meth c H locs 0 0 Q (F0 m 107 ls []) := by
              intro  H locs ls hf hP hD hS hl
              have hf := mb_j0 eJ107_38 hf
              refine lv_aload_n hx hb dX3_reckon_107 rfl (lv_at hl 0 rfl) ?_
              refine lv_lload hx hb dX3_reckon_108 (lv_at hl 6 rfl) ?_
              refine lv_ldc2 (v := (1000)) hx hb hown lc_59 dX3_reckon_110 ?_
              obtain ⟨h_40, hf⟩ := mb_dvl_s hf
              refine lv_ldiv hx hb dX3_reckon_113 h_40 ?_
              obtain ⟨P0_41, L0_42, hz, hf⟩ := mb_bd2_s hf
              refine gc_v (ws' := (wC_Papers k b0 P0_41 L0_42 ++ (wC_Units k b3 P1 ++ (wC_Decrees k b4 P2)))) (wr := (wC_Units k b3 P1 ++ (wC_Decrees k b4 P2))) (va_runV (As := [.long (x8_18 / (1000 : Int64))]) (rest := []) ⟨hx, hb, hml, hown, hts⟩ (c_Papers_consider l D k H.size b0 P0_12 L0_13 (x8_18 / (1000 : Int64)) (P0_41, L0_42) hz) (cwV 1 hts gX3_reckon_X3_consider rfl rfl rfl (by decide +kernel) ⟨Nat.le_of_ble_eq_true rfl, Nat.le_of_ble_eq_true rfl⟩) (gp_V (ci := 3) (q0 := 0) (q := (RX3, TX3, 9)) hP hD hK hN [0, 1, 2, 3, 4, 5] (by decide +kernel) rfl rfl rfl) rfl rfl hl.1 rfl (lv_room (Nat.le_of_ble_eq_true rfl)) dX3_reckon_114 ⟨Nat.zero_le _, Nat.zero_le _⟩) hP hD hS hA [0, 1, 2, 3, 4, 5] [6, 7, 8, 9, 10, 11, 12, 13, 14, 15] rfl rfl (by decide +kernel) (by decide +kernel) [10, 11, 12, 13, 14, 15, 0, 1, 2, 3, 4, 5, 6, 7, 8, 9] (by decide +kernel) rfl (fun H locs hP hD hS => ?_)
              clear hz
              exact j117_27 P0_41 L0_42 _ _ _ hf hP hD hS (lv_sub hl [0, 1, 2, 3, 4, 5, 6, 7] rfl)
            refine lv_if_eq (tgt := 107) hx hb dX3_reckon_98 (by decide) (fun c_44 => ?_) (fun c_44 => ?_)
            · have hf := mb_if_t c_44 hf
              exact j107_39  _ _ _ hf hP hD hS (lv_sub hl [1, 2, 3, 4, 5, 6, 7, 0] rfl)
            · have hf := mb_if_f c_44 hf
              refine lv_iload hx hb dX3_reckon_101 (lv_at hl 5 rfl) ?_
              refine lv_iconst (v := 1) hx hb dX3_reckon_103 (by decide) ?_
              refine lv_icmp_eq (tgt := 117) hx hb dX3_reckon_104 (by decide) (fun c_43 => ?_) (fun c_43 => ?_)
              · have hf := mb_if_t c_43 hf
                exact j117_27 P0_12 L0_13 _ _ _ hf hP hD hS (lv_sub hl [1, 2, 3, 4, 5, 6, 7, 0] rfl)
              · have hf := mb_if_f c_43 hf
                exact j107_39  _ _ _ hf hP hD hS (lv_sub hl [1, 2, 3, 4, 5, 6, 7, 0] rfl)
          refine lv_icmp_ne (tgt := 93) hx hb dX3_reckon_86 (by decide) (fun c_45 => ?_) (fun c_45 => ?_)
          · have hf := mb_if_f c_45 hf
            refine lv_iconst (v := 0) hx hb dX3_reckon_93 (by decide) ?_
            exact j94_22 (0 : Int32) _ _ _ hf hP hD hS (lv_sub hl [1, 2, 3, 4, 5, 6, 0] rfl)
          · have hf := mb_if_t c_45 hf
            refine lv_iconst (v := 1) hx hb dX3_reckon_89 (by decide) ?_
            refine lv_goto (tgt := 94) hx hb dX3_reckon_90 (by decide) ?_
            exact j94_22 (1 : Int32) _ _ _ hf hP hD hS (lv_sub hl [1, 2, 3, 4, 5, 6, 0] rfl)
        · have hf := mb_if_t c_47 hf
          refine lv_goto (tgt := 153) hx hb dX3_reckon_57 (by decide) ?_
          obtain ⟨x7_46, e_, hf⟩ := mb_let_s hf
          refine lv_iinc (v := x7_46) (lv' := [(7, .int x7_46), (0, .ref (b0 0)), (1, .int x1), (3, .ref (b3 0)), (5, .int x5_5), (6, .int x6_7)]) hx hb dX3_reckon_153 hl (k := 5) rfl (by rw [e_]; rfl) (by decide) rfl (fun ls hl => ?_)
          clear e_
          refine lv_goto (tgt := 38) hx hb dX3_reckon_156 (by decide) ?_
          exact ih_10 x7_46 P0_12 L0_13 _ _ _ hf hP hD hS (lv_sub hl [1, 2, 3, 4, 5, 0] rfl)
  exact lp38_9 mb_fu x7_8 P0_1 L0 _ _ _ hf hP hD hS (lv_sub hl [3, 4, 6, 2, 1, 0] rfl)
