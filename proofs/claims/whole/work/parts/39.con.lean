def f_Tours_price_49_b (P1 : PI) (P2 : PI) (x5 : Int32) (x6_5 : Int32) (x7_10 : Int32) (K101_13 : PL → Option (PL)) (self_20 : Int32 → PL → Option (PL)) (x8_18 : Int32) (L0_19 : PL) : Option (PL) := (if (8 : Int32) ≤ x8_18 then K101_13 L0_19 else mb_chk x6_5 12 (mb_let (((P1 4 x6_5.toNatClampNeg) * (8 : Int32)) + x8_18) (fun (x9_22 : Int32) => mb_chk x9_22 48 (mb_bd1 (f_Tours_lossOf P1 P2 x6_5 (x8_18 &&& x7_10) x5) (fun (r_24 : Int64) => mb_chk x9_22 48 (mb_let (mb_u2L L0_19 3 x9_22.toNatClampNeg ((L0_19 3 x9_22.toNatClampNeg) + r_24)) (fun (L0_25 : PL) => mb_let (x8_18 + (1 : Int32)) (fun (x8_27 : Int32) => self_20 x8_27 L0_25))))))))
def f_Tours_price_49 (P1 : PI) (P2 : PI) (x5 : Int32) (x6_5 : Int32) (x7_10 : Int32) (K101_13 : PL → Option (PL)) : Nat → Int32 → PL → Option (PL)
  | 0, _, _ => none
  | n + 1, x8_18, L0_19 => f_Tours_price_49_b P1 P2 x5 x6_5 x7_10 K101_13 (f_Tours_price_49 P1 P2 x5 x6_5 x7_10 K101_13 n) x8_18 L0_19
def f_Tours_price_11_b (P1 : PI) (P2 : PI) (P3 : PI) (x4 : Int32) (x5 : Int32) (self_7 : Int32 → PL → Option (PL)) (x6_5 : Int32) (L0_6 : PL) : Option (PL) := (if (P1 0 0) ≤ x6_5 then some L0_6 else mb_chk x6_5 12 ((if (P1 11 x6_5.toNatClampNeg) = 0 then mb_bd1 (f_Tours_forfeitWeeks P1 P3 x6_5 x4 x5) (fun (r_9 : Int32) => mb_let r_9 (fun (x7_10 : Int32) => mb_let (0 : Int32) (fun (x8_11 : Int32) => mb_jn (fun (L0_12 : PL) => mb_let (x6_5 + (1 : Int32)) (fun (x6_15 : Int32) => self_7 x6_15 L0_12)) (fun K101_13 => f_Tours_price_49 P1 P2 x5 x6_5 x7_10 K101_13 mb_fu x8_11 L0_6)))) else mb_let (x6_5 + (1 : Int32)) (fun (x6_29 : Int32) => self_7 x6_29 L0_6))))
def f_Tours_price_11 (P1 : PI) (P2 : PI) (P3 : PI) (x4 : Int32) (x5 : Int32) : Nat → Int32 → PL → Option (PL)
  | 0, _, _ => none
  | n + 1, x6_5, L0_6 => f_Tours_price_11_b P1 P2 P3 x4 x5 (f_Tours_price_11 P1 P2 P3 x4 x5 n) x6_5 L0_6
def f_Tours_price (L0 : PL) (P1 : PI) (P2 : PI) (P3 : PI) (x4 : Int32) (x5 : Int32) : Option (PL) := mb_let (mb_upL L0 3 (mb_fill 48 (0 : Int64) (L0 3))) (fun (L0_1 : PL) => mb_let (0 : Int32) (fun (x6_2 : Int32) => f_Tours_price_11 P1 P2 P3 x4 x5 mb_fu x6_2 L0_1))
def rm_Tours_price : Room := { frames := 5, cells := 0, slots := 0, locals := 124 }
set_option maxHeartbeats 4000000 in
set_option maxRecDepth 100000 in
theorem c_Tours_price (l : Launch) (D : va_G) (k : Nat → ClassId) (sz : Nat) (b0 : Nat → Nat) (b1 : Nat → Nat) (b2 : Nat → Nat) (b3 : Nat → Nat) (P0 : PI) (L0 : PL) (P1 : PI) (L1 : PL) (P2 : PI) (P3 : PI) (x4 : Int32) (x5 : Int32) (z : PL) (hf : f_Tours_price L0 P1 P2 P3 x4 x5 = some z) : Met l yX7_price wsX7_price rm_Tours_price (va_Pc [.ref (b0 0), .ref (b1 0), .ref (b2 0), .ref (b3 0), .int x4, .int x5] (gw_pre D vwCl (tyL k) (wC_Tours k b0 P0 L0 ++ (wC_Rods k b1 P1 L1 ++ (wC_Units k b2 P2 ++ (wC_Decrees k b3 P3)))) sz)) (va_Qv (fun (_ : Unit) => True) (gw_b D vwCl (tyL k) (va_A (wC_Tours k b0 P0 L0 ++ (wC_Rods k b1 P1 L1 ++ (wC_Units k b2 P2 ++ (wC_Decrees k b3 P3)))) sz) (wC_Tours k b0 P0 z ++ (wC_Rods k b1 P1 L1 ++ (wC_Units k b2 P2 ++ (wC_Decrees k b3 P3))))) (va_A (wC_Tours k b0 P0 L0 ++ (wC_Rods k b1 P1 L1 ++ (wC_Units k b2 P2 ++ (wC_Decrees k b3 P3)))) sz)) 0 0 (va_A (wC_Tours k b0 P0 L0 ++ (wC_Rods k b1 P1 L1 ++ (wC_Units k b2 P2 ++ (wC_Decrees k b3 P3)))) sz) := by
  refine gm_v (cc := cX7_price) (maxL := 10) (by decide) rfl (Nat.le_of_ble_eq_true rfl) ?_
  intro p e s m args below meth c A Q ls H locs hx hb hml hown hts hK hN hA hP hD hS hl hret
  have hown : s.vm.findClass RX7 = some m.cls := hown
  have hl : lv_has ls 10 [(0, .ref (b0 0)), (1, .ref (b1 0)), (2, .ref (b2 0)), (3, .ref (b3 0)), (4, .int x4), (5, .int x5)] := hl
  have iw_Rods : ∀ w ∈ u_ws RX4 TX4 13, w ∈ wsX7_price := by decide +kernel
  have iw_Tours : ∀ w ∈ u_ws RX7 TX7 4, w ∈ wsX7_price := by decide +kernel
  have fl_19 := hts (.fieldLink RX7 19 "OneMeasure$Tours" "loss" "[J") (by decide +kernel)
  have fl_32 := hts (.fieldLink RX7 32 "OneMeasure$Rods" "count" "I") (by decide +kernel)
  have fl_38 := hts (.fieldLink RX7 38 "OneMeasure$Rods" "seized" "[I") (by decide +kernel)
  have fl_45 := hts (.fieldLink RX7 45 "OneMeasure$Rods" "district" "[I") (by decide +kernel)
  unfold f_Tours_price at hf
  refine lv_aload_n hx hb dX7_price_0 rfl (lv_at hl 0 rfl) ?_
  refine va_get (D := D) (ci := 7) (v := .ref (b0 3)) (C := RX7) (T := TX7) (N := 4) hx hb hts iw_Tours hown hK hP 0 rfl rfl 2 (by decide) fl_19 (fun _ h9 => h9) rfl dX7_price_1 ?_
  refine lv_lconst (v := 0) hx hb dX7_price_4 (by decide) ?_
  refine gc_v (ws' := (wC_Tours k b0 P0 (mb_upL L0 3 (mb_fill 48 (0 : Int64) (L0 3))) ++ (wC_Rods k b1 P1 L1 ++ (wC_Units k b2 P2 ++ (wC_Decrees k b3 P3))))) (wr := List.eraseIdx (wC_Tours k b0 P0 L0 ++ (wC_Rods k b1 P1 L1 ++ (wC_Units k b2 P2 ++ (wC_Decrees k b3 P3)))) 2) (va_runS (As := [.ref (b0 3), .long (0 : Int64)]) (rest := []) ⟨hx, hb, hml, hown, hts⟩ (c_fillJ l D k H.size (b0 3) 48 (L0 3) (0 : Int64) (by decide)) (va_cwS 2 hts gX7_price_J7_fill_d0a16 rfl rfl rfl (by decide +kernel) ⟨Nat.le_of_ble_eq_true rfl, Nat.le_of_ble_eq_true rfl⟩) (gp_S hP hD hK hN [2] (by decide +kernel) rfl) rfl rfl hl.1 rfl (lv_room (Nat.le_of_ble_eq_true rfl)) dX7_price_5 ⟨Nat.zero_le _, Nat.zero_le _⟩) hP hD hS hA [2] [0, 1, 3, 4, 5, 6, 7, 8, 9, 10, 11, 12, 13, 14, 15, 16, 17, 18, 19, 20, 21, 22, 23, 24, 25] rfl rfl (by decide +kernel) (by decide +kernel) [0, 1, 25, 2, 3, 4, 5, 6, 7, 8, 9, 10, 11, 12, 13, 14, 15, 16, 17, 18, 19, 20, 21, 22, 23, 24] (by decide +kernel) rfl (fun H locs hP hD hS => ?_)
  obtain ⟨L0_1, e_, hf⟩ := mb_let_s hf
  have hP : va_P D vwCl (wC_Tours k b0 P0 L0_1 ++ (wC_Rods k b1 P1 L1 ++ (wC_Units k b2 P2 ++ (wC_Decrees k b3 P3)))) H := by rw [e_]; exact hP
  have hD : va_D A (wC_Tours k b0 P0 L0_1 ++ (wC_Rods k b1 P1 L1 ++ (wC_Units k b2 P2 ++ (wC_Decrees k b3 P3)))) := by rw [e_]; exact hD
  clear e_
  refine lv_iconst (v := 0) hx hb dX7_price_8 (by decide) ?_
  obtain ⟨x6_2, e_, hf⟩ := mb_let_s hf
  refine mb_topi e_ ?_
  clear e_
  refine lv_istore (lv' := [(6, .int x6_2), (0, .ref (b0 0)), (1, .ref (b1 0)), (2, .ref (b2 0)), (3, .ref (b3 0)), (4, .int x4), (5, .int x5)]) hx hb dX7_price_9 hl (by decide) rfl (fun ls hl => ?_)
  have lp11_3 : ∀ (n : Nat) (x6_5 : Int32) (L0_6 : PL) (H : Heap) (locs : List Loc) (ls : Array Slot), f_Tours_price_11 P1 P2 P3 x4 x5 n x6_5 L0_6 = some z → va_P D vwCl (wC_Tours k b0 P0 L0_6 ++ (wC_Rods k b1 P1 L1 ++ (wC_Units k b2 P2 ++ (wC_Decrees k b3 P3)))) H → va_D A (wC_Tours k b0 P0 L0_6 ++ (wC_Rods k b1 P1 L1 ++ (wC_Units k b2 P2 ++ (wC_Decrees k b3 P3)))) → va_S A s.heap H locs → lv_has ls 10 [(0, .ref (b0 0)), (1, .ref (b1 0)), (2, .ref (b2 0)), (3, .ref (b3 0)), (4, .int x4), (5, .int x5), (6, .int x6_5)] → W p l e rm_Tours_price s m args below meth c H locs 0 0 Q (F0 m 11 ls []) := by
    intro n
    induction n with
    | zero =>
      intro x6_5 L0_6 H locs ls hf
      exact nomatch (show (none : Option (PL)) = some z from hf)
    | succ n ih_4 =>
      intro x6_5 L0_6 H locs ls hf hP hD hS hl
      have hf : f_Tours_price_11_b P1 P2 P3 x4 x5 (f_Tours_price_11 P1 P2 P3 x4 x5 n) x6_5 L0_6 = some z := hf
      unfold f_Tours_price_11_b at hf
      refine lv_iload hx hb dX7_price_11 (lv_at hl 6 rfl) ?_
      refine lv_aload_n hx hb dX7_price_13 rfl (lv_at hl 1 rfl) ?_
      refine va_get (D := D) (ci := 4) (v := .int (P1 0 0)) (C := RX4) (T := TX4) (N := 13) hx hb hts iw_Rods hown hK hP 4 rfl rfl 0 (by decide) fl_32 (fun _ h9 => h9) rfl dX7_price_14 ?_
      refine lv_icmp_ge (tgt := 107) hx hb dX7_price_17 (by decide) (fun c_31 => ?_) (fun c_31 => ?_)
      · have hf := mb_if_t c_31 hf
        have hz := Option.some.inj hf
        subst hz
        exact hret _ _ _ _ dX7_price_107 hP hD hS
      · have hf := mb_if_f c_31 hf
        refine lv_aload_n hx hb dX7_price_20 rfl (lv_at hl 1 rfl) ?_
        refine va_get (D := D) (ci := 4) (v := .ref (b1 11)) (C := RX4) (T := TX4) (N := 13) hx hb hts iw_Rods hown hK hP 4 rfl rfl 10 (by decide) fl_38 (fun _ h9 => h9) rfl dX7_price_21 ?_
        refine lv_iload hx hb dX7_price_24 (lv_at hl 6 rfl) ?_
        obtain ⟨h_8, hf⟩ := mb_chk_s hf
        refine va_iald hx hb hK hP 13 0 rfl rfl h_8 dX7_price_26 ?_
        refine lv_if_eq (tgt := 33) hx hb dX7_price_27 (by decide) (fun c_30 => ?_) (fun c_30 => ?_)
        · have hf := mb_if_t c_30 hf
          refine lv_iload hx hb dX7_price_33 (lv_at hl 6 rfl) ?_
          refine lv_aload_n hx hb dX7_price_35 rfl (lv_at hl 1 rfl) ?_
          refine lv_aload_n hx hb dX7_price_36 rfl (lv_at hl 3 rfl) ?_
          refine lv_iload hx hb dX7_price_37 (lv_at hl 4 rfl) ?_
          refine lv_iload hx hb dX7_price_39 (lv_at hl 5 rfl) ?_
          obtain ⟨r_9, hz, hf⟩ := mb_bd1_s hf
          refine gc_i (r0 := r_9) (ws' := (wC_Tours k b0 P0 L0_6 ++ (wC_Rods k b1 P1 L1 ++ (wC_Units k b2 P2 ++ (wC_Decrees k b3 P3))))) (wr := (wC_Tours k b0 P0 L0_6 ++ (wC_Units k b2 P2))) (va_runS (As := [.int x6_5, .ref (b1 0), .ref (b3 0), .int x4, .int x5]) (rest := []) ⟨hx, hb, hml, hown, hts⟩ (c_Tours_forfeitWeeks l D k H.size b1 b3 P1 L1 P3 x6_5 x4 x5 r_9 hz) (cwS 5 hts gX7_price_X7_forfeitWeeks rfl rfl rfl (by decide +kernel) ⟨Nat.le_of_ble_eq_true rfl, Nat.le_of_ble_eq_true rfl⟩) (gp_S hP hD hK hN [4, 5, 6, 7, 8, 9, 10, 11, 12, 13, 14, 15, 20, 21, 22, 23, 24, 25] (by decide +kernel) rfl) rfl rfl hl.1 rfl (lv_room (Nat.le_of_ble_eq_true rfl)) dX7_price_41 ⟨Nat.zero_le _, Nat.zero_le _⟩) hP hD hS hA [4, 5, 6, 7, 8, 9, 10, 11, 12, 13, 14, 15, 20, 21, 22, 23, 24, 25] [0, 1, 2, 3, 16, 17, 18, 19] rfl rfl (by decide +kernel) (by decide +kernel) [0, 1, 2, 3, 8, 9, 10, 11, 12, 13, 14, 15, 16, 17, 18, 19, 4, 5, 6, 7, 20, 21, 22, 23, 24, 25] (by decide +kernel) rfl (fun H locs hP hD hS => ?_)
          clear hz
          obtain ⟨x7_10, e_, hf⟩ := mb_let_s hf
          refine mb_topi e_ ?_
          clear e_
          refine lv_istore (lv' := [(7, .int x7_10), (0, .ref (b0 0)), (1, .ref (b1 0)), (2, .ref (b2 0)), (3, .ref (b3 0)), (4, .int x4), (5, .int x5), (6, .int x6_5)]) hx hb dX7_price_44 hl (by decide) rfl (fun ls hl => ?_)
          refine lv_iconst (v := 0) hx hb dX7_price_46 (by decide) ?_
          obtain ⟨x8_11, e_, hf⟩ := mb_let_s hf
          refine mb_topi e_ ?_
          clear e_
          refine lv_istore (lv' := [(8, .int x8_11), (7, .int x7_10), (0, .ref (b0 0)), (1, .ref (b1 0)), (2, .ref (b2 0)), (3, .ref (b3 0)), (4, .int x4), (5, .int x5), (6, .int x6_5)]) hx hb dX7_price_47 hl (by decide) rfl (fun ls hl => ?_)
          obtain ⟨K101_13, eK101_13, hf⟩ := mb_jn_s hf
          have k101_14 : ∀ (L0_12 : PL) (H : Heap) (locs : List Loc) (ls : Array Slot), K101_13 L0_12 = some z → va_P D vwCl (wC_Tours k b0 P0 L0_12 ++ (wC_Rods k b1 P1 L1 ++ (wC_Units k b2 P2 ++ (wC_Decrees k b3 P3)))) H → va_D A (wC_Tours k b0 P0 L0_12 ++ (wC_Rods k b1 P1 L1 ++ (wC_Units k b2 P2 ++ (wC_Decrees k b3 P3)))) → va_S A s.heap H locs → lv_has ls 10 [(0, .ref (b0 0)), (1, .ref (b1 0)), (2, .ref (b2 0)), (3, .ref (b3 0)), (4, .int x4), (5, .int x5), (6, .int x6_5)] → W p l e rm_Tours_price s m args below meth c H locs 0 0 Q (F0 m 101 ls []) := by
            intro L0_12 H locs ls hf hP hD hS hl
            have hf := mb_j1 eK101_13 hf
            obtain ⟨x6_15, e_, hf⟩ := mb_let_s hf
            refine lv_iinc (v := x6_15) (lv' := [(6, .int x6_15), (0, .ref (b0 0)), (1, .ref (b1 0)), (2, .ref (b2 0)), (3, .ref (b3 0)), (4, .int x4), (5, .int x5)]) hx hb dX7_price_101 hl (k := 6) rfl (by rw [e_]; rfl) (by decide) rfl (fun ls hl => ?_)
            clear e_
            refine lv_goto (tgt := 11) hx hb dX7_price_104 (by decide) ?_
            exact ih_4 x6_15 L0_12 _ _ _ hf hP hD hS (lv_sub hl [1, 2, 3, 4, 5, 6, 0] rfl)
          have lp49_16 : ∀ (n : Nat) (x8_18 : Int32) (L0_19 : PL) (H : Heap) (locs : List Loc) (ls : Array Slot), f_Tours_price_49 P1 P2 x5 x6_5 x7_10 K101_13 n x8_18 L0_19 = some z → va_P D vwCl (wC_Tours k b0 P0 L0_19 ++ (wC_Rods k b1 P1 L1 ++ (wC_Units k b2 P2 ++ (wC_Decrees k b3 P3)))) H → va_D A (wC_Tours k b0 P0 L0_19 ++ (wC_Rods k b1 P1 L1 ++ (wC_Units k b2 P2 ++ (wC_Decrees k b3 P3)))) → va_S A s.heap H locs → lv_has ls 10 [(0, .ref (b0 0)), (1, .ref (b1 0)), (2, .ref (b2 0)), (3, .ref (b3 0)), (4, .int x4), (5, .int x5), (6, .int x6_5), (7, .int x7_10), (8, .int x8_18)] → W p l e rm_Tours_price s m args below meth c H locs 0 0 Q (F0 m 49 ls []) := by
            intro n
            induction n with
            | zero =>
              intro x8_18 L0_19 H locs ls hf
              exact nomatch (show (none : Option (PL)) = some z from hf)
            | succ n ih_17 =>
              intro x8_18 L0_19 H locs ls hf hP hD hS hl
              have hf : f_Tours_price_49_b P1 P2 x5 x6_5 x7_10 K101_13 (f_Tours_price_49 P1 P2 x5 x6_5 x7_10 K101_13 n) x8_18 L0_19 = some z := hf
              unfold f_Tours_price_49_b at hf
              refine lv_iload hx hb dX7_price_49 (lv_at hl 8 rfl) ?_
              refine lv_bipush (v := 8) hx hb dX7_price_51 (by decide) ?_
              refine lv_icmp_ge (tgt := 101) hx hb dX7_price_53 (by decide) (fun c_28 => ?_) (fun c_28 => ?_)
              · have hf := mb_if_t c_28 hf
                exact k101_14 L0_19 _ _ _ hf hP hD hS (lv_sub hl [0, 1, 2, 3, 4, 5, 6] rfl)
              · have hf := mb_if_f c_28 hf
                refine lv_aload_n hx hb dX7_price_56 rfl (lv_at hl 1 rfl) ?_
                refine va_get (D := D) (ci := 4) (v := .ref (b1 4)) (C := RX4) (T := TX4) (N := 13) hx hb hts iw_Rods hown hK hP 4 rfl rfl 3 (by decide) fl_45 (fun _ h9 => h9) rfl dX7_price_57 ?_
                refine lv_iload hx hb dX7_price_60 (lv_at hl 6 rfl) ?_
                obtain ⟨h_21, hf⟩ := mb_chk_s hf
                refine va_iald hx hb hK hP 6 0 rfl rfl h_21 dX7_price_62 ?_
                refine lv_bipush (v := 8) hx hb dX7_price_63 (by decide) ?_
                refine lv_imul hx hb dX7_price_65 ?_
                refine lv_iload hx hb dX7_price_66 (lv_at hl 8 rfl) ?_
                refine lv_iadd hx hb dX7_price_68 ?_
                obtain ⟨x9_22, e_, hf⟩ := mb_let_s hf
                refine mb_topi e_ ?_
                clear e_
                refine lv_istore (lv' := [(9, .int x9_22), (0, .ref (b0 0)), (1, .ref (b1 0)), (2, .ref (b2 0)), (3, .ref (b3 0)), (4, .int x4), (5, .int x5), (6, .int x6_5), (7, .int x7_10), (8, .int x8_18)]) hx hb dX7_price_69 hl (by decide) rfl (fun ls hl => ?_)
                refine lv_aload_n hx hb dX7_price_71 rfl (lv_at hl 1 rfl) ?_
                refine va_get (D := D) (ci := 7) (v := .ref (b0 3)) (C := RX7) (T := TX7) (N := 4) hx hb hts iw_Tours hown hK hP 0 rfl rfl 2 (by decide) fl_19 (fun _ h9 => h9) rfl dX7_price_72 ?_
                refine lv_iload hx hb dX7_price_75 (lv_at hl 0 rfl) ?_
                refine lv_dup2_11 hx hb dX7_price_77 rfl rfl ?_
                obtain ⟨h_23, hf⟩ := mb_chk_s hf
                refine va_lald hx hb hK hP 2 1 rfl rfl h_23 dX7_price_78 ?_
                refine lv_iload hx hb dX7_price_79 (lv_at hl 7 rfl) ?_
                refine lv_aload_n hx hb dX7_price_81 rfl (lv_at hl 2 rfl) ?_
                refine lv_aload_n hx hb dX7_price_82 rfl (lv_at hl 3 rfl) ?_
                refine lv_iload hx hb dX7_price_83 (lv_at hl 9 rfl) ?_
                refine lv_iload hx hb dX7_price_85 (lv_at hl 8 rfl) ?_
                refine lv_iand hx hb dX7_price_87 ?_
                refine lv_iload hx hb dX7_price_88 (lv_at hl 6 rfl) ?_
                obtain ⟨r_24, hz, hf⟩ := mb_bd1_s hf
                refine gc_l (r0 := r_24) (ws' := (wC_Tours k b0 P0 L0_19 ++ (wC_Rods k b1 P1 L1 ++ (wC_Units k b2 P2 ++ (wC_Decrees k b3 P3))))) (wr := (wC_Tours k b0 P0 L0_19 ++ (wC_Decrees k b3 P3))) (va_runS (As := [.int x6_5, .ref (b1 0), .ref (b2 0), .int (x8_18 &&& x7_10), .int x5]) (rest := [.long (L0_19 3 x9_22.toNatClampNeg), .int x9_22, .ref (b0 3)]) ⟨hx, hb, hml, hown, hts⟩ (c_Tours_lossOf l D k H.size b1 b2 P1 L1 P2 x6_5 (x8_18 &&& x7_10) x5 r_24 hz) (cwS 5 hts gX7_price_X7_lossOf rfl rfl rfl (by decide +kernel) ⟨Nat.le_of_ble_eq_true rfl, Nat.le_of_ble_eq_true rfl⟩) (gp_S hP hD hK hN [4, 5, 6, 7, 8, 9, 10, 11, 12, 13, 14, 15, 16, 17, 18, 19] (by decide +kernel) rfl) rfl rfl hl.1 rfl (lv_room (Nat.le_of_ble_eq_true rfl)) dX7_price_90 ⟨Nat.zero_le _, Nat.zero_le _⟩) hP hD hS hA [4, 5, 6, 7, 8, 9, 10, 11, 12, 13, 14, 15, 16, 17, 18, 19] [0, 1, 2, 3, 20, 21, 22, 23, 24, 25] rfl rfl (by decide +kernel) (by decide +kernel) [0, 1, 2, 3, 10, 11, 12, 13, 14, 15, 16, 17, 18, 19, 20, 21, 22, 23, 24, 25, 4, 5, 6, 7, 8, 9] (by decide +kernel) rfl (fun H locs hP hD hS => ?_)
                clear hz
                refine lv_ladd hx hb dX7_price_93 ?_
                obtain ⟨h_26, hf⟩ := mb_chk_s hf
                obtain ⟨L0_25, e_, hf⟩ := mb_let_s hf
                refine va_last hx hb hK hP hD hS 2 1 rfl rfl h_26 dX7_price_94 (fun H locs hP hD hS => ?_)
                have hP : va_P D vwCl (wC_Tours k b0 P0 L0_25 ++ (wC_Rods k b1 P1 L1 ++ (wC_Units k b2 P2 ++ (wC_Decrees k b3 P3)))) H := by rw [e_]; exact hP
                have hD : va_D A (wC_Tours k b0 P0 L0_25 ++ (wC_Rods k b1 P1 L1 ++ (wC_Units k b2 P2 ++ (wC_Decrees k b3 P3)))) := by rw [e_]; exact hD
                clear e_
                obtain ⟨x8_27, e_, hf⟩ := mb_let_s hf
                refine lv_iinc (v := x8_27) (lv' := [(8, .int x8_27), (9, .int x9_22), (0, .ref (b0 0)), (1, .ref (b1 0)), (2, .ref (b2 0)), (3, .ref (b3 0)), (4, .int x4), (5, .int x5), (6, .int x6_5), (7, .int x7_10)]) hx hb dX7_price_95 hl (k := 9) rfl (by rw [e_]; rfl) (by decide) rfl (fun ls hl => ?_)
                clear e_
                refine lv_goto (tgt := 49) hx hb dX7_price_98 (by decide) ?_
                exact ih_17 x8_27 L0_25 _ _ _ hf hP hD hS (lv_sub hl [2, 3, 4, 5, 6, 7, 8, 9, 0] rfl)
          exact lp49_16 mb_fu x8_11 L0_6 _ _ _ hf hP hD hS (lv_sub hl [2, 3, 4, 5, 6, 7, 8, 1, 0] rfl)
        · have hf := mb_if_f c_30 hf
          refine lv_goto (tgt := 101) hx hb dX7_price_30 (by decide) ?_
          obtain ⟨x6_29, e_, hf⟩ := mb_let_s hf
          refine lv_iinc (v := x6_29) (lv' := [(6, .int x6_29), (0, .ref (b0 0)), (1, .ref (b1 0)), (2, .ref (b2 0)), (3, .ref (b3 0)), (4, .int x4), (5, .int x5)]) hx hb dX7_price_101 hl (k := 6) rfl (by rw [e_]; rfl) (by decide) rfl (fun ls hl => ?_)
          clear e_
          refine lv_goto (tgt := 11) hx hb dX7_price_104 (by decide) ?_
          exact ih_4 x6_29 L0_6 _ _ _ hf hP hD hS (lv_sub hl [1, 2, 3, 4, 5, 6, 0] rfl)
  exact lp11_3 mb_fu x6_2 L0_1 _ _ _ hf hP hD hS (lv_sub hl [1, 2, 3, 4, 5, 6, 0] rfl)
def f_Tours_patternOf_4_b (P0 : PI) (x1 : Int32) (self_7 : Int32 → Int32 → Option (Int32)) (x2_5 : Int32) (x3_6 : Int32) : Option (Int32) := (if (3 : Int32) ≤ x3_6 then some x2_5 else mb_chk x3_6 4 (mb_let (x2_5 ||| ((((P0 4 x3_6.toNatClampNeg) >>> (x1 &&& 31)) &&& (1 : Int32)) <<< (x3_6 &&& 31))) (fun (x2_9 : Int32) => mb_let (x3_6 + (1 : Int32)) (fun (x3_10 : Int32) => self_7 x2_9 x3_10))))
def f_Tours_patternOf_4 (P0 : PI) (x1 : Int32) : Nat → Int32 → Int32 → Option (Int32)
  | 0, _, _ => none
  | n + 1, x2_5, x3_6 => f_Tours_patternOf_4_b P0 x1 (f_Tours_patternOf_4 P0 x1 n) x2_5 x3_6
def f_Tours_patternOf (P0 : PI) (x1 : Int32) : Option (Int32) := mb_let (0 : Int32) (fun (x2_1 : Int32) => mb_let (0 : Int32) (fun (x3_2 : Int32) => f_Tours_patternOf_4 P0 x1 mb_fu x2_1 x3_2))
def rm_Tours_patternOf : Room := { frames := 0, cells := 0, slots := 0, locals := 0 }
set_option maxHeartbeats 4000000 in
set_option maxRecDepth 100000 in
theorem c_Tours_patternOf (l : Launch) (D : va_G) (k : Nat → ClassId) (sz : Nat) (b0 : Nat → Nat) (P0 : PI) (L0 : PL) (x1 : Int32) (z : Int32) (hf : f_Tours_patternOf P0 x1 = some z) : Met l yX7_patternOf wsX7_patternOf rm_Tours_patternOf (va_Pc [.ref (b0 0), .int x1] (gw_pre D vwCl (tyL k) (wC_Tours k b0 P0 L0) sz)) (va_Qi (fun (r : Int32) (_ : Unit) => r = z) (gw_b D vwCl (tyL k) (va_A (wC_Tours k b0 P0 L0) sz) (wC_Tours k b0 P0 L0)) (va_A (wC_Tours k b0 P0 L0) sz)) 0 0 (va_A (wC_Tours k b0 P0 L0) sz) := by
  refine gm_i (cc := cX7_patternOf) (maxL := 4) (by decide) rfl (Nat.le_of_ble_eq_true rfl) ?_
  intro p e s m args below meth c A Q ls H locs hx hb hml hown hts hK hN hA hP hD hS hl hret
  have hown : s.vm.findClass RX7 = some m.cls := hown
  have hl : lv_has ls 4 [(0, .ref (b0 0)), (1, .int x1)] := hl
  have iw_Tours : ∀ w ∈ u_ws RX7 TX7 4, w ∈ wsX7_patternOf := by decide +kernel
  have fl_23 := hts (.fieldLink RX7 23 "OneMeasure$Tours" "sets" "[I") (by decide +kernel)
  unfold f_Tours_patternOf at hf
  refine lv_iconst (v := 0) hx hb dX7_patternOf_0 (by decide) ?_
  obtain ⟨x2_1, e_, hf⟩ := mb_let_s hf
  refine mb_topi e_ ?_
  clear e_
  refine lv_istore_n (lv' := [(2, .int x2_1), (0, .ref (b0 0)), (1, .int x1)]) hx hb dX7_patternOf_1 rfl hl (by decide) rfl (fun ls hl => ?_)
  refine lv_iconst (v := 0) hx hb dX7_patternOf_2 (by decide) ?_
  obtain ⟨x3_2, e_, hf⟩ := mb_let_s hf
  refine mb_topi e_ ?_
  clear e_
  refine lv_istore_n (lv' := [(3, .int x3_2), (2, .int x2_1), (0, .ref (b0 0)), (1, .int x1)]) hx hb dX7_patternOf_3 rfl hl (by decide) rfl (fun ls hl => ?_)
  have lp4_3 : ∀ (n : Nat) (x2_5 : Int32) (x3_6 : Int32) (H : Heap) (locs : List Loc) (ls : Array Slot), f_Tours_patternOf_4 P0 x1 n x2_5 x3_6 = some z → va_P D vwCl (wC_Tours k b0 P0 L0) H → va_D A (wC_Tours k b0 P0 L0) → va_S A s.heap H locs → lv_has ls 4 [(0, .ref (b0 0)), (1, .int x1), (2, .int x2_5), (3, .int x3_6)] → W p l e rm_Tours_patternOf s m args below meth c H locs 0 0 Q (F0 m 4 ls []) := by
    intro n
    induction n with
    | zero =>
      intro x2_5 x3_6 H locs ls hf
      exact nomatch (show (none : Option (Int32)) = some z from hf)
    | succ n ih_4 =>
      intro x2_5 x3_6 H locs ls hf hP hD hS hl
      have hf : f_Tours_patternOf_4_b P0 x1 (f_Tours_patternOf_4 P0 x1 n) x2_5 x3_6 = some z := hf
      unfold f_Tours_patternOf_4_b at hf
      refine lv_iload_n hx hb dX7_patternOf_4 rfl (lv_at hl 3 rfl) ?_
      refine lv_iconst (v := 3) hx hb dX7_patternOf_5 (by decide) ?_
      refine lv_icmp_ge (tgt := 30) hx hb dX7_patternOf_6 (by decide) (fun c_11 => ?_) (fun c_11 => ?_)
      · have hf := mb_if_t c_11 hf
        refine lv_iload_n hx hb dX7_patternOf_30 rfl (lv_at hl 2 rfl) ?_
        have hz := Option.some.inj hf
        subst hz
        exact hret _ _ _ _ dX7_patternOf_31 hP hD hS
      · have hf := mb_if_f c_11 hf
        refine lv_iload_n hx hb dX7_patternOf_9 rfl (lv_at hl 2 rfl) ?_
        refine lv_aload_n hx hb dX7_patternOf_10 rfl (lv_at hl 0 rfl) ?_
        refine va_get (D := D) (ci := 7) (v := .ref (b0 4)) (C := RX7) (T := TX7) (N := 4) hx hb hts iw_Tours hown hK hP 0 rfl rfl 3 (by decide) fl_23 (fun _ h9 => h9) rfl dX7_patternOf_11 ?_
        refine lv_iload_n hx hb dX7_patternOf_14 rfl (lv_at hl 3 rfl) ?_
        obtain ⟨h_8, hf⟩ := mb_chk_s hf
        refine va_iald hx hb hK hP 3 0 rfl rfl h_8 dX7_patternOf_15 ?_
        refine lv_iload_n hx hb dX7_patternOf_16 rfl (lv_at hl 1 rfl) ?_
        refine lv_ishr hx hb dX7_patternOf_17 ?_
        refine lv_iconst (v := 1) hx hb dX7_patternOf_18 (by decide) ?_
        refine lv_iand hx hb dX7_patternOf_19 ?_
        refine lv_iload_n hx hb dX7_patternOf_20 rfl (lv_at hl 3 rfl) ?_
        refine lv_ishl hx hb dX7_patternOf_21 ?_
        refine lv_ior hx hb dX7_patternOf_22 ?_
        obtain ⟨x2_9, e_, hf⟩ := mb_let_s hf
        refine mb_topi e_ ?_
        clear e_
        refine lv_istore_n (lv' := [(2, .int x2_9), (0, .ref (b0 0)), (1, .int x1), (3, .int x3_6)]) hx hb dX7_patternOf_23 rfl hl (by decide) rfl (fun ls hl => ?_)
        obtain ⟨x3_10, e_, hf⟩ := mb_let_s hf
        refine lv_iinc (v := x3_10) (lv' := [(3, .int x3_10), (2, .int x2_9), (0, .ref (b0 0)), (1, .int x1)]) hx hb dX7_patternOf_24 hl (k := 3) rfl (by rw [e_]; rfl) (by decide) rfl (fun ls hl => ?_)
        clear e_
        refine lv_goto (tgt := 4) hx hb dX7_patternOf_27 (by decide) ?_
        exact ih_4 x2_9 x3_10 _ _ _ hf hP hD hS (lv_sub hl [2, 3, 1, 0] rfl)
  exact lp4_3 mb_fu x2_1 x3_2 _ _ _ hf hP hD hS (lv_sub hl [2, 3, 1, 0] rfl)
def f_Tours_weigh_51_b (L0_6 : PL) (self_12 : Int32 → PI → Option (PI × PL)) (x3_10 : Int32) (P0_11 : PI) : Option (PI × PL) := (if (4 : Int32) ≤ x3_10 then some (P0_11, L0_6) else mb_chk x3_10 4 (mb_chk x3_10 4 (mb_let (mb_u2 P0_11 1 x3_10.toNatClampNeg (P0_11 4 x3_10.toNatClampNeg)) (fun (P0_14 : PI) => mb_let (x3_10 + (1 : Int32)) (fun (x3_16 : Int32) => self_12 x3_16 P0_14)))))
def f_Tours_weigh_51 (L0_6 : PL) : Nat → Int32 → PI → Option (PI × PL)
  | 0, _, _ => none
  | n + 1, x3_10, P0_11 => f_Tours_weigh_51_b L0_6 (f_Tours_weigh_51 L0_6 n) x3_10 P0_11
def f_Tours_weigh_4_b (P0 : PI) (L0 : PL) (K34_4 : Int64 → Option (PI × PL)) (self_23 : Int64 → Int32 → Option (PI × PL)) (x1_21 : Int64) (x3_22 : Int32) : Option (PI × PL) := (if (6 : Int32) ≤ x3_22 then K34_4 x1_21 else mb_bd1 (f_Tours_patternOf P0 x3_22) (fun (r_24 : Int32) => mb_chk ((x3_22 * (8 : Int32)) + r_24) 48 (mb_let (x1_21 + (L0 3 ((x3_22 * (8 : Int32)) + r_24).toNatClampNeg)) (fun (x1_26 : Int64) => mb_let (x3_22 + (1 : Int32)) (fun (x3_27 : Int32) => self_23 x1_26 x3_27)))))
def f_Tours_weigh_4 (P0 : PI) (L0 : PL) (K34_4 : Int64 → Option (PI × PL)) : Nat → Int64 → Int32 → Option (PI × PL)
  | 0, _, _ => none
  | n + 1, x1_21, x3_22 => f_Tours_weigh_4_b P0 L0 K34_4 (f_Tours_weigh_4 P0 L0 K34_4 n) x1_21 x3_22
def f_Tours_weigh (P0 : PI) (L0 : PL) : Option (PI × PL) := mb_let (0 : Int64) (fun (x1_1 : Int64) => mb_let (0 : Int32) (fun (x3_2 : Int32) => mb_jn (fun (x1_3 : Int64) => (if (lg_cmp x1_3 (L0 0 1)) < 0 then mb_let (mb_uoL L0 1 x1_3) (fun (L0_6 : PL) => mb_let (0 : Int32) (fun (x3_7 : Int32) => f_Tours_weigh_51 L0_6 mb_fu x3_7 P0)) else some (P0, L0))) (fun K34_4 => f_Tours_weigh_4 P0 L0 K34_4 mb_fu x1_1 x3_2)))
def rm_Tours_weigh : Room := { frames := 1, cells := 0, slots := 0, locals := 23 }
set_option maxHeartbeats 4000000 in
set_option maxRecDepth 100000 in
theorem c_Tours_weigh (l : Launch) (D : va_G) (k : Nat → ClassId) (sz : Nat) (b0 : Nat → Nat) (P0 : PI) (L0 : PL) (z : PI × PL) (hf : f_Tours_weigh P0 L0 = some z) : Met l yX7_weigh wsX7_weigh rm_Tours_weigh (va_Pc [.ref (b0 0)] (gw_pre D vwCl (tyL k) (wC_Tours k b0 P0 L0) sz)) (va_Qv (fun (_ : Unit) => True) (gw_b D vwCl (tyL k) (va_A (wC_Tours k b0 P0 L0) sz) (wC_Tours k b0 z.1 z.2)) (va_A (wC_Tours k b0 P0 L0) sz)) 0 0 (va_A (wC_Tours k b0 P0 L0) sz) := by
  refine gm_v (cc := cX7_weigh) (maxL := 4) (by decide) rfl (Nat.le_of_ble_eq_true rfl) ?_
  intro p e s m args below meth c A Q ls H locs hx hb hml hown hts hK hN hA hP hD hS hl hret
  have hown : s.vm.findClass RX7 = some m.cls := hown
  have hl : lv_has ls 4 [(0, .ref (b0 0))] := hl
  have iw_Tours : ∀ w ∈ u_ws RX7 TX7 4, w ∈ wsX7_weigh := by decide +kernel
  have fl_11 := hts (.fieldLink RX7 11 "OneMeasure$Tours" "bestSets" "[I") (by decide +kernel)
  have fl_15 := hts (.fieldLink RX7 15 "OneMeasure$Tours" "least" "J") (by decide +kernel)
  have fl_19 := hts (.fieldLink RX7 19 "OneMeasure$Tours" "loss" "[J") (by decide +kernel)
  have fl_23 := hts (.fieldLink RX7 23 "OneMeasure$Tours" "sets" "[I") (by decide +kernel)
  unfold f_Tours_weigh at hf
  refine lv_lconst (v := 0) hx hb dX7_weigh_0 (by decide) ?_
  obtain ⟨x1_1, e_, hf⟩ := mb_let_s hf
  refine mb_topl e_ ?_
  clear e_
  refine lv_lstore_n (lv' := [(1, .long x1_1), (0, .ref (b0 0))]) hx hb dX7_weigh_1 rfl hl (by decide) rfl (fun ls hl => ?_)
  refine lv_iconst (v := 0) hx hb dX7_weigh_2 (by decide) ?_
  obtain ⟨x3_2, e_, hf⟩ := mb_let_s hf
  refine mb_topi e_ ?_
  clear e_
  refine lv_istore_n (lv' := [(3, .int x3_2), (1, .long x1_1), (0, .ref (b0 0))]) hx hb dX7_weigh_3 rfl hl (by decide) rfl (fun ls hl => ?_)
  obtain ⟨K34_4, eK34_4, hf⟩ := mb_jn_s hf
  have k34_5 : ∀ (x1_3 : Int64) (H : Heap) (locs : List Loc) (ls : Array Slot), K34_4 x1_3 = some z → va_P D vwCl (wC_Tours k b0 P0 L0) H → va_D A (wC_Tours k b0 P0 L0) → va_S A s.heap H locs → lv_has ls 4 [(0, .ref (b0 0)), (1, .long x1_3)] → W p l e rm_Tours_weigh s m args below meth c H locs 0 0 Q (F0 m 34 ls []) := by
    intro x1_3 H locs ls hf hP hD hS hl
    have hf := mb_j1 eK34_4 hf
    refine lv_lload_n hx hb dX7_weigh_34 rfl (lv_at hl 1 rfl) ?_
    refine lv_aload_n hx hb dX7_weigh_35 rfl (lv_at hl 0 rfl) ?_
    refine va_get (D := D) (ci := 7) (v := .long (L0 0 1)) (C := RX7) (T := TX7) (N := 4) hx hb hts iw_Tours hown hK hP 0 rfl rfl 1 (by decide) fl_15 (fun _ h9 => h9) rfl dX7_weigh_36 ?_
    refine W.lcmp hx hb dX7_weigh_39 ?_
    refine lv_if_lt (tgt := 44) hx hb dX7_weigh_40 (by decide) (fun c_18 => ?_) (fun c_18 => ?_)
    · have hf := mb_if_t c_18 hf
      refine lv_aload_n hx hb dX7_weigh_44 rfl (lv_at hl 0 rfl) ?_
      refine lv_lload_n hx hb dX7_weigh_45 rfl (lv_at hl 1 rfl) ?_
      obtain ⟨L0_6, e_, hf⟩ := mb_let_s hf
      refine va_put (D := D) (ci := 7) (v := .long x1_3) (ty := .long) (C := RX7) (T := TX7) (N := 4) hx hb hts iw_Tours tyX7 tyX7_ok nmX7 hown hK hP hD hS 0 rfl rfl 1 (by decide) fl_15 (fun _ h9 => h9) rfl (by decide +kernel) rfl rfl (Nat.le_of_ble_eq_true rfl) dX7_weigh_46 (fun H locs hP hD hS => ?_)
      have hP : va_P D vwCl (wC_Tours k b0 P0 L0_6) H := by rw [e_]; exact hP
      have hD : va_D A (wC_Tours k b0 P0 L0_6) := by rw [e_]; exact hD
      clear e_
      refine lv_iconst (v := 0) hx hb dX7_weigh_49 (by decide) ?_
      obtain ⟨x3_7, e_, hf⟩ := mb_let_s hf
      refine mb_topi e_ ?_
      clear e_
      refine lv_istore_n (lv' := [(3, .int x3_7), (0, .ref (b0 0)), (1, .long x1_3)]) hx hb dX7_weigh_50 rfl hl (by decide) rfl (fun ls hl => ?_)
      have lp51_8 : ∀ (n : Nat) (x3_10 : Int32) (P0_11 : PI) (H : Heap) (locs : List Loc) (ls : Array Slot), f_Tours_weigh_51 L0_6 n x3_10 P0_11 = some z → va_P D vwCl (wC_Tours k b0 P0_11 L0_6) H → va_D A (wC_Tours k b0 P0_11 L0_6) → va_S A s.heap H locs → lv_has ls 4 [(0, .ref (b0 0)), (3, .int x3_10)] → W p l e rm_Tours_weigh s m args below meth c H locs 0 0 Q (F0 m 51 ls []) := by
        intro n
        induction n with
        | zero =>
          intro x3_10 P0_11 H locs ls hf
          exact nomatch (show (none : Option (PI × PL)) = some z from hf)
        | succ n ih_9 =>
          intro x3_10 P0_11 H locs ls hf hP hD hS hl
          have hf : f_Tours_weigh_51_b L0_6 (f_Tours_weigh_51 L0_6 n) x3_10 P0_11 = some z := hf
          unfold f_Tours_weigh_51_b at hf
          refine lv_iload_n hx hb dX7_weigh_51 rfl (lv_at hl 1 rfl) ?_
          refine lv_iconst (v := 4) hx hb dX7_weigh_52 (by decide) ?_
          refine lv_icmp_ge (tgt := 74) hx hb dX7_weigh_53 (by decide) (fun c_17 => ?_) (fun c_17 => ?_)
          · have hf := mb_if_t c_17 hf
            have hz := Option.some.inj hf
            subst hz
            exact hret _ _ _ _ dX7_weigh_74 hP hD hS
          · have hf := mb_if_f c_17 hf
            refine lv_aload_n hx hb dX7_weigh_56 rfl (lv_at hl 0 rfl) ?_
            refine va_get (D := D) (ci := 7) (v := .ref (b0 1)) (C := RX7) (T := TX7) (N := 4) hx hb hts iw_Tours hown hK hP 0 rfl rfl 0 (by decide) fl_11 (fun _ h9 => h9) rfl dX7_weigh_57 ?_
            refine lv_iload_n hx hb dX7_weigh_60 rfl (lv_at hl 1 rfl) ?_
            refine lv_aload_n hx hb dX7_weigh_61 rfl (lv_at hl 0 rfl) ?_
            refine va_get (D := D) (ci := 7) (v := .ref (b0 4)) (C := RX7) (T := TX7) (N := 4) hx hb hts iw_Tours hown hK hP 0 rfl rfl 3 (by decide) fl_23 (fun _ h9 => h9) rfl dX7_weigh_62 ?_
            refine lv_iload_n hx hb dX7_weigh_65 rfl (lv_at hl 1 rfl) ?_
            obtain ⟨h_13, hf⟩ := mb_chk_s hf
            refine va_iald hx hb hK hP 3 0 rfl rfl h_13 dX7_weigh_66 ?_
            obtain ⟨h_15, hf⟩ := mb_chk_s hf
            obtain ⟨P0_14, e_, hf⟩ := mb_let_s hf
            refine va_iast hx hb hK hP hD hS 1 0 rfl rfl h_15 dX7_weigh_67 (fun H locs hP hD hS => ?_)
            have hP : va_P D vwCl (wC_Tours k b0 P0_14 L0_6) H := by rw [e_]; exact hP
            have hD : va_D A (wC_Tours k b0 P0_14 L0_6) := by rw [e_]; exact hD
            clear e_
            obtain ⟨x3_16, e_, hf⟩ := mb_let_s hf
            refine lv_iinc (v := x3_16) (lv' := [(3, .int x3_16), (0, .ref (b0 0))]) hx hb dX7_weigh_68 hl (k := 1) rfl (by rw [e_]; rfl) (by decide) rfl (fun ls hl => ?_)
            clear e_
            refine lv_goto (tgt := 51) hx hb dX7_weigh_71 (by decide) ?_
            exact ih_9 x3_16 P0_14 _ _ _ hf hP hD hS (lv_sub hl [1, 0] rfl)
      exact lp51_8 mb_fu x3_7 P0 _ _ _ hf hP hD hS (lv_sub hl [1, 0] rfl)
    · have hf := mb_if_f c_18 hf
      have hz := Option.some.inj hf
      subst hz
      exact hret _ _ _ _ dX7_weigh_43 hP hD hS
  have lp4_19 : ∀ (n : Nat) (x1_21 : Int64) (x3_22 : Int32) (H : Heap) (locs : List Loc) (ls : Array Slot), f_Tours_weigh_4 P0 L0 K34_4 n x1_21 x3_22 = some z → va_P D vwCl (wC_Tours k b0 P0 L0) H → va_D A (wC_Tours k b0 P0 L0) → va_S A s.heap H locs → lv_has ls 4 [(0, .ref (b0 0)), (1, .long x1_21), (3, .int x3_22)] → W p l e rm_Tours_weigh s m args below meth c H locs 0 0 Q (F0 m 4 ls []) := by
    intro n
    induction n with
    | zero =>
      intro x1_21 x3_22 H locs ls hf
      exact nomatch (show (none : Option (PI × PL)) = some z from hf)
    | succ n ih_20 =>
      intro x1_21 x3_22 H locs ls hf hP hD hS hl
      have hf : f_Tours_weigh_4_b P0 L0 K34_4 (f_Tours_weigh_4 P0 L0 K34_4 n) x1_21 x3_22 = some z := hf
      unfold f_Tours_weigh_4_b at hf
      refine lv_iload_n hx hb dX7_weigh_4 rfl (lv_at hl 2 rfl) ?_
      refine lv_bipush (v := 6) hx hb dX7_weigh_5 (by decide) ?_
      refine lv_icmp_ge (tgt := 34) hx hb dX7_weigh_7 (by decide) (fun c_28 => ?_) (fun c_28 => ?_)
      · have hf := mb_if_t c_28 hf
        exact k34_5 x1_21 _ _ _ hf hP hD hS (lv_sub hl [0, 1] rfl)
      · have hf := mb_if_f c_28 hf
        refine lv_lload_n hx hb dX7_weigh_10 rfl (lv_at hl 1 rfl) ?_
        refine lv_aload_n hx hb dX7_weigh_11 rfl (lv_at hl 0 rfl) ?_
        refine va_get (D := D) (ci := 7) (v := .ref (b0 3)) (C := RX7) (T := TX7) (N := 4) hx hb hts iw_Tours hown hK hP 0 rfl rfl 2 (by decide) fl_19 (fun _ h9 => h9) rfl dX7_weigh_12 ?_
        refine lv_iload_n hx hb dX7_weigh_15 rfl (lv_at hl 2 rfl) ?_
        refine lv_bipush (v := 8) hx hb dX7_weigh_16 (by decide) ?_
        refine lv_imul hx hb dX7_weigh_18 ?_
        refine lv_aload_n hx hb dX7_weigh_19 rfl (lv_at hl 0 rfl) ?_
        refine lv_iload_n hx hb dX7_weigh_20 rfl (lv_at hl 2 rfl) ?_
        obtain ⟨r_24, hz, hf⟩ := mb_bd1_s hf
        refine gc_i (r0 := r_24) (ws' := (wC_Tours k b0 P0 L0)) (wr := ([] : va_W)) (va_runV (As := [.int x3_22]) (rest := [.int (x3_22 * (8 : Int32)), .ref (b0 3), .long x1_21]) ⟨hx, hb, hml, hown, hts⟩ (c_Tours_patternOf l D k H.size b0 P0 L0 x3_22 r_24 hz) (cwV 1 hts gX7_weigh_X7_patternOf rfl rfl rfl (by decide +kernel) ⟨Nat.le_of_ble_eq_true rfl, Nat.le_of_ble_eq_true rfl⟩) (gp_V (ci := 7) (q0 := 0) (q := (RX7, TX7, 4)) hP hD hK hN [0, 1, 2, 3] (by decide +kernel) rfl rfl rfl) rfl rfl hl.1 rfl (lv_room (Nat.le_of_ble_eq_true rfl)) dX7_weigh_21 ⟨Nat.zero_le _, Nat.zero_le _⟩) hP hD hS hA [0, 1, 2, 3] [] rfl rfl (by decide +kernel) (by decide +kernel) [0, 1, 2, 3] (by decide +kernel) rfl (fun H locs hP hD hS => ?_)
        clear hz
        refine lv_iadd hx hb dX7_weigh_24 ?_
        obtain ⟨h_25, hf⟩ := mb_chk_s hf
        refine va_lald hx hb hK hP 2 1 rfl rfl h_25 dX7_weigh_25 ?_
        refine lv_ladd hx hb dX7_weigh_26 ?_
        obtain ⟨x1_26, e_, hf⟩ := mb_let_s hf
        refine mb_topl e_ ?_
        clear e_
        refine lv_lstore_n (lv' := [(1, .long x1_26), (0, .ref (b0 0)), (3, .int x3_22)]) hx hb dX7_weigh_27 rfl hl (by decide) rfl (fun ls hl => ?_)
        obtain ⟨x3_27, e_, hf⟩ := mb_let_s hf
        refine lv_iinc (v := x3_27) (lv' := [(3, .int x3_27), (1, .long x1_26), (0, .ref (b0 0))]) hx hb dX7_weigh_28 hl (k := 2) rfl (by rw [e_]; rfl) (by decide) rfl (fun ls hl => ?_)
        clear e_
        refine lv_goto (tgt := 4) hx hb dX7_weigh_31 (by decide) ?_
        exact ih_20 x1_26 x3_27 _ _ _ hf hP hD hS (lv_sub hl [2, 1, 0] rfl)
  exact lp4_19 mb_fu x1_1 x3_2 _ _ _ hf hP hD hS (lv_sub hl [2, 1, 0] rfl)
def f_Tours_worthwhileIn_4_b (P0 : PI) (L0 : PL) (x1 : Int32) (self_7 : Int32 → Int32 → Option (Int32)) (x2_5 : Int32) (x3_6 : Int32) : Option (Int32) := (if (6 : Int32) ≤ x3_6 then some x2_5 else mb_bd1 (f_Tours_patternOf P0 x3_6) (fun (r_8 : Int32) => mb_let r_8 (fun (x4_9 : Int32) => mb_chk ((x3_6 * (8 : Int32)) + (x4_9 ||| ((1 : Int32) <<< (x1 &&& 31)))) 48 (mb_chk ((x3_6 * (8 : Int32)) + x4_9) 48 ((if 0 ≤ (lg_cmp (L0 3 ((x3_6 * (8 : Int32)) + (x4_9 ||| ((1 : Int32) <<< (x1 &&& 31)))).toNatClampNeg) (L0 3 ((x3_6 * (8 : Int32)) + x4_9).toNatClampNeg)) then mb_let (x3_6 + (1 : Int32)) (fun (x3_12 : Int32) => self_7 x2_5 x3_12) else mb_let (x2_5 ||| ((1 : Int32) <<< (x3_6 &&& 31))) (fun (x2_13 : Int32) => mb_let (x3_6 + (1 : Int32)) (fun (x3_14 : Int32) => self_7 x2_13 x3_14))))))))
def f_Tours_worthwhileIn_4 (P0 : PI) (L0 : PL) (x1 : Int32) : Nat → Int32 → Int32 → Option (Int32)
  | 0, _, _ => none
  | n + 1, x2_5, x3_6 => f_Tours_worthwhileIn_4_b P0 L0 x1 (f_Tours_worthwhileIn_4 P0 L0 x1 n) x2_5 x3_6
def f_Tours_worthwhileIn (P0 : PI) (L0 : PL) (x1 : Int32) : Option (Int32) := mb_let (0 : Int32) (fun (x2_1 : Int32) => mb_let (0 : Int32) (fun (x3_2 : Int32) => f_Tours_worthwhileIn_4 P0 L0 x1 mb_fu x2_1 x3_2))
def rm_Tours_worthwhileIn : Room := { frames := 1, cells := 0, slots := 0, locals := 23 }
set_option maxHeartbeats 4000000 in
set_option maxRecDepth 100000 in
theorem c_Tours_worthwhileIn (l : Launch) (D : va_G) (k : Nat → ClassId) (sz : Nat) (b0 : Nat → Nat) (P0 : PI) (L0 : PL) (x1 : Int32) (z : Int32) (hf : f_Tours_worthwhileIn P0 L0 x1 = some z) : Met l yX7_worthwhileIn wsX7_worthwhileIn rm_Tours_worthwhileIn (va_Pc [.ref (b0 0), .int x1] (gw_pre D vwCl (tyL k) (wC_Tours k b0 P0 L0) sz)) (va_Qi (fun (r : Int32) (_ : Unit) => r = z) (gw_b D vwCl (tyL k) (va_A (wC_Tours k b0 P0 L0) sz) (wC_Tours k b0 P0 L0)) (va_A (wC_Tours k b0 P0 L0) sz)) 0 0 (va_A (wC_Tours k b0 P0 L0) sz) := by
  refine gm_i (cc := cX7_worthwhileIn) (maxL := 5) (by decide) rfl (Nat.le_of_ble_eq_true rfl) ?_
  intro p e s m args below meth c A Q ls H locs hx hb hml hown hts hK hN hA hP hD hS hl hret
  have hown : s.vm.findClass RX7 = some m.cls := hown
  have hl : lv_has ls 5 [(0, .ref (b0 0)), (1, .int x1)] := hl
  have iw_Tours : ∀ w ∈ u_ws RX7 TX7 4, w ∈ wsX7_worthwhileIn := by decide +kernel
  have fl_19 := hts (.fieldLink RX7 19 "OneMeasure$Tours" "loss" "[J") (by decide +kernel)
  unfold f_Tours_worthwhileIn at hf
  refine lv_iconst (v := 0) hx hb dX7_worthwhileIn_0 (by decide) ?_
  obtain ⟨x2_1, e_, hf⟩ := mb_let_s hf
  refine mb_topi e_ ?_
  clear e_
  refine lv_istore_n (lv' := [(2, .int x2_1), (0, .ref (b0 0)), (1, .int x1)]) hx hb dX7_worthwhileIn_1 rfl hl (by decide) rfl (fun ls hl => ?_)
  refine lv_iconst (v := 0) hx hb dX7_worthwhileIn_2 (by decide) ?_
  obtain ⟨x3_2, e_, hf⟩ := mb_let_s hf
  refine mb_topi e_ ?_
  clear e_
  refine lv_istore_n (lv' := [(3, .int x3_2), (2, .int x2_1), (0, .ref (b0 0)), (1, .int x1)]) hx hb dX7_worthwhileIn_3 rfl hl (by decide) rfl (fun ls hl => ?_)
  have lp4_3 : ∀ (n : Nat) (x2_5 : Int32) (x3_6 : Int32) (H : Heap) (locs : List Loc) (ls : Array Slot), f_Tours_worthwhileIn_4 P0 L0 x1 n x2_5 x3_6 = some z → va_P D vwCl (wC_Tours k b0 P0 L0) H → va_D A (wC_Tours k b0 P0 L0) → va_S A s.heap H locs → lv_has ls 5 [(0, .ref (b0 0)), (1, .int x1), (2, .int x2_5), (3, .int x3_6)] → W p l e rm_Tours_worthwhileIn s m args below meth c H locs 0 0 Q (F0 m 4 ls []) := by
    intro n
    induction n with
    | zero =>
      intro x2_5 x3_6 H locs ls hf
      exact nomatch (show (none : Option (Int32)) = some z from hf)
    | succ n ih_4 =>
      intro x2_5 x3_6 H locs ls hf hP hD hS hl
      have hf : f_Tours_worthwhileIn_4_b P0 L0 x1 (f_Tours_worthwhileIn_4 P0 L0 x1 n) x2_5 x3_6 = some z := hf
      unfold f_Tours_worthwhileIn_4_b at hf
      refine lv_iload_n hx hb dX7_worthwhileIn_4 rfl (lv_at hl 3 rfl) ?_
      refine lv_bipush (v := 6) hx hb dX7_worthwhileIn_5 (by decide) ?_
      refine lv_icmp_ge (tgt := 61) hx hb dX7_worthwhileIn_7 (by decide) (fun c_16 => ?_) (fun c_16 => ?_)
      · have hf := mb_if_t c_16 hf
        refine lv_iload_n hx hb dX7_worthwhileIn_61 rfl (lv_at hl 2 rfl) ?_
        have hz := Option.some.inj hf
        subst hz
        exact hret _ _ _ _ dX7_worthwhileIn_62 hP hD hS
      · have hf := mb_if_f c_16 hf
        refine lv_aload_n hx hb dX7_worthwhileIn_10 rfl (lv_at hl 0 rfl) ?_
        refine lv_iload_n hx hb dX7_worthwhileIn_11 rfl (lv_at hl 3 rfl) ?_
        obtain ⟨r_8, hz, hf⟩ := mb_bd1_s hf
        refine gc_i (r0 := r_8) (ws' := (wC_Tours k b0 P0 L0)) (wr := ([] : va_W)) (va_runV (As := [.int x3_6]) (rest := []) ⟨hx, hb, hml, hown, hts⟩ (c_Tours_patternOf l D k H.size b0 P0 L0 x3_6 r_8 hz) (cwV 1 hts gX7_worthwhileIn_X7_patternOf rfl rfl rfl (by decide +kernel) ⟨Nat.le_of_ble_eq_true rfl, Nat.le_of_ble_eq_true rfl⟩) (gp_V (ci := 7) (q0 := 0) (q := (RX7, TX7, 4)) hP hD hK hN [0, 1, 2, 3] (by decide +kernel) rfl rfl rfl) rfl rfl hl.1 rfl (lv_room (Nat.le_of_ble_eq_true rfl)) dX7_worthwhileIn_12 ⟨Nat.zero_le _, Nat.zero_le _⟩) hP hD hS hA [0, 1, 2, 3] [] rfl rfl (by decide +kernel) (by decide +kernel) [0, 1, 2, 3] (by decide +kernel) rfl (fun H locs hP hD hS => ?_)
        clear hz
        obtain ⟨x4_9, e_, hf⟩ := mb_let_s hf
        refine mb_topi e_ ?_
        clear e_
        refine lv_istore (lv' := [(4, .int x4_9), (0, .ref (b0 0)), (1, .int x1), (2, .int x2_5), (3, .int x3_6)]) hx hb dX7_worthwhileIn_15 hl (by decide) rfl (fun ls hl => ?_)
        refine lv_aload_n hx hb dX7_worthwhileIn_17 rfl (lv_at hl 1 rfl) ?_
        refine va_get (D := D) (ci := 7) (v := .ref (b0 3)) (C := RX7) (T := TX7) (N := 4) hx hb hts iw_Tours hown hK hP 0 rfl rfl 2 (by decide) fl_19 (fun _ h9 => h9) rfl dX7_worthwhileIn_18 ?_
        refine lv_iload_n hx hb dX7_worthwhileIn_21 rfl (lv_at hl 4 rfl) ?_
        refine lv_bipush (v := 8) hx hb dX7_worthwhileIn_22 (by decide) ?_
        refine lv_imul hx hb dX7_worthwhileIn_24 ?_
        refine lv_iload hx hb dX7_worthwhileIn_25 (lv_at hl 0 rfl) ?_
        refine lv_iconst (v := 1) hx hb dX7_worthwhileIn_27 (by decide) ?_
        refine lv_iload_n hx hb dX7_worthwhileIn_28 rfl (lv_at hl 2 rfl) ?_
        refine lv_ishl hx hb dX7_worthwhileIn_29 ?_
        refine lv_ior hx hb dX7_worthwhileIn_30 ?_
        refine lv_iadd hx hb dX7_worthwhileIn_31 ?_
        obtain ⟨h_10, hf⟩ := mb_chk_s hf
        refine va_lald hx hb hK hP 2 1 rfl rfl h_10 dX7_worthwhileIn_32 ?_
        refine lv_aload_n hx hb dX7_worthwhileIn_33 rfl (lv_at hl 1 rfl) ?_
        refine va_get (D := D) (ci := 7) (v := .ref (b0 3)) (C := RX7) (T := TX7) (N := 4) hx hb hts iw_Tours hown hK hP 0 rfl rfl 2 (by decide) fl_19 (fun _ h9 => h9) rfl dX7_worthwhileIn_34 ?_
        refine lv_iload_n hx hb dX7_worthwhileIn_37 rfl (lv_at hl 4 rfl) ?_
        refine lv_bipush (v := 8) hx hb dX7_worthwhileIn_38 (by decide) ?_
        refine lv_imul hx hb dX7_worthwhileIn_40 ?_
        refine lv_iload hx hb dX7_worthwhileIn_41 (lv_at hl 0 rfl) ?_
        refine lv_iadd hx hb dX7_worthwhileIn_43 ?_
        obtain ⟨h_11, hf⟩ := mb_chk_s hf
        refine va_lald hx hb hK hP 2 1 rfl rfl h_11 dX7_worthwhileIn_44 ?_
        refine W.lcmp hx hb dX7_worthwhileIn_45 ?_
        refine lv_if_ge (tgt := 55) hx hb dX7_worthwhileIn_46 (by decide) (fun c_15 => ?_) (fun c_15 => ?_)
        · have hf := mb_if_t c_15 hf
          obtain ⟨x3_12, e_, hf⟩ := mb_let_s hf
          refine lv_iinc (v := x3_12) (lv' := [(3, .int x3_12), (4, .int x4_9), (0, .ref (b0 0)), (1, .int x1), (2, .int x2_5)]) hx hb dX7_worthwhileIn_55 hl (k := 4) rfl (by rw [e_]; rfl) (by decide) rfl (fun ls hl => ?_)
          clear e_
          refine lv_goto (tgt := 4) hx hb dX7_worthwhileIn_58 (by decide) ?_
          exact ih_4 x2_5 x3_12 _ _ _ hf hP hD hS (lv_sub hl [2, 3, 4, 0] rfl)
        · have hf := mb_if_f c_15 hf
          refine lv_iload_n hx hb dX7_worthwhileIn_49 rfl (lv_at hl 3 rfl) ?_
          refine lv_iconst (v := 1) hx hb dX7_worthwhileIn_50 (by decide) ?_
          refine lv_iload_n hx hb dX7_worthwhileIn_51 rfl (lv_at hl 4 rfl) ?_
          refine lv_ishl hx hb dX7_worthwhileIn_52 ?_
          refine lv_ior hx hb dX7_worthwhileIn_53 ?_
          obtain ⟨x2_13, e_, hf⟩ := mb_let_s hf
          refine mb_topi e_ ?_
          clear e_
          refine lv_istore_n (lv' := [(2, .int x2_13), (4, .int x4_9), (0, .ref (b0 0)), (1, .int x1), (3, .int x3_6)]) hx hb dX7_worthwhileIn_54 rfl hl (by decide) rfl (fun ls hl => ?_)
          obtain ⟨x3_14, e_, hf⟩ := mb_let_s hf
          refine lv_iinc (v := x3_14) (lv' := [(3, .int x3_14), (2, .int x2_13), (4, .int x4_9), (0, .ref (b0 0)), (1, .int x1)]) hx hb dX7_worthwhileIn_55 hl (k := 4) rfl (by rw [e_]; rfl) (by decide) rfl (fun ls hl => ?_)
          clear e_
          refine lv_goto (tgt := 4) hx hb dX7_worthwhileIn_58 (by decide) ?_
          exact ih_4 x2_13 x3_14 _ _ _ hf hP hD hS (lv_sub hl [3, 4, 1, 0] rfl)
  exact lp4_3 mb_fu x2_1 x3_2 _ _ _ hf hP hD hS (lv_sub hl [2, 3, 1, 0] rfl)
def f_Integer_bitCount (x0 : Int32) : Option (Int32) := mb_let (x0 - (((x0.toUInt32 >>> ((1 : Int32).toUInt32 &&& Int32.toUInt32 31)).toInt32) &&& (1431655765 : Int32))) (fun (x0_1 : Int32) => mb_let ((x0_1 &&& (858993459 : Int32)) + (((x0_1.toUInt32 >>> ((2 : Int32).toUInt32 &&& Int32.toUInt32 31)).toInt32) &&& (858993459 : Int32))) (fun (x0_2 : Int32) => mb_let ((x0_2 + ((x0_2.toUInt32 >>> ((4 : Int32).toUInt32 &&& Int32.toUInt32 31)).toInt32)) &&& (252645135 : Int32)) (fun (x0_3 : Int32) => mb_let (x0_3 + ((x0_3.toUInt32 >>> ((8 : Int32).toUInt32 &&& Int32.toUInt32 31)).toInt32)) (fun (x0_4 : Int32) => mb_let (x0_4 + ((x0_4.toUInt32 >>> ((16 : Int32).toUInt32 &&& Int32.toUInt32 31)).toInt32)) (fun (x0_5 : Int32) => some (x0_5 &&& (63 : Int32)))))))
def rm_Integer_bitCount : Room := { frames := 0, cells := 0, slots := 0, locals := 0 }
set_option maxHeartbeats 4000000 in
set_option maxRecDepth 100000 in
theorem c_Integer_bitCount (l : Launch) (D : va_G) (k : Nat → ClassId) (sz : Nat) (x0 : Int32) (z : Int32) (hf : f_Integer_bitCount x0 = some z) : Met l yJ6_bitCount_0f7a4 wsJ6_bitCount_0f7a4 rm_Integer_bitCount (va_Pc [.int x0] (gw_pre D vwCl (tyL k) ([] : va_W) sz)) (va_Qi (fun (r : Int32) (_ : Unit) => r = z) (gw_b D vwCl (tyL k) (va_A ([] : va_W) sz) ([] : va_W)) (va_A ([] : va_W) sz)) 0 0 (va_A ([] : va_W) sz) := by
  refine gm_i (cc := cJ6_bitCount_0f7a4) (maxL := 1) (by decide) rfl (Nat.le_of_ble_eq_true rfl) ?_
  intro p e s m args below meth c A Q ls H locs hx hb hml hown hts hK hN hA hP hD hS hl hret
  have hown : s.vm.findClass RJ6 = some m.cls := hown
  have hl : lv_has ls 1 [(0, .int x0)] := hl
  have lc_265 := hts (.constant RJ6 265 (1431655765)) (by decide +kernel)
  have lc_266 := hts (.constant RJ6 266 (858993459)) (by decide +kernel)
  have lc_267 := hts (.constant RJ6 267 (252645135)) (by decide +kernel)
  unfold f_Integer_bitCount at hf
  refine lv_iload_n hx hb dJ6_bitCount_0f7a4_0 rfl (lv_at hl 0 rfl) ?_
  refine lv_iload_n hx hb dJ6_bitCount_0f7a4_1 rfl (lv_at hl 0 rfl) ?_
  refine lv_iconst (v := 1) hx hb dJ6_bitCount_0f7a4_2 (by decide) ?_
  refine lv_iushr hx hb dJ6_bitCount_0f7a4_3 rfl ?_
  refine lv_ldcw (v := (1431655765)) hx hb hown lc_265 dJ6_bitCount_0f7a4_4 ?_
  refine lv_iand hx hb dJ6_bitCount_0f7a4_7 ?_
  refine lv_isub hx hb dJ6_bitCount_0f7a4_8 ?_
  obtain ⟨x0_1, e_, hf⟩ := mb_let_s hf
  refine mb_topi e_ ?_
  clear e_
  refine lv_istore_n (lv' := [(0, .int x0_1)]) hx hb dJ6_bitCount_0f7a4_9 rfl hl (by decide) rfl (fun ls hl => ?_)
  refine lv_iload_n hx hb dJ6_bitCount_0f7a4_10 rfl (lv_at hl 0 rfl) ?_
  refine lv_ldcw (v := (858993459)) hx hb hown lc_266 dJ6_bitCount_0f7a4_11 ?_
  refine lv_iand hx hb dJ6_bitCount_0f7a4_14 ?_
  refine lv_iload_n hx hb dJ6_bitCount_0f7a4_15 rfl (lv_at hl 0 rfl) ?_
  refine lv_iconst (v := 2) hx hb dJ6_bitCount_0f7a4_16 (by decide) ?_
  refine lv_iushr hx hb dJ6_bitCount_0f7a4_17 rfl ?_
  refine lv_ldcw (v := (858993459)) hx hb hown lc_266 dJ6_bitCount_0f7a4_18 ?_
  refine lv_iand hx hb dJ6_bitCount_0f7a4_21 ?_
  refine lv_iadd hx hb dJ6_bitCount_0f7a4_22 ?_
  obtain ⟨x0_2, e_, hf⟩ := mb_let_s hf
  refine mb_topi e_ ?_
  clear e_
  refine lv_istore_n (lv' := [(0, .int x0_2)]) hx hb dJ6_bitCount_0f7a4_23 rfl hl (by decide) rfl (fun ls hl => ?_)
  refine lv_iload_n hx hb dJ6_bitCount_0f7a4_24 rfl (lv_at hl 0 rfl) ?_
  refine lv_iload_n hx hb dJ6_bitCount_0f7a4_25 rfl (lv_at hl 0 rfl) ?_
  refine lv_iconst (v := 4) hx hb dJ6_bitCount_0f7a4_26 (by decide) ?_
  refine lv_iushr hx hb dJ6_bitCount_0f7a4_27 rfl ?_
  refine lv_iadd hx hb dJ6_bitCount_0f7a4_28 ?_
  refine lv_ldcw (v := (252645135)) hx hb hown lc_267 dJ6_bitCount_0f7a4_29 ?_
  refine lv_iand hx hb dJ6_bitCount_0f7a4_32 ?_
  obtain ⟨x0_3, e_, hf⟩ := mb_let_s hf
  refine mb_topi e_ ?_
  clear e_
  refine lv_istore_n (lv' := [(0, .int x0_3)]) hx hb dJ6_bitCount_0f7a4_33 rfl hl (by decide) rfl (fun ls hl => ?_)
  refine lv_iload_n hx hb dJ6_bitCount_0f7a4_34 rfl (lv_at hl 0 rfl) ?_
  refine lv_iload_n hx hb dJ6_bitCount_0f7a4_35 rfl (lv_at hl 0 rfl) ?_
  refine lv_bipush (v := 8) hx hb dJ6_bitCount_0f7a4_36 (by decide) ?_
  refine lv_iushr hx hb dJ6_bitCount_0f7a4_38 rfl ?_
  refine lv_iadd hx hb dJ6_bitCount_0f7a4_39 ?_
  obtain ⟨x0_4, e_, hf⟩ := mb_let_s hf
  refine mb_topi e_ ?_
  clear e_
  refine lv_istore_n (lv' := [(0, .int x0_4)]) hx hb dJ6_bitCount_0f7a4_40 rfl hl (by decide) rfl (fun ls hl => ?_)
  refine lv_iload_n hx hb dJ6_bitCount_0f7a4_41 rfl (lv_at hl 0 rfl) ?_
  refine lv_iload_n hx hb dJ6_bitCount_0f7a4_42 rfl (lv_at hl 0 rfl) ?_
  refine lv_bipush (v := 16) hx hb dJ6_bitCount_0f7a4_43 (by decide) ?_
  refine lv_iushr hx hb dJ6_bitCount_0f7a4_45 rfl ?_
  refine lv_iadd hx hb dJ6_bitCount_0f7a4_46 ?_
  obtain ⟨x0_5, e_, hf⟩ := mb_let_s hf
  refine mb_topi e_ ?_
  clear e_
  refine lv_istore_n (lv' := [(0, .int x0_5)]) hx hb dJ6_bitCount_0f7a4_47 rfl hl (by decide) rfl (fun ls hl => ?_)
  refine lv_iload_n hx hb dJ6_bitCount_0f7a4_48 rfl (lv_at hl 0 rfl) ?_
  refine lv_bipush (v := 63) hx hb dJ6_bitCount_0f7a4_49 (by decide) ?_
  refine lv_iand hx hb dJ6_bitCount_0f7a4_51 ?_
  have hz := Option.some.inj hf
  subst hz
  exact hret _ _ _ _ dJ6_bitCount_0f7a4_52 hP hD hS
def f_Tours_choose_25_b (x1 : Int32) (x2 : Int32) (x3 : Int32) (x4_6 : Int32) (rc : PI → PL → Int32 → Int32 → Int32 → Option (PI × PL)) (K77_10 : PI → PL → Option (PI × PL)) (self_19 : Int32 → PI → PL → Option (PI × PL)) (x5_16 : Int32) (P0_17 : PI) (L0_18 : PL) : Option (PI × PL) := (if x4_6 < x5_16 then K77_10 P0_17 L0_18 else (if (x5_16 &&& (x4_6 ^^^ (-1 : Int32))) = 0 then mb_bd1 (f_Integer_bitCount x5_16) (fun (r_21 : Int32) => (if r_21 ≤ x3 then mb_chk x1 4 (mb_let (mb_u2 P0_17 4 x1.toNatClampNeg x5_16) (fun (P0_22 : PI) => mb_bd2 (rc P0_22 L0_18 (x1 + (1 : Int32)) x2 x3) (fun (P0_24 : PI) (L0_25 : PL) => mb_let (x5_16 + (1 : Int32)) (fun (x5_26 : Int32) => self_19 x5_26 P0_24 L0_25)))) else mb_let (x5_16 + (1 : Int32)) (fun (x5_27 : Int32) => self_19 x5_27 P0_17 L0_18))) else mb_let (x5_16 + (1 : Int32)) (fun (x5_20 : Int32) => self_19 x5_20 P0_17 L0_18)))
def f_Tours_choose_25 (x1 : Int32) (x2 : Int32) (x3 : Int32) (x4_6 : Int32) (rc : PI → PL → Int32 → Int32 → Int32 → Option (PI × PL)) (K77_10 : PI → PL → Option (PI × PL)) : Nat → Int32 → PI → PL → Option (PI × PL)
  | 0, _, _, _ => none
  | n + 1, x5_16, P0_17, L0_18 => f_Tours_choose_25_b x1 x2 x3 x4_6 rc K77_10 (f_Tours_choose_25 x1 x2 x3 x4_6 rc K77_10 n) x5_16 P0_17 L0_18
def f_Tours_choose_b (rc : PI → PL → Int32 → Int32 → Int32 → Option (PI × PL)) (P0 : PI) (L0 : PL) (x1 : Int32) (x2 : Int32) (x3 : Int32) : Option (PI × PL) := mb_jn (mb_bd2 (f_Tours_weigh P0 L0) (fun (P0_3 : PI) (L0_4 : PL) => some (P0_3, L0_4))) (fun J10_1 => (if x2 ≤ x1 then J10_1 else (if x1 < (3 : Int32) then mb_bd1 (f_Tours_worthwhileIn P0 L0 x1) (fun (r_5 : Int32) => mb_let r_5 (fun (x4_6 : Int32) => mb_let (0 : Int32) (fun (x5_7 : Int32) => mb_jn (fun (P0_8 : PI) (L0_9 : PL) => mb_chk x1 4 (mb_let (mb_u2 P0_8 4 x1.toNatClampNeg (0 : Int32)) (fun (P0_12 : PI) => some (P0_12, L0_9)))) (fun K77_10 => f_Tours_choose_25 x1 x2 x3 x4_6 rc K77_10 mb_fu x5_7 P0 L0)))) else J10_1)))
def f_Tours_choose : Nat → PI → PL → Int32 → Int32 → Int32 → Option (PI × PL)
  | 0, _, _, _, _, _ => none
  | d + 1, P0, L0, x1, x2, x3 => f_Tours_choose_b (f_Tours_choose d) P0 L0 x1 x2 x3
def rm_Tours_choose (d : Nat) : Room := { frames := 2 + d, cells := 0, slots := 0, locals := 47 + 25 * d }
set_option maxHeartbeats 4000000 in
set_option maxRecDepth 100000 in
theorem c_Tours_choose (d : Nat) (l : Launch) (D : va_G) (k : Nat → ClassId) : ∀ (sz : Nat) (b0 : Nat → Nat) (P0 : PI) (L0 : PL) (x1 : Int32) (x2 : Int32) (x3 : Int32) (z : PI × PL) (_ : f_Tours_choose d P0 L0 x1 x2 x3 = some z), Met l yX7_choose wsX7_choose (rm_Tours_choose d) (va_Pc [.ref (b0 0), .int x1, .int x2, .int x3] (gw_pre D vwCl (tyL k) (wC_Tours k b0 P0 L0) sz)) (va_Qv (fun (_ : Unit) => True) (gw_b D vwCl (tyL k) (va_A (wC_Tours k b0 P0 L0) sz) (wC_Tours k b0 z.1 z.2)) (va_A (wC_Tours k b0 P0 L0) sz)) 0 0 (va_A (wC_Tours k b0 P0 L0) sz) := by
  induction d with
  | zero =>
    intro sz b0 P0 L0 x1 x2 x3 z hf
    exact nomatch (show (none : Option (PI × PL)) = some z from hf)
  | succ d ihd =>
    intro sz b0 P0 L0 x1 x2 x3 z hf
    refine gm_v (cc := cX7_choose) (maxL := 6) (by decide) rfl (Nat.le_of_ble_eq_true rfl) ?_
    intro p e s m args below meth c A Q ls H locs hx hb hml hown hts hK hN hA hP hD hS hl hret
    have hown : s.vm.findClass RX7 = some m.cls := hown
    have hl : lv_has ls 6 [(0, .ref (b0 0)), (1, .int x1), (2, .int x2), (3, .int x3)] := hl
    have iw_Tours : ∀ w ∈ u_ws RX7 TX7 4, w ∈ wsX7_choose := by decide +kernel
    have fl_23 := hts (.fieldLink RX7 23 "OneMeasure$Tours" "sets" "[I") (by decide +kernel)
    have hf : f_Tours_choose_b (f_Tours_choose d) P0 L0 x1 x2 x3 = some z := hf
    unfold f_Tours_choose_b at hf
    refine lv_iload_n hx hb dX7_choose_0 rfl (lv_at hl 1 rfl) ?_
    refine lv_iload_n hx hb dX7_choose_1 rfl (lv_at hl 2 rfl) ?_
    obtain ⟨J10_1, eJ10_1, hf⟩ := mb_jn_s hf
    have j10_2 : ∀ (H : Heap) (locs : List Loc) (ls : Array Slot), J10_1 = some z → va_P D vwCl (wC_Tours k b0 P0 L0) H → va_D A (wC_Tours k b0 P0 L0) → va_S A s.heap H locs → lv_has ls 6 [(0, .ref (b0 0))] → W p l e (rm_Tours_choose (d + 1)) s m args below meth c H locs 0 0 Q (F0 m 10 ls []) := by
      intro  H locs ls hf hP hD hS hl
      have hf := mb_j0 eJ10_1 hf
      refine lv_aload_n hx hb dX7_choose_10 rfl (lv_at hl 0 rfl) ?_
      obtain ⟨P0_3, L0_4, hz, hf⟩ := mb_bd2_s hf
      refine gc_v (ws' := (wC_Tours k b0 P0_3 L0_4)) (wr := ([] : va_W)) (va_runV (As := []) (rest := []) ⟨hx, hb, hml, hown, hts⟩ (c_Tours_weigh l D k H.size b0 P0 L0 (P0_3, L0_4) hz) (cwV 0 hts gX7_choose_X7_weigh rfl rfl rfl (by decide +kernel) ⟨by simp only [rm_Tours_choose, rm_Tours_weigh]; omega, by simp only [rm_Tours_choose, rm_Tours_weigh]; omega⟩) (gp_V (ci := 7) (q0 := 0) (q := (RX7, TX7, 4)) hP hD hK hN [0, 1, 2, 3] (by decide +kernel) rfl rfl rfl) rfl rfl hl.1 rfl (lv_room (Nat.le_of_ble_eq_true rfl)) dX7_choose_11 ⟨Nat.zero_le _, Nat.zero_le _⟩) hP hD hS hA [0, 1, 2, 3] [] rfl rfl (by decide +kernel) (by decide +kernel) [0, 1, 2, 3] (by decide +kernel) rfl (fun H locs hP hD hS => ?_)
      clear hz
      have hz := Option.some.inj hf
      subst hz
      exact hret _ _ _ _ dX7_choose_14 hP hD hS
    refine lv_icmp_ge (tgt := 10) hx hb dX7_choose_2 (by decide) (fun c_32 => ?_) (fun c_32 => ?_)
    · have hf := mb_if_t c_32 hf
      exact j10_2  _ _ _ hf hP hD hS (lv_sub hl [0] rfl)
    · have hf := mb_if_f c_32 hf
      refine lv_iload_n hx hb dX7_choose_5 rfl (lv_at hl 1 rfl) ?_
      refine lv_iconst (v := 3) hx hb dX7_choose_6 (by decide) ?_
      refine lv_icmp_lt (tgt := 15) hx hb dX7_choose_7 (by decide) (fun c_31 => ?_) (fun c_31 => ?_)
      · have hf := mb_if_t c_31 hf
        refine lv_aload_n hx hb dX7_choose_15 rfl (lv_at hl 0 rfl) ?_
        refine lv_iload_n hx hb dX7_choose_16 rfl (lv_at hl 1 rfl) ?_
        obtain ⟨r_5, hz, hf⟩ := mb_bd1_s hf
        refine gc_i (r0 := r_5) (ws' := (wC_Tours k b0 P0 L0)) (wr := ([] : va_W)) (va_runV (As := [.int x1]) (rest := []) ⟨hx, hb, hml, hown, hts⟩ (c_Tours_worthwhileIn l D k H.size b0 P0 L0 x1 r_5 hz) (cwV 1 hts gX7_choose_X7_worthwhileIn rfl rfl rfl (by decide +kernel) ⟨by simp only [rm_Tours_choose, rm_Tours_worthwhileIn]; omega, by simp only [rm_Tours_choose, rm_Tours_worthwhileIn]; omega⟩) (gp_V (ci := 7) (q0 := 0) (q := (RX7, TX7, 4)) hP hD hK hN [0, 1, 2, 3] (by decide +kernel) rfl rfl rfl) rfl rfl hl.1 rfl (lv_room (Nat.le_of_ble_eq_true rfl)) dX7_choose_17 ⟨Nat.zero_le _, Nat.zero_le _⟩) hP hD hS hA [0, 1, 2, 3] [] rfl rfl (by decide +kernel) (by decide +kernel) [0, 1, 2, 3] (by decide +kernel) rfl (fun H locs hP hD hS => ?_)
        clear hz
        obtain ⟨x4_6, e_, hf⟩ := mb_let_s hf
        refine mb_topi e_ ?_
        clear e_
        refine lv_istore (lv' := [(4, .int x4_6), (0, .ref (b0 0)), (1, .int x1), (2, .int x2), (3, .int x3)]) hx hb dX7_choose_20 hl (by decide) rfl (fun ls hl => ?_)
        refine lv_iconst (v := 0) hx hb dX7_choose_22 (by decide) ?_
        obtain ⟨x5_7, e_, hf⟩ := mb_let_s hf
        refine mb_topi e_ ?_
        clear e_
        refine lv_istore (lv' := [(5, .int x5_7), (4, .int x4_6), (0, .ref (b0 0)), (1, .int x1), (2, .int x2), (3, .int x3)]) hx hb dX7_choose_23 hl (by decide) rfl (fun ls hl => ?_)
        obtain ⟨K77_10, eK77_10, hf⟩ := mb_jn_s hf
        have k77_11 : ∀ (P0_8 : PI) (L0_9 : PL) (H : Heap) (locs : List Loc) (ls : Array Slot), K77_10 P0_8 L0_9 = some z → va_P D vwCl (wC_Tours k b0 P0_8 L0_9) H → va_D A (wC_Tours k b0 P0_8 L0_9) → va_S A s.heap H locs → lv_has ls 6 [(0, .ref (b0 0)), (1, .int x1)] → W p l e (rm_Tours_choose (d + 1)) s m args below meth c H locs 0 0 Q (F0 m 77 ls []) := by
          intro P0_8 L0_9 H locs ls hf hP hD hS hl
          have hf := mb_j2 eK77_10 hf
          refine lv_aload_n hx hb dX7_choose_77 rfl (lv_at hl 0 rfl) ?_
          refine va_get (D := D) (ci := 7) (v := .ref (b0 4)) (C := RX7) (T := TX7) (N := 4) hx hb hts iw_Tours hown hK hP 0 rfl rfl 3 (by decide) fl_23 (fun _ h9 => h9) rfl dX7_choose_78 ?_
          refine lv_iload_n hx hb dX7_choose_81 rfl (lv_at hl 1 rfl) ?_
          refine lv_iconst (v := 0) hx hb dX7_choose_82 (by decide) ?_
          obtain ⟨h_13, hf⟩ := mb_chk_s hf
          obtain ⟨P0_12, e_, hf⟩ := mb_let_s hf
          refine va_iast hx hb hK hP hD hS 3 0 rfl rfl h_13 dX7_choose_83 (fun H locs hP hD hS => ?_)
          have hP : va_P D vwCl (wC_Tours k b0 P0_12 L0_9) H := by rw [e_]; exact hP
          have hD : va_D A (wC_Tours k b0 P0_12 L0_9) := by rw [e_]; exact hD
          clear e_
          have hz := Option.some.inj hf
          subst hz
          exact hret _ _ _ _ dX7_choose_84 hP hD hS
        have lp25_14 : ∀ (n : Nat) (x5_16 : Int32) (P0_17 : PI) (L0_18 : PL) (H : Heap) (locs : List Loc) (ls : Array Slot), f_Tours_choose_25 x1 x2 x3 x4_6 (f_Tours_choose d) K77_10 n x5_16 P0_17 L0_18 = some z → va_P D vwCl (wC_Tours k b0 P0_17 L0_18) H → va_D A (wC_Tours k b0 P0_17 L0_18) → va_S A s.heap H locs → lv_has ls 6 [(0, .ref (b0 0)), (1, .int x1), (2, .int x2), (3, .int x3), (4, .int x4_6), (5, .int x5_16)] → W p l e (rm_Tours_choose (d + 1)) s m args below meth c H locs 0 0 Q (F0 m 25 ls []) := by
          intro n
          induction n with
          | zero =>
            intro x5_16 P0_17 L0_18 H locs ls hf
            exact nomatch (show (none : Option (PI × PL)) = some z from hf)
          | succ n ih_15 =>
            intro x5_16 P0_17 L0_18 H locs ls hf hP hD hS hl
            have hf : f_Tours_choose_25_b x1 x2 x3 x4_6 (f_Tours_choose d) K77_10 (f_Tours_choose_25 x1 x2 x3 x4_6 (f_Tours_choose d) K77_10 n) x5_16 P0_17 L0_18 = some z := hf
            unfold f_Tours_choose_25_b at hf
            refine lv_iload hx hb dX7_choose_25 (lv_at hl 5 rfl) ?_
            refine lv_iload hx hb dX7_choose_27 (lv_at hl 4 rfl) ?_
            refine lv_icmp_gt (tgt := 77) hx hb dX7_choose_29 (by decide) (fun c_30 => ?_) (fun c_30 => ?_)
            · have hf := mb_if_t c_30 hf
              exact k77_11 P0_17 L0_18 _ _ _ hf hP hD hS (lv_sub hl [0, 1] rfl)
            · have hf := mb_if_f c_30 hf
              refine lv_iload hx hb dX7_choose_32 (lv_at hl 5 rfl) ?_
              refine lv_iload hx hb dX7_choose_34 (lv_at hl 4 rfl) ?_
              refine lv_iconst (v := (-1)) hx hb dX7_choose_36 (by decide) ?_
              refine lv_ixor hx hb dX7_choose_37 ?_
              refine lv_iand hx hb dX7_choose_38 ?_
              refine lv_if_ne (tgt := 71) hx hb dX7_choose_39 (by decide) (fun c_29 => ?_) (fun c_29 => ?_)
              · have hf := mb_if_f c_29 hf
                obtain ⟨x5_20, e_, hf⟩ := mb_let_s hf
                refine lv_iinc (v := x5_20) (lv' := [(5, .int x5_20), (0, .ref (b0 0)), (1, .int x1), (2, .int x2), (3, .int x3), (4, .int x4_6)]) hx hb dX7_choose_71 hl (k := 5) rfl (by rw [e_]; rfl) (by decide) rfl (fun ls hl => ?_)
                clear e_
                refine lv_goto (tgt := 25) hx hb dX7_choose_74 (by decide) ?_
                exact ih_15 x5_20 P0_17 L0_18 _ _ _ hf hP hD hS (lv_sub hl [1, 2, 3, 4, 5, 0] rfl)
              · have hf := mb_if_t c_29 hf
                refine lv_iload hx hb dX7_choose_42 (lv_at hl 5 rfl) ?_
                obtain ⟨r_21, hz, hf⟩ := mb_bd1_s hf
                refine gc_i (r0 := r_21) (ws' := (wC_Tours k b0 P0_17 L0_18)) (wr := (wC_Tours k b0 P0_17 L0_18)) (va_runS (As := [.int x5_16]) (rest := []) ⟨hx, hb, hml, hown, hts⟩ (c_Integer_bitCount l D k H.size x5_16 r_21 hz) (va_cwS 1 hts gX7_choose_J6_bitCount_0f7a4 rfl rfl rfl (by decide +kernel) ⟨by simp only [rm_Tours_choose, rm_Integer_bitCount]; omega, by simp only [rm_Tours_choose, rm_Integer_bitCount]; omega⟩) (gp_S hP hD hK hN [] (by decide +kernel) rfl) rfl rfl hl.1 rfl (lv_room (Nat.le_of_ble_eq_true rfl)) dX7_choose_44 ⟨Nat.zero_le _, Nat.zero_le _⟩) hP hD hS hA [] [0, 1, 2, 3] rfl rfl (by decide +kernel) (by decide +kernel) [0, 1, 2, 3] (by decide +kernel) rfl (fun H locs hP hD hS => ?_)
                clear hz
                refine lv_iload_n hx hb dX7_choose_47 rfl (lv_at hl 3 rfl) ?_
                refine lv_icmp_le (tgt := 54) hx hb dX7_choose_48 (by decide) (fun c_28 => ?_) (fun c_28 => ?_)
                · have hf := mb_if_t c_28 hf
                  refine lv_aload_n hx hb dX7_choose_54 rfl (lv_at hl 0 rfl) ?_
                  refine va_get (D := D) (ci := 7) (v := .ref (b0 4)) (C := RX7) (T := TX7) (N := 4) hx hb hts iw_Tours hown hK hP 0 rfl rfl 3 (by decide) fl_23 (fun _ h9 => h9) rfl dX7_choose_55 ?_
                  refine lv_iload_n hx hb dX7_choose_58 rfl (lv_at hl 1 rfl) ?_
                  refine lv_iload hx hb dX7_choose_59 (lv_at hl 5 rfl) ?_
                  obtain ⟨h_23, hf⟩ := mb_chk_s hf
                  obtain ⟨P0_22, e_, hf⟩ := mb_let_s hf
                  refine va_iast hx hb hK hP hD hS 3 0 rfl rfl h_23 dX7_choose_61 (fun H locs hP hD hS => ?_)
                  have hP : va_P D vwCl (wC_Tours k b0 P0_22 L0_18) H := by rw [e_]; exact hP
                  have hD : va_D A (wC_Tours k b0 P0_22 L0_18) := by rw [e_]; exact hD
                  clear e_
                  refine lv_aload_n hx hb dX7_choose_62 rfl (lv_at hl 0 rfl) ?_
                  refine lv_iload_n hx hb dX7_choose_63 rfl (lv_at hl 1 rfl) ?_
                  refine lv_iconst (v := 1) hx hb dX7_choose_64 (by decide) ?_
                  refine lv_iadd hx hb dX7_choose_65 ?_
                  refine lv_iload_n hx hb dX7_choose_66 rfl (lv_at hl 2 rfl) ?_
                  refine lv_iload_n hx hb dX7_choose_67 rfl (lv_at hl 3 rfl) ?_
                  obtain ⟨P0_24, L0_25, hz, hf⟩ := mb_bd2_s hf
                  refine gc_v (ws' := (wC_Tours k b0 P0_24 L0_25)) (wr := ([] : va_W)) (va_runS (As := [.ref (b0 0), .int (x1 + (1 : Int32)), .int x2, .int x3]) (rest := []) ⟨hx, hb, hml, hown, hts⟩ (ihd H.size b0 P0_22 L0_18 (x1 + (1 : Int32)) x2 x3 (P0_24, L0_25) hz) (cwS 4 hts gX7_choose_X7_choose rfl rfl rfl (by decide +kernel) ⟨by simp only [rm_Tours_choose]; omega, by simp only [rm_Tours_choose]; omega⟩) (gp_S hP hD hK hN [0, 1, 2, 3] (by decide +kernel) rfl) rfl rfl hl.1 rfl (lv_room (Nat.le_of_ble_eq_true rfl)) dX7_choose_68 ⟨Nat.zero_le _, Nat.zero_le _⟩) hP hD hS hA [0, 1, 2, 3] [] rfl rfl (by decide +kernel) (by decide +kernel) [0, 1, 2, 3] (by decide +kernel) rfl (fun H locs hP hD hS => ?_)
                  clear hz
                  obtain ⟨x5_26, e_, hf⟩ := mb_let_s hf
                  refine lv_iinc (v := x5_26) (lv' := [(5, .int x5_26), (0, .ref (b0 0)), (1, .int x1), (2, .int x2), (3, .int x3), (4, .int x4_6)]) hx hb dX7_choose_71 hl (k := 5) rfl (by rw [e_]; rfl) (by decide) rfl (fun ls hl => ?_)
                  clear e_
                  refine lv_goto (tgt := 25) hx hb dX7_choose_74 (by decide) ?_
                  exact ih_15 x5_26 P0_24 L0_25 _ _ _ hf hP hD hS (lv_sub hl [1, 2, 3, 4, 5, 0] rfl)
                · have hf := mb_if_f c_28 hf
                  refine lv_goto (tgt := 71) hx hb dX7_choose_51 (by decide) ?_
                  obtain ⟨x5_27, e_, hf⟩ := mb_let_s hf
                  refine lv_iinc (v := x5_27) (lv' := [(5, .int x5_27), (0, .ref (b0 0)), (1, .int x1), (2, .int x2), (3, .int x3), (4, .int x4_6)]) hx hb dX7_choose_71 hl (k := 5) rfl (by rw [e_]; rfl) (by decide) rfl (fun ls hl => ?_)
                  clear e_
                  refine lv_goto (tgt := 25) hx hb dX7_choose_74 (by decide) ?_
                  exact ih_15 x5_27 P0_17 L0_18 _ _ _ hf hP hD hS (lv_sub hl [1, 2, 3, 4, 5, 0] rfl)
        exact lp25_14 mb_fu x5_7 P0 L0 _ _ _ hf hP hD hS (lv_sub hl [2, 3, 4, 5, 1, 0] rfl)
      · have hf := mb_if_f c_31 hf
        exact j10_2  _ _ _ hf hP hD hS (lv_sub hl [0] rfl)
def f_Tours_seek (P0 : PI) (L0 : PL) (x1 : Int32) (x2 : Int32) : Option (PI × PL) := mb_let (mb_uoL L0 1 (9223372036854775807 : Int64)) (fun (L0_1 : PL) => mb_let (mb_up P0 4 (mb_fill 4 (0 : Int32) (P0 4))) (fun (P0_2 : PI) => mb_bd2 (f_Tours_choose mb_dp P0_2 L0_1 (0 : Int32) (x1 - (1 : Int32)) x2) (fun (P0_3 : PI) (L0_4 : PL) => some (P0_3, L0_4))))
def rm_Tours_seek : Room := { frames := 11, cells := 0, slots := 0, locals := 272 }
set_option maxHeartbeats 4000000 in
set_option maxRecDepth 100000 in
theorem c_Tours_seek (l : Launch) (D : va_G) (k : Nat → ClassId) (sz : Nat) (b0 : Nat → Nat) (P0 : PI) (L0 : PL) (x1 : Int32) (x2 : Int32) (z : PI × PL) (hf : f_Tours_seek P0 L0 x1 x2 = some z) : Met l yX7_seek wsX7_seek rm_Tours_seek (va_Pc [.ref (b0 0), .int x1, .int x2] (gw_pre D vwCl (tyL k) (wC_Tours k b0 P0 L0) sz)) (va_Qv (fun (_ : Unit) => True) (gw_b D vwCl (tyL k) (va_A (wC_Tours k b0 P0 L0) sz) (wC_Tours k b0 z.1 z.2)) (va_A (wC_Tours k b0 P0 L0) sz)) 0 0 (va_A (wC_Tours k b0 P0 L0) sz) := by
  refine gm_v (cc := cX7_seek) (maxL := 3) (by decide) rfl (Nat.le_of_ble_eq_true rfl) ?_
  intro p e s m args below meth c A Q ls H locs hx hb hml hown hts hK hN hA hP hD hS hl hret
  have hown : s.vm.findClass RX7 = some m.cls := hown
  have hl : lv_has ls 3 [(0, .ref (b0 0)), (1, .int x1), (2, .int x2)] := hl
  have iw_Tours : ∀ w ∈ u_ws RX7 TX7 4, w ∈ wsX7_seek := by decide +kernel
  have fl_15 := hts (.fieldLink RX7 15 "OneMeasure$Tours" "least" "J") (by decide +kernel)
  have fl_23 := hts (.fieldLink RX7 23 "OneMeasure$Tours" "sets" "[I") (by decide +kernel)
  have lc_74 := hts (.constantLong RX7 74 (9223372036854775807)) (by decide +kernel)
  unfold f_Tours_seek at hf
  refine lv_aload_n hx hb dX7_seek_0 rfl (lv_at hl 0 rfl) ?_
  refine lv_ldc2 (v := (9223372036854775807)) hx hb hown lc_74 dX7_seek_1 ?_
  obtain ⟨L0_1, e_, hf⟩ := mb_let_s hf
  refine va_put (D := D) (ci := 7) (v := .long (9223372036854775807 : Int64)) (ty := .long) (C := RX7) (T := TX7) (N := 4) hx hb hts iw_Tours tyX7 tyX7_ok nmX7 hown hK hP hD hS 0 rfl rfl 1 (by decide) fl_15 (fun _ h9 => h9) rfl (by decide +kernel) rfl rfl (Nat.le_of_ble_eq_true rfl) dX7_seek_4 (fun H locs hP hD hS => ?_)
  have hP : va_P D vwCl (wC_Tours k b0 P0 L0_1) H := by rw [e_]; exact hP
  have hD : va_D A (wC_Tours k b0 P0 L0_1) := by rw [e_]; exact hD
  clear e_
  refine lv_aload_n hx hb dX7_seek_7 rfl (lv_at hl 0 rfl) ?_
  refine va_get (D := D) (ci := 7) (v := .ref (b0 4)) (C := RX7) (T := TX7) (N := 4) hx hb hts iw_Tours hown hK hP 0 rfl rfl 3 (by decide) fl_23 (fun _ h9 => h9) rfl dX7_seek_8 ?_
  refine lv_iconst (v := 0) hx hb dX7_seek_11 (by decide) ?_
  refine gc_v (ws' := (wC_Tours k b0 (mb_up P0 4 (mb_fill 4 (0 : Int32) (P0 4))) L0_1)) (wr := List.eraseIdx (wC_Tours k b0 P0 L0_1) 3) (va_runS (As := [.ref (b0 4), .int (0 : Int32)]) (rest := []) ⟨hx, hb, hml, hown, hts⟩ (c_fillI l D k H.size (b0 4) 4 (P0 4) (0 : Int32) (by decide)) (va_cwS 2 hts gX7_seek_J7_fill_53178 rfl rfl rfl (by decide +kernel) ⟨Nat.le_of_ble_eq_true rfl, Nat.le_of_ble_eq_true rfl⟩) (gp_S hP hD hK hN [3] (by decide +kernel) rfl) rfl rfl hl.1 rfl (lv_room (Nat.le_of_ble_eq_true rfl)) dX7_seek_12 ⟨Nat.zero_le _, Nat.zero_le _⟩) hP hD hS hA [3] [0, 1, 2] rfl rfl (by decide +kernel) (by decide +kernel) [0, 1, 2, 3] (by decide +kernel) rfl (fun H locs hP hD hS => ?_)
  obtain ⟨P0_2, e_, hf⟩ := mb_let_s hf
  have hP : va_P D vwCl (wC_Tours k b0 P0_2 L0_1) H := by rw [e_]; exact hP
  have hD : va_D A (wC_Tours k b0 P0_2 L0_1) := by rw [e_]; exact hD
  clear e_
  refine lv_aload_n hx hb dX7_seek_15 rfl (lv_at hl 0 rfl) ?_
  refine lv_iconst (v := 0) hx hb dX7_seek_16 (by decide) ?_
  refine lv_iload_n hx hb dX7_seek_17 rfl (lv_at hl 1 rfl) ?_
  refine lv_iconst (v := 1) hx hb dX7_seek_18 (by decide) ?_
  refine lv_isub hx hb dX7_seek_19 ?_
  refine lv_iload_n hx hb dX7_seek_20 rfl (lv_at hl 2 rfl) ?_
  obtain ⟨P0_3, L0_4, hz, hf⟩ := mb_bd2_s hf
  refine gc_v (ws' := (wC_Tours k b0 P0_3 L0_4)) (wr := ([] : va_W)) (va_runS (As := [.ref (b0 0), .int (0 : Int32), .int (x1 - (1 : Int32)), .int x2]) (rest := []) ⟨hx, hb, hml, hown, hts⟩ (c_Tours_choose mb_dp l D k H.size b0 P0_2 L0_1 (0 : Int32) (x1 - (1 : Int32)) x2 (P0_3, L0_4) hz) (cwS 4 hts gX7_seek_X7_choose rfl rfl rfl (by decide +kernel) ⟨Nat.le_of_ble_eq_true rfl, Nat.le_of_ble_eq_true rfl⟩) (gp_S hP hD hK hN [0, 1, 2, 3] (by decide +kernel) rfl) rfl rfl hl.1 rfl (lv_room (Nat.le_of_ble_eq_true rfl)) dX7_seek_21 ⟨Nat.zero_le _, Nat.zero_le _⟩) hP hD hS hA [0, 1, 2, 3] [] rfl rfl (by decide +kernel) (by decide +kernel) [0, 1, 2, 3] (by decide +kernel) rfl (fun H locs hP hD hS => ?_)
  clear hz
  have hz := Option.some.inj hf
  subst hz
  exact hret _ _ _ _ dX7_seek_24 hP hD hS
def f_One_rounds (P0 : PI) (P1 : PI) (P2 : PI) (P3 : PI) (P4 : PI) (L4 : PL) (x1 : Int32) (x2 : Int32) (x3 : Int32) : Option (Int64 × PI × PL) := mb_bd1 (f_One_within x1 (1 : Int32) (4 : Int32)) (fun (r_1 : Int32) => (if r_1 = 0 then some ((-1 : Int64), P4, L4) else mb_bd1 (f_One_within x2 (1 : Int32) (2 : Int32)) (fun (r_2 : Int32) => (if r_2 = 0 then some ((-1 : Int64), P4, L4) else mb_bd1 (f_One_within x3 (-1 : Int32) (x1 - (1 : Int32))) (fun (r_3 : Int32) => (if r_3 = 0 then some ((-1 : Int64), P4, L4) else mb_bd1 (f_Tours_price L4 P3 P1 P2 (P0 0 15) x1) (fun (L4_4 : PL) => mb_bd2 (f_Tours_seek P4 L4_4 x1 x2) (fun (P4_5 : PI) (L4_6 : PL) => (if x3 = (-1 : Int32) then some ((L4_6 0 1), P4_5, L4_6) else mb_chk x3 4 (some (((P4_5 1 x3.toNatClampNeg)).toInt64, P4_5, L4_6)))))))))))
def rm_One_rounds : Room := { frames := 12, cells := 0, slots := 0, locals := 294 }
set_option maxHeartbeats 4000000 in
set_option maxRecDepth 100000 in
theorem c_One_rounds (l : Launch) (D : va_G) (k : Nat → ClassId) (sz : Nat) (a0 : Nat → Nat → Nat) (P0 : PI) (P1 : PI) (P2 : PI) (P3 : PI) (L3 : PL) (P4 : PI) (L4 : PL) (x1 : Int32) (x2 : Int32) (x3 : Int32) (z : Int64 × PI × PL) (hf : f_One_rounds P0 P1 P2 P3 P4 L4 x1 x2 x3 = some z) : Met l yX11_rounds wsX11_rounds rm_One_rounds (va_Pc [.ref (a0 0 0), .int x1, .int x2, .int x3] (gw_pre D vwCl (tyL k) (wC_One k a0 P0 ++ (wC_Units k (a0 1) P1 ++ (wC_Decrees k (a0 7) P2 ++ (wC_Rods k (a0 9) P3 L3 ++ (wC_Tours k (a0 10) P4 L4))))) sz)) (va_Ql (fun (r : Int64) (_ : Unit) => r = z.1) (gw_b D vwCl (tyL k) (va_A (wC_One k a0 P0 ++ (wC_Units k (a0 1) P1 ++ (wC_Decrees k (a0 7) P2 ++ (wC_Rods k (a0 9) P3 L3 ++ (wC_Tours k (a0 10) P4 L4))))) sz) (wC_One k a0 P0 ++ (wC_Units k (a0 1) P1 ++ (wC_Decrees k (a0 7) P2 ++ (wC_Rods k (a0 9) P3 L3 ++ (wC_Tours k (a0 10) z.2.1 z.2.2)))))) (va_A (wC_One k a0 P0 ++ (wC_Units k (a0 1) P1 ++ (wC_Decrees k (a0 7) P2 ++ (wC_Rods k (a0 9) P3 L3 ++ (wC_Tours k (a0 10) P4 L4))))) sz)) 0 0 (va_A (wC_One k a0 P0 ++ (wC_Units k (a0 1) P1 ++ (wC_Decrees k (a0 7) P2 ++ (wC_Rods k (a0 9) P3 L3 ++ (wC_Tours k (a0 10) P4 L4))))) sz) := by
  refine gm_l (cc := cX11_rounds) (maxL := 4) (by decide) rfl (Nat.le_of_ble_eq_true rfl) ?_
  intro p e s m args below meth c A Q ls H locs hx hb hml hown hts hK hN hA hP hD hS hl hret
  have hown : s.vm.findClass RX11 = some m.cls := hown
  have hl : lv_has ls 4 [(0, .ref (a0 0 0)), (1, .int x1), (2, .int x2), (3, .int x3)] := hl
  have iw_One : ∀ w ∈ u_ws RX11 TX11 16, w ∈ wsX11_rounds := by decide +kernel
  have iw_Tours : ∀ w ∈ u_ws RX7 TX7 4, w ∈ wsX11_rounds := by decide +kernel
  have fl_10 := hts (.fieldLink RX11 10 "OneMeasure" "units" "LOneMeasure$Units;") (by decide +kernel)
  have fl_54 := hts (.fieldLink RX11 54 "OneMeasure" "decrees" "LOneMeasure$Decrees;") (by decide +kernel)
  have fl_68 := hts (.fieldLink RX11 68 "OneMeasure" "rods" "LOneMeasure$Rods;") (by decide +kernel)
  have fl_75 := hts (.fieldLink RX11 75 "OneMeasure" "tours" "LOneMeasure$Tours;") (by decide +kernel)
  have fl_102 := hts (.fieldLink RX11 102 "OneMeasure" "tolerance" "I") (by decide +kernel)
  have fl_302 := hts (.fieldLink RX11 302 "OneMeasure$Tours" "least" "J") (by decide +kernel)
  have fl_303 := hts (.fieldLink RX11 303 "OneMeasure$Tours" "bestSets" "[I") (by decide +kernel)
  have lc_133 := hts (.constantLong RX11 133 (-1)) (by decide +kernel)
  unfold f_One_rounds at hf
  refine lv_iload_n hx hb dX11_rounds_0 rfl (lv_at hl 1 rfl) ?_
  refine lv_iconst (v := 1) hx hb dX11_rounds_1 (by decide) ?_
  refine lv_iconst (v := 4) hx hb dX11_rounds_2 (by decide) ?_
  obtain ⟨r_1, hz, hf⟩ := mb_bd1_s hf
  refine gc_i (r0 := r_1) (ws' := (wC_One k a0 P0 ++ (wC_Units k (a0 1) P1 ++ (wC_Decrees k (a0 7) P2 ++ (wC_Rods k (a0 9) P3 L3 ++ (wC_Tours k (a0 10) P4 L4)))))) (wr := (wC_One k a0 P0 ++ (wC_Units k (a0 1) P1 ++ (wC_Decrees k (a0 7) P2 ++ (wC_Rods k (a0 9) P3 L3 ++ (wC_Tours k (a0 10) P4 L4)))))) (va_runS (As := [.int x1, .int (1 : Int32), .int (4 : Int32)]) (rest := []) ⟨hx, hb, hml, hown, hts⟩ (c_One_within l D k H.size x1 (1 : Int32) (4 : Int32) r_1 hz) (cwS 3 hts gX11_rounds_X11_within rfl rfl rfl (by decide +kernel) ⟨Nat.le_of_ble_eq_true rfl, Nat.le_of_ble_eq_true rfl⟩) (gp_S hP hD hK hN [] (by decide +kernel) rfl) rfl rfl hl.1 rfl (lv_room (Nat.le_of_ble_eq_true rfl)) dX11_rounds_3 ⟨Nat.zero_le _, Nat.zero_le _⟩) hP hD hS hA [] [0, 1, 2, 3, 4, 5, 6, 7, 8, 9, 10, 11, 12, 13, 14, 15, 16, 17, 18, 19, 20, 21, 22, 23, 24, 25, 26, 27, 28, 29] rfl rfl (by decide +kernel) (by decide +kernel) [0, 1, 2, 3, 4, 5, 6, 7, 8, 9, 10, 11, 12, 13, 14, 15, 16, 17, 18, 19, 20, 21, 22, 23, 24, 25, 26, 27, 28, 29] (by decide +kernel) rfl (fun H locs hP hD hS => ?_)
  clear hz
  refine lv_if_eq (tgt := 29) hx hb dX11_rounds_6 (by decide) (fun c_11 => ?_) (fun c_11 => ?_)
  · have hf := mb_if_t c_11 hf
    refine lv_ldc2 (v := (-1)) hx hb hown lc_133 dX11_rounds_29 ?_
    have hz := Option.some.inj hf
    subst hz
    exact hret _ _ _ _ dX11_rounds_32 hP hD hS
  · have hf := mb_if_f c_11 hf
    refine lv_iload_n hx hb dX11_rounds_9 rfl (lv_at hl 2 rfl) ?_
    refine lv_iconst (v := 1) hx hb dX11_rounds_10 (by decide) ?_
    refine lv_iconst (v := 2) hx hb dX11_rounds_11 (by decide) ?_
    obtain ⟨r_2, hz, hf⟩ := mb_bd1_s hf
    refine gc_i (r0 := r_2) (ws' := (wC_One k a0 P0 ++ (wC_Units k (a0 1) P1 ++ (wC_Decrees k (a0 7) P2 ++ (wC_Rods k (a0 9) P3 L3 ++ (wC_Tours k (a0 10) P4 L4)))))) (wr := (wC_One k a0 P0 ++ (wC_Units k (a0 1) P1 ++ (wC_Decrees k (a0 7) P2 ++ (wC_Rods k (a0 9) P3 L3 ++ (wC_Tours k (a0 10) P4 L4)))))) (va_runS (As := [.int x2, .int (1 : Int32), .int (2 : Int32)]) (rest := []) ⟨hx, hb, hml, hown, hts⟩ (c_One_within l D k H.size x2 (1 : Int32) (2 : Int32) r_2 hz) (cwS 3 hts gX11_rounds_X11_within rfl rfl rfl (by decide +kernel) ⟨Nat.le_of_ble_eq_true rfl, Nat.le_of_ble_eq_true rfl⟩) (gp_S hP hD hK hN [] (by decide +kernel) rfl) rfl rfl hl.1 rfl (lv_room (Nat.le_of_ble_eq_true rfl)) dX11_rounds_12 ⟨Nat.zero_le _, Nat.zero_le _⟩) hP hD hS hA [] [0, 1, 2, 3, 4, 5, 6, 7, 8, 9, 10, 11, 12, 13, 14, 15, 16, 17, 18, 19, 20, 21, 22, 23, 24, 25, 26, 27, 28, 29] rfl rfl (by decide +kernel) (by decide +kernel) [0, 1, 2, 3, 4, 5, 6, 7, 8, 9, 10, 11, 12, 13, 14, 15, 16, 17, 18, 19, 20, 21, 22, 23, 24, 25, 26, 27, 28, 29] (by decide +kernel) rfl (fun H locs hP hD hS => ?_)
    clear hz
    refine lv_if_eq (tgt := 29) hx hb dX11_rounds_15 (by decide) (fun c_10 => ?_) (fun c_10 => ?_)
    · have hf := mb_if_t c_10 hf
      refine lv_ldc2 (v := (-1)) hx hb hown lc_133 dX11_rounds_29 ?_
      have hz := Option.some.inj hf
      subst hz
      exact hret _ _ _ _ dX11_rounds_32 hP hD hS
    · have hf := mb_if_f c_10 hf
      refine lv_iload_n hx hb dX11_rounds_18 rfl (lv_at hl 3 rfl) ?_
      refine lv_iconst (v := (-1)) hx hb dX11_rounds_19 (by decide) ?_
      refine lv_iload_n hx hb dX11_rounds_20 rfl (lv_at hl 1 rfl) ?_
      refine lv_iconst (v := 1) hx hb dX11_rounds_21 (by decide) ?_
      refine lv_isub hx hb dX11_rounds_22 ?_
      obtain ⟨r_3, hz, hf⟩ := mb_bd1_s hf
      refine gc_i (r0 := r_3) (ws' := (wC_One k a0 P0 ++ (wC_Units k (a0 1) P1 ++ (wC_Decrees k (a0 7) P2 ++ (wC_Rods k (a0 9) P3 L3 ++ (wC_Tours k (a0 10) P4 L4)))))) (wr := (wC_One k a0 P0 ++ (wC_Units k (a0 1) P1 ++ (wC_Decrees k (a0 7) P2 ++ (wC_Rods k (a0 9) P3 L3 ++ (wC_Tours k (a0 10) P4 L4)))))) (va_runS (As := [.int x3, .int (-1 : Int32), .int (x1 - (1 : Int32))]) (rest := []) ⟨hx, hb, hml, hown, hts⟩ (c_One_within l D k H.size x3 (-1 : Int32) (x1 - (1 : Int32)) r_3 hz) (cwS 3 hts gX11_rounds_X11_within rfl rfl rfl (by decide +kernel) ⟨Nat.le_of_ble_eq_true rfl, Nat.le_of_ble_eq_true rfl⟩) (gp_S hP hD hK hN [] (by decide +kernel) rfl) rfl rfl hl.1 rfl (lv_room (Nat.le_of_ble_eq_true rfl)) dX11_rounds_23 ⟨Nat.zero_le _, Nat.zero_le _⟩) hP hD hS hA [] [0, 1, 2, 3, 4, 5, 6, 7, 8, 9, 10, 11, 12, 13, 14, 15, 16, 17, 18, 19, 20, 21, 22, 23, 24, 25, 26, 27, 28, 29] rfl rfl (by decide +kernel) (by decide +kernel) [0, 1, 2, 3, 4, 5, 6, 7, 8, 9, 10, 11, 12, 13, 14, 15, 16, 17, 18, 19, 20, 21, 22, 23, 24, 25, 26, 27, 28, 29] (by decide +kernel) rfl (fun H locs hP hD hS => ?_)
      clear hz
      refine lv_if_ne (tgt := 33) hx hb dX11_rounds_26 (by decide) (fun c_9 => ?_) (fun c_9 => ?_)
      · have hf := mb_if_f c_9 hf
        refine lv_aload_n hx hb dX11_rounds_33 rfl (lv_at hl 0 rfl) ?_
        refine va_get (D := D) (ci := 11) (v := .ref (a0 10 0)) (C := RX11) (T := TX11) (N := 16) hx hb hts iw_One hown hK hP 0 rfl rfl 9 (by decide) fl_75 (fun _ h9 => h9) rfl dX11_rounds_34 ?_
        refine lv_aload_n hx hb dX11_rounds_37 rfl (lv_at hl 0 rfl) ?_
        refine va_get (D := D) (ci := 11) (v := .ref (a0 9 0)) (C := RX11) (T := TX11) (N := 16) hx hb hts iw_One hown hK hP 0 rfl rfl 8 (by decide) fl_68 (fun _ h9 => h9) rfl dX11_rounds_38 ?_
        refine lv_aload_n hx hb dX11_rounds_41 rfl (lv_at hl 0 rfl) ?_
        refine va_get (D := D) (ci := 11) (v := .ref (a0 1 0)) (C := RX11) (T := TX11) (N := 16) hx hb hts iw_One hown hK hP 0 rfl rfl 0 (by decide) fl_10 (fun _ h9 => h9) rfl dX11_rounds_42 ?_
        refine lv_aload_n hx hb dX11_rounds_45 rfl (lv_at hl 0 rfl) ?_
        refine va_get (D := D) (ci := 11) (v := .ref (a0 7 0)) (C := RX11) (T := TX11) (N := 16) hx hb hts iw_One hown hK hP 0 rfl rfl 6 (by decide) fl_54 (fun _ h9 => h9) rfl dX11_rounds_46 ?_
        refine lv_aload_n hx hb dX11_rounds_49 rfl (lv_at hl 0 rfl) ?_
        refine va_get (D := D) (ci := 11) (v := .int (P0 0 15)) (C := RX11) (T := TX11) (N := 16) hx hb hts iw_One hown hK hP 0 rfl rfl 15 (by decide) fl_102 (fun _ h9 => h9) rfl dX11_rounds_50 ?_
        refine lv_iload_n hx hb dX11_rounds_53 rfl (lv_at hl 1 rfl) ?_
        obtain ⟨L4_4, hz, hf⟩ := mb_bd1_s hf
        refine gc_v (ws' := (wC_One k a0 P0 ++ (wC_Units k (a0 1) P1 ++ (wC_Decrees k (a0 7) P2 ++ (wC_Rods k (a0 9) P3 L3 ++ (wC_Tours k (a0 10) P4 L4_4)))))) (wr := (wC_One k a0 P0)) (va_runV (As := [.ref (a0 9 0), .ref (a0 1 0), .ref (a0 7 0), .int (P0 0 15), .int x1]) (rest := []) ⟨hx, hb, hml, hown, hts⟩ (c_Tours_price l D k H.size (a0 10) (a0 9) (a0 1) (a0 7) P4 L4 P3 L3 P1 P2 (P0 0 15) x1 L4_4 hz) (cwV 5 hts gX11_rounds_X7_price rfl rfl rfl (by decide +kernel) ⟨Nat.le_of_ble_eq_true rfl, Nat.le_of_ble_eq_true rfl⟩) (gp_V (ci := 7) (q0 := 0) (q := (RX7, TX7, 4)) hP hD hK hN [26, 27, 28, 29, 14, 15, 16, 17, 18, 19, 20, 21, 22, 23, 24, 25, 4, 5, 6, 7, 8, 9, 10, 11, 12, 13] (by decide +kernel) rfl rfl rfl) rfl rfl hl.1 rfl (lv_room (Nat.le_of_ble_eq_true rfl)) dX11_rounds_54 ⟨Nat.zero_le _, Nat.zero_le _⟩) hP hD hS hA [26, 27, 28, 29, 14, 15, 16, 17, 18, 19, 20, 21, 22, 23, 24, 25, 4, 5, 6, 7, 8, 9, 10, 11, 12, 13] [0, 1, 2, 3] rfl rfl (by decide +kernel) (by decide +kernel) [0, 1, 2, 3, 20, 21, 22, 23, 24, 25, 26, 27, 28, 29, 8, 9, 10, 11, 12, 13, 14, 15, 16, 17, 18, 19, 4, 5, 6, 7] (by decide +kernel) rfl (fun H locs hP hD hS => ?_)
        clear hz
        refine lv_aload_n hx hb dX11_rounds_57 rfl (lv_at hl 0 rfl) ?_
        refine va_get (D := D) (ci := 11) (v := .ref (a0 10 0)) (C := RX11) (T := TX11) (N := 16) hx hb hts iw_One hown hK hP 0 rfl rfl 9 (by decide) fl_75 (fun _ h9 => h9) rfl dX11_rounds_58 ?_
        refine lv_iload_n hx hb dX11_rounds_61 rfl (lv_at hl 1 rfl) ?_
        refine lv_iload_n hx hb dX11_rounds_62 rfl (lv_at hl 2 rfl) ?_
        obtain ⟨P4_5, L4_6, hz, hf⟩ := mb_bd2_s hf
        refine gc_v (ws' := (wC_One k a0 P0 ++ (wC_Units k (a0 1) P1 ++ (wC_Decrees k (a0 7) P2 ++ (wC_Rods k (a0 9) P3 L3 ++ (wC_Tours k (a0 10) P4_5 L4_6)))))) (wr := (wC_One k a0 P0 ++ (wC_Units k (a0 1) P1 ++ (wC_Decrees k (a0 7) P2 ++ (wC_Rods k (a0 9) P3 L3))))) (va_runV (As := [.int x1, .int x2]) (rest := []) ⟨hx, hb, hml, hown, hts⟩ (c_Tours_seek l D k H.size (a0 10) P4 L4_4 x1 x2 (P4_5, L4_6) hz) (cwV 2 hts gX11_rounds_X7_seek rfl rfl rfl (by decide +kernel) ⟨Nat.le_of_ble_eq_true rfl, Nat.le_of_ble_eq_true rfl⟩) (gp_V (ci := 7) (q0 := 0) (q := (RX7, TX7, 4)) hP hD hK hN [26, 27, 28, 29] (by decide +kernel) rfl rfl rfl) rfl rfl hl.1 rfl (lv_room (Nat.le_of_ble_eq_true rfl)) dX11_rounds_63 ⟨Nat.zero_le _, Nat.zero_le _⟩) hP hD hS hA [26, 27, 28, 29] [0, 1, 2, 3, 4, 5, 6, 7, 8, 9, 10, 11, 12, 13, 14, 15, 16, 17, 18, 19, 20, 21, 22, 23, 24, 25] rfl rfl (by decide +kernel) (by decide +kernel) [0, 1, 2, 3, 4, 5, 6, 7, 8, 9, 10, 11, 12, 13, 14, 15, 16, 17, 18, 19, 20, 21, 22, 23, 24, 25, 26, 27, 28, 29] (by decide +kernel) rfl (fun H locs hP hD hS => ?_)
        clear hz
        refine lv_iload_n hx hb dX11_rounds_66 rfl (lv_at hl 3 rfl) ?_
        refine lv_iconst (v := (-1)) hx hb dX11_rounds_67 (by decide) ?_
        refine lv_icmp_ne (tgt := 81) hx hb dX11_rounds_68 (by decide) (fun c_8 => ?_) (fun c_8 => ?_)
        · have hf := mb_if_f c_8 hf
          refine lv_aload_n hx hb dX11_rounds_81 rfl (lv_at hl 0 rfl) ?_
          refine va_get (D := D) (ci := 11) (v := .ref (a0 10 0)) (C := RX11) (T := TX11) (N := 16) hx hb hts iw_One hown hK hP 0 rfl rfl 9 (by decide) fl_75 (fun _ h9 => h9) rfl dX11_rounds_82 ?_
          refine va_get (D := D) (ci := 7) (v := .ref (a0 10 1)) (C := RX7) (T := TX7) (N := 4) hx hb hts iw_Tours hown hK hP 26 rfl rfl 0 (by decide) fl_303 (fun _ h9 => h9) rfl dX11_rounds_85 ?_
          refine lv_iload_n hx hb dX11_rounds_88 rfl (lv_at hl 3 rfl) ?_
          obtain ⟨h_7, hf⟩ := mb_chk_s hf
          refine va_iald hx hb hK hP 27 0 rfl rfl h_7 dX11_rounds_89 ?_
          refine lv_i2l hx hb dX11_rounds_90 rfl ?_
          have hz := Option.some.inj hf
          subst hz
          exact hret _ _ _ _ dX11_rounds_91 hP hD hS
        · have hf := mb_if_t c_8 hf
          refine lv_aload_n hx hb dX11_rounds_71 rfl (lv_at hl 0 rfl) ?_
          refine va_get (D := D) (ci := 11) (v := .ref (a0 10 0)) (C := RX11) (T := TX11) (N := 16) hx hb hts iw_One hown hK hP 0 rfl rfl 9 (by decide) fl_75 (fun _ h9 => h9) rfl dX11_rounds_72 ?_
          refine va_get (D := D) (ci := 7) (v := .long (L4_6 0 1)) (C := RX7) (T := TX7) (N := 4) hx hb hts iw_Tours hown hK hP 26 rfl rfl 1 (by decide) fl_302 (fun _ h9 => h9) rfl dX11_rounds_75 ?_
          refine lv_goto (tgt := 91) hx hb dX11_rounds_78 (by decide) ?_
          have hz := Option.some.inj hf
          subst hz
          exact hret _ _ _ _ dX11_rounds_91 hP hD hS
      · have hf := mb_if_t c_9 hf
        refine lv_ldc2 (v := (-1)) hx hb hown lc_133 dX11_rounds_29 ?_
        have hz := Option.some.inj hf
        subst hz
        exact hret _ _ _ _ dX11_rounds_32 hP hD hS
def f_Folk_put (P0 : PI) (x1 : Int32) (x2 : Int32) (x3 : Int32) (x4 : Int32) (x5 : Int32) : Option (PI) := mb_chk x1 6 (mb_let (mb_u2 P0 1 x1.toNatClampNeg x2) (fun (P0_1 : PI) => mb_chk x1 6 (mb_let (mb_u2 P0_1 2 x1.toNatClampNeg x3) (fun (P0_3 : PI) => mb_chk x1 6 (mb_let (mb_u2 P0_3 3 x1.toNatClampNeg x4) (fun (P0_5 : PI) => mb_chk x1 6 (mb_let (mb_u2 P0_5 4 x1.toNatClampNeg x5) (fun (P0_7 : PI) => some P0_7))))))))
def rm_Folk_put : Room := { frames := 0, cells := 0, slots := 0, locals := 0 }
set_option maxHeartbeats 4000000 in
set_option maxRecDepth 100000 in
theorem c_Folk_put (l : Launch) (D : va_G) (k : Nat → ClassId) (sz : Nat) (b0 : Nat → Nat) (P0 : PI) (x1 : Int32) (x2 : Int32) (x3 : Int32) (x4 : Int32) (x5 : Int32) (z : PI) (hf : f_Folk_put P0 x1 x2 x3 x4 x5 = some z) : Met l yX1_put wsX1_put rm_Folk_put (va_Pc [.ref (b0 0), .int x1, .int x2, .int x3, .int x4, .int x5] (gw_pre D vwCl (tyL k) (wC_Folk k b0 P0) sz)) (va_Qv (fun (_ : Unit) => True) (gw_b D vwCl (tyL k) (va_A (wC_Folk k b0 P0) sz) (wC_Folk k b0 z)) (va_A (wC_Folk k b0 P0) sz)) 0 0 (va_A (wC_Folk k b0 P0) sz) := by
  refine gm_v (cc := cX1_put) (maxL := 6) (by decide) rfl (Nat.le_of_ble_eq_true rfl) ?_
  intro p e s m args below meth c A Q ls H locs hx hb hml hown hts hK hN hA hP hD hS hl hret
  have hown : s.vm.findClass RX1 = some m.cls := hown
  have hl : lv_has ls 6 [(0, .ref (b0 0)), (1, .int x1), (2, .int x2), (3, .int x3), (4, .int x4), (5, .int x5)] := hl
  have iw_Folk : ∀ w ∈ u_ws RX1 TX1 4, w ∈ wsX1_put := by decide +kernel
  have fl_9 := hts (.fieldLink RX1 9 "OneMeasure$Folk" "oldUsers" "[I") (by decide +kernel)
  have fl_15 := hts (.fieldLink RX1 15 "OneMeasure$Folk" "newUsers" "[I") (by decide +kernel)
  have fl_18 := hts (.fieldLink RX1 18 "OneMeasure$Folk" "school" "[I") (by decide +kernel)
  have fl_21 := hts (.fieldLink RX1 21 "OneMeasure$Folk" "trust" "[I") (by decide +kernel)
  unfold f_Folk_put at hf
  refine lv_aload_n hx hb dX1_put_0 rfl (lv_at hl 0 rfl) ?_
  refine va_get (D := D) (ci := 1) (v := .ref (b0 1)) (C := RX1) (T := TX1) (N := 4) hx hb hts iw_Folk hown hK hP 0 rfl rfl 0 (by decide) fl_9 (fun _ h9 => h9) rfl dX1_put_1 ?_
  refine lv_iload_n hx hb dX1_put_4 rfl (lv_at hl 1 rfl) ?_
  refine lv_iload_n hx hb dX1_put_5 rfl (lv_at hl 2 rfl) ?_
  obtain ⟨h_2, hf⟩ := mb_chk_s hf
  obtain ⟨P0_1, e_, hf⟩ := mb_let_s hf
  refine va_iast hx hb hK hP hD hS 1 0 rfl rfl h_2 dX1_put_6 (fun H locs hP hD hS => ?_)
  have hP : va_P D vwCl (wC_Folk k b0 P0_1) H := by rw [e_]; exact hP
  have hD : va_D A (wC_Folk k b0 P0_1) := by rw [e_]; exact hD
  clear e_
  refine lv_aload_n hx hb dX1_put_7 rfl (lv_at hl 0 rfl) ?_
  refine va_get (D := D) (ci := 1) (v := .ref (b0 2)) (C := RX1) (T := TX1) (N := 4) hx hb hts iw_Folk hown hK hP 0 rfl rfl 1 (by decide) fl_15 (fun _ h9 => h9) rfl dX1_put_8 ?_
  refine lv_iload_n hx hb dX1_put_11 rfl (lv_at hl 1 rfl) ?_
  refine lv_iload_n hx hb dX1_put_12 rfl (lv_at hl 3 rfl) ?_
  obtain ⟨h_4, hf⟩ := mb_chk_s hf
  obtain ⟨P0_3, e_, hf⟩ := mb_let_s hf
  refine va_iast hx hb hK hP hD hS 2 0 rfl rfl h_4 dX1_put_13 (fun H locs hP hD hS => ?_)
  have hP : va_P D vwCl (wC_Folk k b0 P0_3) H := by rw [e_]; exact hP
  have hD : va_D A (wC_Folk k b0 P0_3) := by rw [e_]; exact hD
  clear e_
  refine lv_aload_n hx hb dX1_put_14 rfl (lv_at hl 0 rfl) ?_
  refine va_get (D := D) (ci := 1) (v := .ref (b0 3)) (C := RX1) (T := TX1) (N := 4) hx hb hts iw_Folk hown hK hP 0 rfl rfl 2 (by decide) fl_18 (fun _ h9 => h9) rfl dX1_put_15 ?_
  refine lv_iload_n hx hb dX1_put_18 rfl (lv_at hl 1 rfl) ?_
  refine lv_iload hx hb dX1_put_19 (lv_at hl 4 rfl) ?_
  obtain ⟨h_6, hf⟩ := mb_chk_s hf
  obtain ⟨P0_5, e_, hf⟩ := mb_let_s hf
  refine va_iast hx hb hK hP hD hS 3 0 rfl rfl h_6 dX1_put_21 (fun H locs hP hD hS => ?_)
  have hP : va_P D vwCl (wC_Folk k b0 P0_5) H := by rw [e_]; exact hP
  have hD : va_D A (wC_Folk k b0 P0_5) := by rw [e_]; exact hD
  clear e_
  refine lv_aload_n hx hb dX1_put_22 rfl (lv_at hl 0 rfl) ?_
  refine va_get (D := D) (ci := 1) (v := .ref (b0 4)) (C := RX1) (T := TX1) (N := 4) hx hb hts iw_Folk hown hK hP 0 rfl rfl 3 (by decide) fl_21 (fun _ h9 => h9) rfl dX1_put_23 ?_
  refine lv_iload_n hx hb dX1_put_26 rfl (lv_at hl 1 rfl) ?_
  refine lv_iload hx hb dX1_put_27 (lv_at hl 5 rfl) ?_
  obtain ⟨h_8, hf⟩ := mb_chk_s hf
  obtain ⟨P0_7, e_, hf⟩ := mb_let_s hf
  refine va_iast hx hb hK hP hD hS 4 0 rfl rfl h_8 dX1_put_29 (fun H locs hP hD hS => ?_)
  have hP : va_P D vwCl (wC_Folk k b0 P0_7) H := by rw [e_]; exact hP
  have hD : va_D A (wC_Folk k b0 P0_7) := by rw [e_]; exact hD
  clear e_
  have hz := Option.some.inj hf
  subst hz
  exact hret _ _ _ _ dX1_put_30 hP hD hS
