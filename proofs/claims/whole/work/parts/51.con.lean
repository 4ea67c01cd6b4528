def f_Ref_cheated (L0 : PL) (x1 : Int32) (x2 : Int32) : Option (Int64) := mb_bd1 (f_Ref_in ((x1).toInt64) (0 : Int64) (5 : Int64)) (fun (r_1 : Int32) => (if r_1 = 0 then some (-1 : Int64) else mb_bd1 (f_Ref_in ((x2).toInt64) (0 : Int64) (1 : Int64)) (fun (r_2 : Int32) => (if r_2 = 0 then some (-1 : Int64) else (if x2 = 0 then mb_chk x1 18 (some (L0 21 x1.toNatClampNeg)) else mb_chk x1 18 (some (L0 22 x1.toNatClampNeg)))))))
def rm_Ref_cheated : Room := { frames := 1, cells := 0, slots := 0, locals := 25 }
set_option maxHeartbeats 4000000 in
set_option maxRecDepth 100000 in
theorem c_Ref_cheated (l : Launch) (D : va_G) (k : Nat → ClassId) (sz : Nat) (b0 : Nat → Nat) (P0 : PI) (L0 : PL) (x1 : Int32) (x2 : Int32) (z : Int64) (hf : f_Ref_cheated L0 x1 x2 = some z) : Met l yX12_cheated wsX12_cheated rm_Ref_cheated (va_Pc [.ref (b0 0), .int x1, .int x2] (gw_pre D vwCl (tyL k) (wC_Ref k b0 P0 L0) sz)) (va_Ql (fun (r : Int64) (_ : Unit) => r = z) (gw_b D vwCl (tyL k) (va_A (wC_Ref k b0 P0 L0) sz) (wC_Ref k b0 P0 L0)) (va_A (wC_Ref k b0 P0 L0) sz)) 0 0 (va_A (wC_Ref k b0 P0 L0) sz) := by
  refine gm_l (cc := cX12_cheated) (maxL := 3) (by decide) rfl (Nat.le_of_ble_eq_true rfl) ?_
  intro p e s m args below meth c A Q ls H locs hx hb hml hown hts hK hN hA hP hD hS hl hret
  have hown : s.vm.findClass RX12 = some m.cls := hown
  have hl : lv_has ls 3 [(0, .ref (b0 0)), (1, .int x1), (2, .int x2)] := hl
  have iw_Ref : ∀ w ∈ u_ws RX12 TX12 42, w ∈ wsX12_cheated := by decide +kernel
  have fl_56 := hts (.fieldLink RX12 56 "OneMeasureModel" "cheats" "[J") (by decide +kernel)
  have fl_59 := hts (.fieldLink RX12 59 "OneMeasureModel" "wins" "[J") (by decide +kernel)
  have lc_119 := hts (.constantLong RX12 119 (-1)) (by decide +kernel)
  have lc_200 := hts (.constantLong RX12 200 (5)) (by decide +kernel)
  unfold f_Ref_cheated at hf
  refine lv_iload_n hx hb dX12_cheated_0 rfl (lv_at hl 1 rfl) ?_
  refine lv_i2l hx hb dX12_cheated_1 rfl ?_
  refine lv_lconst (v := 0) hx hb dX12_cheated_2 (by decide) ?_
  refine lv_ldc2 (v := (5)) hx hb hown lc_200 dX12_cheated_3 ?_
  obtain ⟨r_1, hz, hf⟩ := mb_bd1_s hf
  refine gc_i (r0 := r_1) (ws' := (wC_Ref k b0 P0 L0)) (wr := (wC_Ref k b0 P0 L0)) (va_runS (As := [.long (x1).toInt64, .long (0 : Int64), .long (5 : Int64)]) (rest := []) ⟨hx, hb, hml, hown, hts⟩ (c_Ref_in l D k H.size ((x1).toInt64) (0 : Int64) (5 : Int64) r_1 hz) (cwS 3 hts gX12_cheated_X12_in rfl rfl rfl (by decide +kernel) ⟨Nat.le_of_ble_eq_true rfl, Nat.le_of_ble_eq_true rfl⟩) (gp_S hP hD hK hN [] (by decide +kernel) rfl) rfl rfl hl.1 rfl (lv_room (Nat.le_of_ble_eq_true rfl)) dX12_cheated_6 ⟨Nat.zero_le _, Nat.zero_le _⟩) hP hD hS hA [] [0, 1, 2, 3, 4, 5, 6, 7, 8, 9, 10, 11, 12, 13, 14, 15, 16, 17, 18, 19, 20, 21, 22, 23, 24, 25] rfl rfl (by decide +kernel) (by decide +kernel) [0, 1, 2, 3, 4, 5, 6, 7, 8, 9, 10, 11, 12, 13, 14, 15, 16, 17, 18, 19, 20, 21, 22, 23, 24, 25] (by decide +kernel) rfl (fun H locs hP hD hS => ?_)
  clear hz
  refine lv_if_eq (tgt := 22) hx hb dX12_cheated_9 (by decide) (fun c_7 => ?_) (fun c_7 => ?_)
  · have hf := mb_if_t c_7 hf
    refine lv_ldc2 (v := (-1)) hx hb hown lc_119 dX12_cheated_22 ?_
    have hz := Option.some.inj hf
    subst hz
    exact hret _ _ _ _ dX12_cheated_25 hP hD hS
  · have hf := mb_if_f c_7 hf
    refine lv_iload_n hx hb dX12_cheated_12 rfl (lv_at hl 2 rfl) ?_
    refine lv_i2l hx hb dX12_cheated_13 rfl ?_
    refine lv_lconst (v := 0) hx hb dX12_cheated_14 (by decide) ?_
    refine lv_lconst (v := 1) hx hb dX12_cheated_15 (by decide) ?_
    obtain ⟨r_2, hz, hf⟩ := mb_bd1_s hf
    refine gc_i (r0 := r_2) (ws' := (wC_Ref k b0 P0 L0)) (wr := (wC_Ref k b0 P0 L0)) (va_runS (As := [.long (x2).toInt64, .long (0 : Int64), .long (1 : Int64)]) (rest := []) ⟨hx, hb, hml, hown, hts⟩ (c_Ref_in l D k H.size ((x2).toInt64) (0 : Int64) (1 : Int64) r_2 hz) (cwS 3 hts gX12_cheated_X12_in rfl rfl rfl (by decide +kernel) ⟨Nat.le_of_ble_eq_true rfl, Nat.le_of_ble_eq_true rfl⟩) (gp_S hP hD hK hN [] (by decide +kernel) rfl) rfl rfl hl.1 rfl (lv_room (Nat.le_of_ble_eq_true rfl)) dX12_cheated_16 ⟨Nat.zero_le _, Nat.zero_le _⟩) hP hD hS hA [] [0, 1, 2, 3, 4, 5, 6, 7, 8, 9, 10, 11, 12, 13, 14, 15, 16, 17, 18, 19, 20, 21, 22, 23, 24, 25] rfl rfl (by decide +kernel) (by decide +kernel) [0, 1, 2, 3, 4, 5, 6, 7, 8, 9, 10, 11, 12, 13, 14, 15, 16, 17, 18, 19, 20, 21, 22, 23, 24, 25] (by decide +kernel) rfl (fun H locs hP hD hS => ?_)
    clear hz
    refine lv_if_ne (tgt := 26) hx hb dX12_cheated_19 (by decide) (fun c_6 => ?_) (fun c_6 => ?_)
    · have hf := mb_if_f c_6 hf
      refine lv_iload_n hx hb dX12_cheated_26 rfl (lv_at hl 2 rfl) ?_
      refine lv_if_ne (tgt := 39) hx hb dX12_cheated_27 (by decide) (fun c_5 => ?_) (fun c_5 => ?_)
      · have hf := mb_if_f c_5 hf
        refine lv_aload_n hx hb dX12_cheated_39 rfl (lv_at hl 0 rfl) ?_
        refine va_get (D := D) (ci := 12) (v := .ref (b0 22)) (C := RX12) (T := TX12) (N := 42) hx hb hts iw_Ref hown hK hP 0 rfl rfl 21 (by decide) fl_59 (fun _ h9 => h9) rfl dX12_cheated_40 ?_
        refine lv_iload_n hx hb dX12_cheated_43 rfl (lv_at hl 1 rfl) ?_
        obtain ⟨h_3, hf⟩ := mb_chk_s hf
        refine va_lald hx hb hK hP 17 1 rfl rfl h_3 dX12_cheated_44 ?_
        have hz := Option.some.inj hf
        subst hz
        exact hret _ _ _ _ dX12_cheated_45 hP hD hS
      · have hf := mb_if_t c_5 hf
        refine lv_aload_n hx hb dX12_cheated_30 rfl (lv_at hl 0 rfl) ?_
        refine va_get (D := D) (ci := 12) (v := .ref (b0 21)) (C := RX12) (T := TX12) (N := 42) hx hb hts iw_Ref hown hK hP 0 rfl rfl 20 (by decide) fl_56 (fun _ h9 => h9) rfl dX12_cheated_31 ?_
        refine lv_iload_n hx hb dX12_cheated_34 rfl (lv_at hl 1 rfl) ?_
        obtain ⟨h_4, hf⟩ := mb_chk_s hf
        refine va_lald hx hb hK hP 16 1 rfl rfl h_4 dX12_cheated_35 ?_
        refine lv_goto (tgt := 45) hx hb dX12_cheated_36 (by decide) ?_
        have hz := Option.some.inj hf
        subst hz
        exact hret _ _ _ _ dX12_cheated_45 hP hD hS
    · have hf := mb_if_t c_6 hf
      refine lv_ldc2 (v := (-1)) hx hb hown lc_119 dX12_cheated_22 ?_
      have hz := Option.some.inj hf
      subst hz
      exact hret _ _ _ _ dX12_cheated_25 hP hD hS
def f_Ref_laySets_18_b (x2_5 : Int32) (K40_11 : Int32 → Option (PI)) (self_23 : Int32 → Int32 → Option (PI)) (x3_21 : Int32) (x4_22 : Int32) : Option (PI) := (if (6 : Int32) ≤ x4_22 then K40_11 x3_21 else mb_let (x3_21 + ((x2_5 >>> (x4_22 &&& 31)) &&& (1 : Int32))) (fun (x3_24 : Int32) => mb_let (x4_22 + (1 : Int32)) (fun (x4_25 : Int32) => self_23 x3_24 x4_25)))
def f_Ref_laySets_18 (x2_5 : Int32) (K40_11 : Int32 → Option (PI)) : Nat → Int32 → Int32 → Option (PI)
  | 0, _, _ => none
  | n + 1, x3_21, x4_22 => f_Ref_laySets_18_b x2_5 K40_11 (f_Ref_laySets_18 x2_5 K40_11 n) x3_21 x4_22
def f_Ref_laySets_7_b (x1 : Int32) (self_7 : Int32 → PI → Option (PI)) (x2_5 : Int32) (P0_6 : PI) : Option (PI) := (if (64 : Int32) ≤ x2_5 then some P0_6 else mb_let (0 : Int32) (fun (x3_8 : Int32) => mb_let (0 : Int32) (fun (x4_9 : Int32) => mb_jn (fun (x3_10 : Int32) => (if x1 < x3_10 then mb_let (x2_5 + (1 : Int32)) (fun (x2_13 : Int32) => self_7 x2_13 P0_6) else mb_chk (P0_6 0 36) 22 (mb_let (mb_u2 P0_6 38 (P0_6 0 36).toNatClampNeg x2_5) (fun (P0_14 : PI) => mb_let (mb_uo P0_14 36 ((P0_14 0 36) + (1 : Int32))) (fun (P0_16 : PI) => mb_let (x2_5 + (1 : Int32)) (fun (x2_17 : Int32) => self_7 x2_17 P0_16)))))) (fun K40_11 => f_Ref_laySets_18 x2_5 K40_11 mb_fu x3_8 x4_9))))
def f_Ref_laySets_7 (x1 : Int32) : Nat → Int32 → PI → Option (PI)
  | 0, _, _ => none
  | n + 1, x2_5, P0_6 => f_Ref_laySets_7_b x1 (f_Ref_laySets_7 x1 n) x2_5 P0_6
def f_Ref_laySets (P0 : PI) (x1 : Int32) : Option (PI) := mb_let (mb_uo P0 36 (0 : Int32)) (fun (P0_1 : PI) => mb_let (0 : Int32) (fun (x2_2 : Int32) => f_Ref_laySets_7 x1 mb_fu x2_2 P0_1))
def rm_Ref_laySets : Room := { frames := 0, cells := 0, slots := 0, locals := 0 }
set_option maxHeartbeats 4000000 in
set_option maxRecDepth 100000 in
theorem c_Ref_laySets (l : Launch) (D : va_G) (k : Nat → ClassId) (sz : Nat) (b0 : Nat → Nat) (P0 : PI) (L0 : PL) (x1 : Int32) (z : PI) (hf : f_Ref_laySets P0 x1 = some z) : Met l yX12_laySets wsX12_laySets rm_Ref_laySets (va_Pc [.ref (b0 0), .int x1] (gw_pre D vwCl (tyL k) (wC_Ref k b0 P0 L0) sz)) (va_Qv (fun (_ : Unit) => True) (gw_b D vwCl (tyL k) (va_A (wC_Ref k b0 P0 L0) sz) (wC_Ref k b0 z L0)) (va_A (wC_Ref k b0 P0 L0) sz)) 0 0 (va_A (wC_Ref k b0 P0 L0) sz) := by
  refine gm_v (cc := cX12_laySets) (maxL := 5) (by decide) rfl (Nat.le_of_ble_eq_true rfl) ?_
  intro p e s m args below meth c A Q ls H locs hx hb hml hown hts hK hN hA hP hD hS hl hret
  have hown : s.vm.findClass RX12 = some m.cls := hown
  have hl : lv_has ls 5 [(0, .ref (b0 0)), (1, .int x1)] := hl
  have iw_Ref : ∀ w ∈ u_ws RX12 TX12 42, w ∈ wsX12_laySets := by decide +kernel
  have fl_81 := hts (.fieldLink RX12 81 "OneMeasureModel" "sets" "[I") (by decide +kernel)
  have fl_277 := hts (.fieldLink RX12 277 "OneMeasureModel" "setMany" "I") (by decide +kernel)
  unfold f_Ref_laySets at hf
  refine lv_aload_n hx hb dX12_laySets_0 rfl (lv_at hl 0 rfl) ?_
  refine lv_iconst (v := 0) hx hb dX12_laySets_1 (by decide) ?_
  obtain ⟨P0_1, e_, hf⟩ := mb_let_s hf
  refine va_put (D := D) (ci := 12) (v := .int (0 : Int32)) (ty := .int) (C := RX12) (T := TX12) (N := 42) hx hb hts iw_Ref tyX12 tyX12_ok nmX12 hown hK hP hD hS 0 rfl rfl 36 (by decide) fl_277 (fun _ h9 => h9) rfl (by decide +kernel) rfl rfl (Nat.le_of_ble_eq_true rfl) dX12_laySets_2 (fun H locs hP hD hS => ?_)
  have hP : va_P D vwCl (wC_Ref k b0 P0_1 L0) H := by rw [e_]; exact hP
  have hD : va_D A (wC_Ref k b0 P0_1 L0) := by rw [e_]; exact hD
  clear e_
  refine lv_iconst (v := 0) hx hb dX12_laySets_5 (by decide) ?_
  obtain ⟨x2_2, e_, hf⟩ := mb_let_s hf
  refine mb_topi e_ ?_
  clear e_
  refine lv_istore_n (lv' := [(2, .int x2_2), (0, .ref (b0 0)), (1, .int x1)]) hx hb dX12_laySets_6 rfl hl (by decide) rfl (fun ls hl => ?_)
  have lp7_3 : ∀ (n : Nat) (x2_5 : Int32) (P0_6 : PI) (H : Heap) (locs : List Loc) (ls : Array Slot), f_Ref_laySets_7 x1 n x2_5 P0_6 = some z → va_P D vwCl (wC_Ref k b0 P0_6 L0) H → va_D A (wC_Ref k b0 P0_6 L0) → va_S A s.heap H locs → lv_has ls 5 [(0, .ref (b0 0)), (1, .int x1), (2, .int x2_5)] → W p l e rm_Ref_laySets s m args below meth c H locs 0 0 Q (F0 m 7 ls []) := by
    intro n
    induction n with
    | zero =>
      intro x2_5 P0_6 H locs ls hf
      exact nomatch (show (none : Option (PI)) = some z from hf)
    | succ n ih_4 =>
      intro x2_5 P0_6 H locs ls hf hP hD hS hl
      have hf : f_Ref_laySets_7_b x1 (f_Ref_laySets_7 x1 n) x2_5 P0_6 = some z := hf
      unfold f_Ref_laySets_7_b at hf
      refine lv_iload_n hx hb dX12_laySets_7 rfl (lv_at hl 2 rfl) ?_
      refine lv_bipush (v := 64) hx hb dX12_laySets_8 (by decide) ?_
      refine lv_icmp_ge (tgt := 71) hx hb dX12_laySets_10 (by decide) (fun c_27 => ?_) (fun c_27 => ?_)
      · have hf := mb_if_t c_27 hf
        have hz := Option.some.inj hf
        subst hz
        exact hret _ _ _ _ dX12_laySets_71 hP hD hS
      · have hf := mb_if_f c_27 hf
        refine lv_iconst (v := 0) hx hb dX12_laySets_13 (by decide) ?_
        obtain ⟨x3_8, e_, hf⟩ := mb_let_s hf
        refine mb_topi e_ ?_
        clear e_
        refine lv_istore_n (lv' := [(3, .int x3_8), (0, .ref (b0 0)), (1, .int x1), (2, .int x2_5)]) hx hb dX12_laySets_14 rfl hl (by decide) rfl (fun ls hl => ?_)
        refine lv_iconst (v := 0) hx hb dX12_laySets_15 (by decide) ?_
        obtain ⟨x4_9, e_, hf⟩ := mb_let_s hf
        refine mb_topi e_ ?_
        clear e_
        refine lv_istore (lv' := [(4, .int x4_9), (3, .int x3_8), (0, .ref (b0 0)), (1, .int x1), (2, .int x2_5)]) hx hb dX12_laySets_16 hl (by decide) rfl (fun ls hl => ?_)
        obtain ⟨K40_11, eK40_11, hf⟩ := mb_jn_s hf
        have k40_12 : ∀ (x3_10 : Int32) (H : Heap) (locs : List Loc) (ls : Array Slot), K40_11 x3_10 = some z → va_P D vwCl (wC_Ref k b0 P0_6 L0) H → va_D A (wC_Ref k b0 P0_6 L0) → va_S A s.heap H locs → lv_has ls 5 [(0, .ref (b0 0)), (1, .int x1), (2, .int x2_5), (3, .int x3_10)] → W p l e rm_Ref_laySets s m args below meth c H locs 0 0 Q (F0 m 40 ls []) := by
          intro x3_10 H locs ls hf hP hD hS hl
          have hf := mb_j1 eK40_11 hf
          refine lv_iload_n hx hb dX12_laySets_40 rfl (lv_at hl 3 rfl) ?_
          refine lv_iload_n hx hb dX12_laySets_41 rfl (lv_at hl 1 rfl) ?_
          refine lv_icmp_gt (tgt := 65) hx hb dX12_laySets_42 (by decide) (fun c_18 => ?_) (fun c_18 => ?_)
          · have hf := mb_if_t c_18 hf
            obtain ⟨x2_13, e_, hf⟩ := mb_let_s hf
            refine lv_iinc (v := x2_13) (lv' := [(2, .int x2_13), (0, .ref (b0 0)), (1, .int x1), (3, .int x3_10)]) hx hb dX12_laySets_65 hl (k := 2) rfl (by rw [e_]; rfl) (by decide) rfl (fun ls hl => ?_)
            clear e_
            refine lv_goto (tgt := 7) hx hb dX12_laySets_68 (by decide) ?_
            exact ih_4 x2_13 P0_6 _ _ _ hf hP hD hS (lv_sub hl [1, 2, 0] rfl)
          · have hf := mb_if_f c_18 hf
            refine lv_aload_n hx hb dX12_laySets_45 rfl (lv_at hl 0 rfl) ?_
            refine va_get (D := D) (ci := 12) (v := .ref (b0 38)) (C := RX12) (T := TX12) (N := 42) hx hb hts iw_Ref hown hK hP 0 rfl rfl 37 (by decide) fl_81 (fun _ h9 => h9) rfl dX12_laySets_46 ?_
            refine lv_aload_n hx hb dX12_laySets_49 rfl (lv_at hl 0 rfl) ?_
            refine va_get (D := D) (ci := 12) (v := .int (P0_6 0 36)) (C := RX12) (T := TX12) (N := 42) hx hb hts iw_Ref hown hK hP 0 rfl rfl 36 (by decide) fl_277 (fun _ h9 => h9) rfl dX12_laySets_50 ?_
            refine lv_iload_n hx hb dX12_laySets_53 rfl (lv_at hl 2 rfl) ?_
            obtain ⟨h_15, hf⟩ := mb_chk_s hf
            obtain ⟨P0_14, e_, hf⟩ := mb_let_s hf
            refine va_iast hx hb hK hP hD hS 23 0 rfl rfl h_15 dX12_laySets_54 (fun H locs hP hD hS => ?_)
            have hP : va_P D vwCl (wC_Ref k b0 P0_14 L0) H := by rw [e_]; exact hP
            have hD : va_D A (wC_Ref k b0 P0_14 L0) := by rw [e_]; exact hD
            clear e_
            refine lv_aload_n hx hb dX12_laySets_55 rfl (lv_at hl 0 rfl) ?_
            refine lv_dup hx hb dX12_laySets_56 rfl ?_
            refine va_get (D := D) (ci := 12) (v := .int (P0_14 0 36)) (C := RX12) (T := TX12) (N := 42) hx hb hts iw_Ref hown hK hP 0 rfl rfl 36 (by decide) fl_277 (fun _ h9 => h9) rfl dX12_laySets_57 ?_
            refine lv_iconst (v := 1) hx hb dX12_laySets_60 (by decide) ?_
            refine lv_iadd hx hb dX12_laySets_61 ?_
            obtain ⟨P0_16, e_, hf⟩ := mb_let_s hf
            refine va_put (D := D) (ci := 12) (v := .int ((P0_14 0 36) + (1 : Int32))) (ty := .int) (C := RX12) (T := TX12) (N := 42) hx hb hts iw_Ref tyX12 tyX12_ok nmX12 hown hK hP hD hS 0 rfl rfl 36 (by decide) fl_277 (fun _ h9 => h9) rfl (by decide +kernel) rfl rfl (Nat.le_of_ble_eq_true rfl) dX12_laySets_62 (fun H locs hP hD hS => ?_)
            have hP : va_P D vwCl (wC_Ref k b0 P0_16 L0) H := by rw [e_]; exact hP
            have hD : va_D A (wC_Ref k b0 P0_16 L0) := by rw [e_]; exact hD
            clear e_
            obtain ⟨x2_17, e_, hf⟩ := mb_let_s hf
            refine lv_iinc (v := x2_17) (lv' := [(2, .int x2_17), (0, .ref (b0 0)), (1, .int x1), (3, .int x3_10)]) hx hb dX12_laySets_65 hl (k := 2) rfl (by rw [e_]; rfl) (by decide) rfl (fun ls hl => ?_)
            clear e_
            refine lv_goto (tgt := 7) hx hb dX12_laySets_68 (by decide) ?_
            exact ih_4 x2_17 P0_16 _ _ _ hf hP hD hS (lv_sub hl [1, 2, 0] rfl)
        have lp18_19 : ∀ (n : Nat) (x3_21 : Int32) (x4_22 : Int32) (H : Heap) (locs : List Loc) (ls : Array Slot), f_Ref_laySets_18 x2_5 K40_11 n x3_21 x4_22 = some z → va_P D vwCl (wC_Ref k b0 P0_6 L0) H → va_D A (wC_Ref k b0 P0_6 L0) → va_S A s.heap H locs → lv_has ls 5 [(0, .ref (b0 0)), (1, .int x1), (2, .int x2_5), (3, .int x3_21), (4, .int x4_22)] → W p l e rm_Ref_laySets s m args below meth c H locs 0 0 Q (F0 m 18 ls []) := by
          intro n
          induction n with
          | zero =>
            intro x3_21 x4_22 H locs ls hf
            exact nomatch (show (none : Option (PI)) = some z from hf)
          | succ n ih_20 =>
            intro x3_21 x4_22 H locs ls hf hP hD hS hl
            have hf : f_Ref_laySets_18_b x2_5 K40_11 (f_Ref_laySets_18 x2_5 K40_11 n) x3_21 x4_22 = some z := hf
            unfold f_Ref_laySets_18_b at hf
            refine lv_iload hx hb dX12_laySets_18 (lv_at hl 4 rfl) ?_
            refine lv_bipush (v := 6) hx hb dX12_laySets_20 (by decide) ?_
            refine lv_icmp_ge (tgt := 40) hx hb dX12_laySets_22 (by decide) (fun c_26 => ?_) (fun c_26 => ?_)
            · have hf := mb_if_t c_26 hf
              exact k40_12 x3_21 _ _ _ hf hP hD hS (lv_sub hl [0, 1, 2, 3] rfl)
            · have hf := mb_if_f c_26 hf
              refine lv_iload_n hx hb dX12_laySets_25 rfl (lv_at hl 3 rfl) ?_
              refine lv_iload_n hx hb dX12_laySets_26 rfl (lv_at hl 2 rfl) ?_
              refine lv_iload hx hb dX12_laySets_27 (lv_at hl 4 rfl) ?_
              refine lv_ishr hx hb dX12_laySets_29 ?_
              refine lv_iconst (v := 1) hx hb dX12_laySets_30 (by decide) ?_
              refine lv_iand hx hb dX12_laySets_31 ?_
              refine lv_iadd hx hb dX12_laySets_32 ?_
              obtain ⟨x3_24, e_, hf⟩ := mb_let_s hf
              refine mb_topi e_ ?_
              clear e_
              refine lv_istore_n (lv' := [(3, .int x3_24), (0, .ref (b0 0)), (1, .int x1), (2, .int x2_5), (4, .int x4_22)]) hx hb dX12_laySets_33 rfl hl (by decide) rfl (fun ls hl => ?_)
              obtain ⟨x4_25, e_, hf⟩ := mb_let_s hf
              refine lv_iinc (v := x4_25) (lv' := [(4, .int x4_25), (3, .int x3_24), (0, .ref (b0 0)), (1, .int x1), (2, .int x2_5)]) hx hb dX12_laySets_34 hl (k := 4) rfl (by rw [e_]; rfl) (by decide) rfl (fun ls hl => ?_)
              clear e_
              refine lv_goto (tgt := 18) hx hb dX12_laySets_37 (by decide) ?_
              exact ih_20 x3_24 x4_25 _ _ _ hf hP hD hS (lv_sub hl [2, 3, 4, 1, 0] rfl)
        exact lp18_19 mb_fu x3_8 x4_9 _ _ _ hf hP hD hS (lv_sub hl [2, 3, 4, 1, 0] rfl)
  exact lp7_3 mb_fu x2_2 P0_1 _ _ _ hf hP hD hS (lv_sub hl [1, 2, 0] rfl)
def f_Ref_cheatedBy_42_b (P0 : PI) (x1 : Int32) (x4_6 : Int32) (K186_16 : Int64 → Option (Int64)) (self_24 : Int64 → Int32 → Int32 → Option (Int64)) (x2_21 : Int64) (x5_22 : Int32) (x6_23 : Int32) : Option (Int64) := (if x1 ≤ x6_23 then K186_16 x2_21 else (if x5_22 = 0 then K186_16 x2_21 else mb_chk (0 : Int32) 3 (mb_chk (x4_6 + (5 : Int32)) 288 (mb_let (((P0 20 (0 : Int32).toNatClampNeg) + x6_23) - (P0 19 (x4_6 + (5 : Int32)).toNatClampNeg)) (fun (x7_27 : Int32) => mb_bd1 (f_Ref_offAt P0 x4_6 x7_27) (fun (r_28 : Int32) => mb_let r_28 (fun (x8_29 : Int32) => mb_jn (fun (y_30 : Int64) (y_31 : Int64) => mb_let (y_31 + y_30) (fun (x2_34 : Int64) => mb_chk x6_23 4 (mb_chk (x4_6 + (1 : Int32)) 288 (mb_jn (fun (y_37 : Int32) => mb_let y_37 (fun (x5_40 : Int32) => mb_let (x6_23 + (1 : Int32)) (fun (x6_41 : Int32) => self_24 x2_34 x5_40 x6_41))) (fun J178_38 => mb_jn (J178_38 (1 : Int32)) (fun J173_42 => (if (((P0 40 x6_23.toNatClampNeg) >>> ((P0 19 (x4_6 + (1 : Int32)).toNatClampNeg) &&& 31)) &&& (1 : Int32)) = 0 then J173_42 else mb_chk (0 : Int32) 3 (mb_bd1 (f_Ref_isFalse P0 x4_6 (x7_27 + (1 : Int32)) ((P0 20 (0 : Int32).toNatClampNeg) + x6_23)) (fun (r_45 : Int32) => (if r_45 = 0 then J173_42 else J178_38 (0 : Int32))))))))))) (fun J127_32 => (if 0 ≤ x8_29 then J127_32 (0 : Int64) x2_21 else mb_chk (x4_6 + (4 : Int32)) 288 (mb_chk x4_6 288 (mb_chk (P0 19 x4_6.toNatClampNeg) 16 (mb_dvl (1000 : Int64) (J127_32 (((((P0 19 (x4_6 + (4 : Int32)).toNatClampNeg)).toInt64 * ((P0 3 (P0 19 x4_6.toNatClampNeg).toNatClampNeg)).toInt64) * ((-x8_29)).toInt64) / (1000 : Int64)) x2_21)))))))))))))
def f_Ref_cheatedBy_42 (P0 : PI) (x1 : Int32) (x4_6 : Int32) (K186_16 : Int64 → Option (Int64)) : Nat → Int64 → Int32 → Int32 → Option (Int64)
  | 0, _, _, _ => none
  | n + 1, x2_21, x5_22, x6_23 => f_Ref_cheatedBy_42_b P0 x1 x4_6 K186_16 (f_Ref_cheatedBy_42 P0 x1 x4_6 K186_16 n) x2_21 x5_22 x6_23
def f_Ref_cheatedBy_5_b (P0 : PI) (x1 : Int32) (self_7 : Int64 → Int32 → Option (Int64)) (x2_5 : Int64) (x4_6 : Int32) : Option (Int64) := mb_chk (0 : Int32) 3 ((if ((8 : Int32) * (P0 18 (0 : Int32).toNatClampNeg)) ≤ x4_6 then some x2_5 else mb_chk (x4_6 + (7 : Int32)) 288 (mb_jn (fun (y_10 : Int32) => mb_let y_10 (fun (x5_13 : Int32) => mb_let (0 : Int32) (fun (x6_14 : Int32) => mb_jn (fun (x2_15 : Int64) => mb_let (x4_6 + (8 : Int32)) (fun (x4_18 : Int32) => self_7 x2_15 x4_18)) (fun K186_16 => f_Ref_cheatedBy_42 P0 x1 x4_6 K186_16 mb_fu x2_5 x5_13 x6_14)))) (fun J37_11 => (if 0 ≤ (P0 19 (x4_6 + (7 : Int32)).toNatClampNeg) then J37_11 (0 : Int32) else J37_11 (1 : Int32))))))
def f_Ref_cheatedBy_5 (P0 : PI) (x1 : Int32) : Nat → Int64 → Int32 → Option (Int64)
  | 0, _, _ => none
  | n + 1, x2_5, x4_6 => f_Ref_cheatedBy_5_b P0 x1 (f_Ref_cheatedBy_5 P0 x1 n) x2_5 x4_6
def f_Ref_cheatedBy (P0 : PI) (x1 : Int32) : Option (Int64) := mb_let (0 : Int64) (fun (x2_1 : Int64) => mb_let (0 : Int32) (fun (x4_2 : Int32) => f_Ref_cheatedBy_5 P0 x1 mb_fu x2_1 x4_2))
def rm_Ref_cheatedBy : Room := { frames := 4, cells := 0, slots := 0, locals := 99 }
set_option maxHeartbeats 4000000 in
set_option maxRecDepth 100000 in
theorem c_Ref_cheatedBy (l : Launch) (D : va_G) (k : Nat → ClassId) (sz : Nat) (b0 : Nat → Nat) (P0 : PI) (L0 : PL) (x1 : Int32) (z : Int64) (hf : f_Ref_cheatedBy P0 x1 = some z) : Met l yX12_cheatedBy wsX12_cheatedBy rm_Ref_cheatedBy (va_Pc [.ref (b0 0), .int x1] (gw_pre D vwCl (tyL k) (wC_Ref k b0 P0 L0) sz)) (va_Ql (fun (r : Int64) (_ : Unit) => r = z) (gw_b D vwCl (tyL k) (va_A (wC_Ref k b0 P0 L0) sz) (wC_Ref k b0 P0 L0)) (va_A (wC_Ref k b0 P0 L0) sz)) 0 0 (va_A (wC_Ref k b0 P0 L0) sz) := by
  refine gm_l (cc := cX12_cheatedBy) (maxL := 9) (by decide) rfl (Nat.le_of_ble_eq_true rfl) ?_
  intro p e s m args below meth c A Q ls H locs hx hb hml hown hts hK hN hA hP hD hS hl hret
  have hown : s.vm.findClass RX12 = some m.cls := hown
  have hl : lv_has ls 9 [(0, .ref (b0 0)), (1, .int x1)] := hl
  have iw_Ref : ∀ w ∈ u_ws RX12 TX12 42, w ∈ wsX12_cheatedBy := by decide +kernel
  have fl_13 := hts (.fieldLink RX12 13 "OneMeasureModel" "size" "[I") (by decide +kernel)
  have fl_47 := hts (.fieldLink RX12 47 "OneMeasureModel" "rodMany" "[I") (by decide +kernel)
  have fl_50 := hts (.fieldLink RX12 50 "OneMeasureModel" "rods" "[I") (by decide +kernel)
  have fl_53 := hts (.fieldLink RX12 53 "OneMeasureModel" "week" "[I") (by decide +kernel)
  have fl_87 := hts (.fieldLink RX12 87 "OneMeasureModel" "trySets" "[I") (by decide +kernel)
  have lc_109 := hts (.constantLong RX12 109 (1000)) (by decide +kernel)
  unfold f_Ref_cheatedBy at hf
  refine lv_lconst (v := 0) hx hb dX12_cheatedBy_0 (by decide) ?_
  obtain ⟨x2_1, e_, hf⟩ := mb_let_s hf
  refine mb_topl e_ ?_
  clear e_
  refine lv_lstore_n (lv' := [(2, .long x2_1), (0, .ref (b0 0)), (1, .int x1)]) hx hb dX12_cheatedBy_1 rfl hl (by decide) rfl (fun ls hl => ?_)
  refine lv_iconst (v := 0) hx hb dX12_cheatedBy_2 (by decide) ?_
  obtain ⟨x4_2, e_, hf⟩ := mb_let_s hf
  refine mb_topi e_ ?_
  clear e_
  refine lv_istore (lv' := [(4, .int x4_2), (2, .long x2_1), (0, .ref (b0 0)), (1, .int x1)]) hx hb dX12_cheatedBy_3 hl (by decide) rfl (fun ls hl => ?_)
  have lp5_3 : ∀ (n : Nat) (x2_5 : Int64) (x4_6 : Int32) (H : Heap) (locs : List Loc) (ls : Array Slot), f_Ref_cheatedBy_5 P0 x1 n x2_5 x4_6 = some z → va_P D vwCl (wC_Ref k b0 P0 L0) H → va_D A (wC_Ref k b0 P0 L0) → va_S A s.heap H locs → lv_has ls 9 [(0, .ref (b0 0)), (1, .int x1), (2, .long x2_5), (4, .int x4_6)] → W p l e rm_Ref_cheatedBy s m args below meth c H locs 0 0 Q (F0 m 5 ls []) := by
    intro n
    induction n with
    | zero =>
      intro x2_5 x4_6 H locs ls hf
      exact nomatch (show (none : Option (Int64)) = some z from hf)
    | succ n ih_4 =>
      intro x2_5 x4_6 H locs ls hf hP hD hS hl
      have hf : f_Ref_cheatedBy_5_b P0 x1 (f_Ref_cheatedBy_5 P0 x1 n) x2_5 x4_6 = some z := hf
      unfold f_Ref_cheatedBy_5_b at hf
      refine lv_iload hx hb dX12_cheatedBy_5 (lv_at hl 3 rfl) ?_
      refine lv_bipush (v := 8) hx hb dX12_cheatedBy_7 (by decide) ?_
      refine lv_aload_n hx hb dX12_cheatedBy_9 rfl (lv_at hl 0 rfl) ?_
      refine va_get (D := D) (ci := 12) (v := .ref (b0 18)) (C := RX12) (T := TX12) (N := 42) hx hb hts iw_Ref hown hK hP 0 rfl rfl 17 (by decide) fl_47 (fun _ h9 => h9) rfl dX12_cheatedBy_10 ?_
      refine lv_iconst (v := 0) hx hb dX12_cheatedBy_13 (by decide) ?_
      obtain ⟨h_8, hf⟩ := mb_chk_s hf
      refine va_iald hx hb hK hP 13 0 rfl rfl h_8 dX12_cheatedBy_14 ?_
      refine lv_imul hx hb dX12_cheatedBy_15 ?_
      refine lv_icmp_ge (tgt := 192) hx hb dX12_cheatedBy_16 (by decide) (fun c_56 => ?_) (fun c_56 => ?_)
      · have hf := mb_if_t c_56 hf
        refine lv_lload_n hx hb dX12_cheatedBy_192 rfl (lv_at hl 2 rfl) ?_
        have hz := Option.some.inj hf
        subst hz
        exact hret _ _ _ _ dX12_cheatedBy_193 hP hD hS
      · have hf := mb_if_f c_56 hf
        refine lv_aload_n hx hb dX12_cheatedBy_19 rfl (lv_at hl 0 rfl) ?_
        refine va_get (D := D) (ci := 12) (v := .ref (b0 19)) (C := RX12) (T := TX12) (N := 42) hx hb hts iw_Ref hown hK hP 0 rfl rfl 18 (by decide) fl_50 (fun _ h9 => h9) rfl dX12_cheatedBy_20 ?_
        refine lv_iload hx hb dX12_cheatedBy_23 (lv_at hl 3 rfl) ?_
        refine lv_bipush (v := 7) hx hb dX12_cheatedBy_25 (by decide) ?_
        refine lv_iadd hx hb dX12_cheatedBy_27 ?_
        obtain ⟨h_9, hf⟩ := mb_chk_s hf
        refine va_iald hx hb hK hP 14 0 rfl rfl h_9 dX12_cheatedBy_28 ?_
        obtain ⟨J37_11, eJ37_11, hf⟩ := mb_jn_s hf
        have j37_12 : ∀ (y_10 : Int32) (H : Heap) (locs : List Loc) (ls : Array Slot), J37_11 y_10 = some z → va_P D vwCl (wC_Ref k b0 P0 L0) H → va_D A (wC_Ref k b0 P0 L0) → va_S A s.heap H locs → lv_has ls 9 [(0, .ref (b0 0)), (1, .int x1), (2, .long x2_5), (4, .int x4_6)] → W p l e rm_Ref_cheatedBy s m args below meth c H locs 0 0 Q (F0 m 37 ls [.int y_10]) := by
          intro y_10 H locs ls hf hP hD hS hl
          have hf := mb_j1 eJ37_11 hf
          obtain ⟨x5_13, e_, hf⟩ := mb_let_s hf
          refine mb_topi e_ ?_
          clear e_
          refine lv_istore (lv' := [(5, .int x5_13), (0, .ref (b0 0)), (1, .int x1), (2, .long x2_5), (4, .int x4_6)]) hx hb dX12_cheatedBy_37 hl (by decide) rfl (fun ls hl => ?_)
          refine lv_iconst (v := 0) hx hb dX12_cheatedBy_39 (by decide) ?_
          obtain ⟨x6_14, e_, hf⟩ := mb_let_s hf
          refine mb_topi e_ ?_
          clear e_
          refine lv_istore (lv' := [(6, .int x6_14), (5, .int x5_13), (0, .ref (b0 0)), (1, .int x1), (2, .long x2_5), (4, .int x4_6)]) hx hb dX12_cheatedBy_40 hl (by decide) rfl (fun ls hl => ?_)
          obtain ⟨K186_16, eK186_16, hf⟩ := mb_jn_s hf
          have k186_17 : ∀ (x2_15 : Int64) (H : Heap) (locs : List Loc) (ls : Array Slot), K186_16 x2_15 = some z → va_P D vwCl (wC_Ref k b0 P0 L0) H → va_D A (wC_Ref k b0 P0 L0) → va_S A s.heap H locs → lv_has ls 9 [(0, .ref (b0 0)), (1, .int x1), (2, .long x2_15), (4, .int x4_6)] → W p l e rm_Ref_cheatedBy s m args below meth c H locs 0 0 Q (F0 m 186 ls []) := by
            intro x2_15 H locs ls hf hP hD hS hl
            have hf := mb_j1 eK186_16 hf
            obtain ⟨x4_18, e_, hf⟩ := mb_let_s hf
            refine lv_iinc (v := x4_18) (lv' := [(4, .int x4_18), (0, .ref (b0 0)), (1, .int x1), (2, .long x2_15)]) hx hb dX12_cheatedBy_186 hl (k := 3) rfl (by rw [e_]; rfl) (by decide) rfl (fun ls hl => ?_)
            clear e_
            refine lv_goto (tgt := 5) hx hb dX12_cheatedBy_189 (by decide) ?_
            exact ih_4 x2_15 x4_18 _ _ _ hf hP hD hS (lv_sub hl [1, 2, 3, 0] rfl)
          have lp42_19 : ∀ (n : Nat) (x2_21 : Int64) (x5_22 : Int32) (x6_23 : Int32) (H : Heap) (locs : List Loc) (ls : Array Slot), f_Ref_cheatedBy_42 P0 x1 x4_6 K186_16 n x2_21 x5_22 x6_23 = some z → va_P D vwCl (wC_Ref k b0 P0 L0) H → va_D A (wC_Ref k b0 P0 L0) → va_S A s.heap H locs → lv_has ls 9 [(0, .ref (b0 0)), (1, .int x1), (2, .long x2_21), (4, .int x4_6), (5, .int x5_22), (6, .int x6_23)] → W p l e rm_Ref_cheatedBy s m args below meth c H locs 0 0 Q (F0 m 42 ls []) := by
            intro n
            induction n with
            | zero =>
              intro x2_21 x5_22 x6_23 H locs ls hf
              exact nomatch (show (none : Option (Int64)) = some z from hf)
            | succ n ih_20 =>
              intro x2_21 x5_22 x6_23 H locs ls hf hP hD hS hl
              have hf : f_Ref_cheatedBy_42_b P0 x1 x4_6 K186_16 (f_Ref_cheatedBy_42 P0 x1 x4_6 K186_16 n) x2_21 x5_22 x6_23 = some z := hf
              unfold f_Ref_cheatedBy_42_b at hf
              refine lv_iload hx hb dX12_cheatedBy_42 (lv_at hl 5 rfl) ?_
              refine lv_iload_n hx hb dX12_cheatedBy_44 rfl (lv_at hl 1 rfl) ?_
              refine lv_icmp_ge (tgt := 186) hx hb dX12_cheatedBy_45 (by decide) (fun c_54 => ?_) (fun c_54 => ?_)
              · have hf := mb_if_t c_54 hf
                exact k186_17 x2_21 _ _ _ hf hP hD hS (lv_sub hl [0, 1, 2, 3] rfl)
              · have hf := mb_if_f c_54 hf
                refine lv_iload hx hb dX12_cheatedBy_48 (lv_at hl 4 rfl) ?_
                refine lv_if_eq (tgt := 186) hx hb dX12_cheatedBy_50 (by decide) (fun c_53 => ?_) (fun c_53 => ?_)
                · have hf := mb_if_t c_53 hf
                  exact k186_17 x2_21 _ _ _ hf hP hD hS (lv_sub hl [0, 1, 2, 3] rfl)
                · have hf := mb_if_f c_53 hf
                  refine lv_aload_n hx hb dX12_cheatedBy_53 rfl (lv_at hl 0 rfl) ?_
                  refine va_get (D := D) (ci := 12) (v := .ref (b0 20)) (C := RX12) (T := TX12) (N := 42) hx hb hts iw_Ref hown hK hP 0 rfl rfl 19 (by decide) fl_53 (fun _ h9 => h9) rfl dX12_cheatedBy_54 ?_
                  refine lv_iconst (v := 0) hx hb dX12_cheatedBy_57 (by decide) ?_
                  obtain ⟨h_25, hf⟩ := mb_chk_s hf
                  refine va_iald hx hb hK hP 15 0 rfl rfl h_25 dX12_cheatedBy_58 ?_
                  refine lv_iload hx hb dX12_cheatedBy_59 (lv_at hl 5 rfl) ?_
                  refine lv_iadd hx hb dX12_cheatedBy_61 ?_
                  refine lv_aload_n hx hb dX12_cheatedBy_62 rfl (lv_at hl 0 rfl) ?_
                  refine va_get (D := D) (ci := 12) (v := .ref (b0 19)) (C := RX12) (T := TX12) (N := 42) hx hb hts iw_Ref hown hK hP 0 rfl rfl 18 (by decide) fl_50 (fun _ h9 => h9) rfl dX12_cheatedBy_63 ?_
                  refine lv_iload hx hb dX12_cheatedBy_66 (lv_at hl 3 rfl) ?_
                  refine lv_iconst (v := 5) hx hb dX12_cheatedBy_68 (by decide) ?_
                  refine lv_iadd hx hb dX12_cheatedBy_69 ?_
                  obtain ⟨h_26, hf⟩ := mb_chk_s hf
                  refine va_iald hx hb hK hP 14 0 rfl rfl h_26 dX12_cheatedBy_70 ?_
                  refine lv_isub hx hb dX12_cheatedBy_71 ?_
                  obtain ⟨x7_27, e_, hf⟩ := mb_let_s hf
                  refine mb_topi e_ ?_
                  clear e_
                  refine lv_istore (lv' := [(7, .int x7_27), (0, .ref (b0 0)), (1, .int x1), (2, .long x2_21), (4, .int x4_6), (5, .int x5_22), (6, .int x6_23)]) hx hb dX12_cheatedBy_72 hl (by decide) rfl (fun ls hl => ?_)
                  refine lv_aload_n hx hb dX12_cheatedBy_74 rfl (lv_at hl 1 rfl) ?_
                  refine lv_iload hx hb dX12_cheatedBy_75 (lv_at hl 4 rfl) ?_
                  refine lv_iload hx hb dX12_cheatedBy_77 (lv_at hl 0 rfl) ?_
                  obtain ⟨r_28, hz, hf⟩ := mb_bd1_s hf
                  refine gc_i (r0 := r_28) (ws' := (wC_Ref k b0 P0 L0)) (wr := ([] : va_W)) (va_runV (As := [.int x4_6, .int x7_27]) (rest := []) ⟨hx, hb, hml, hown, hts⟩ (c_Ref_offAt l D k H.size b0 P0 L0 x4_6 x7_27 r_28 hz) (cwV 2 hts gX12_cheatedBy_X12_offAt rfl rfl rfl (by decide +kernel) ⟨Nat.le_of_ble_eq_true rfl, Nat.le_of_ble_eq_true rfl⟩) (gp_V (ci := 12) (q0 := 0) (q := (RX12, TX12, 42)) hP hD hK hN [0, 1, 2, 3, 4, 5, 6, 7, 8, 9, 10, 11, 12, 13, 14, 15, 16, 17, 18, 19, 20, 21, 22, 23, 24, 25] (by decide +kernel) rfl rfl rfl) rfl rfl hl.1 rfl (lv_room (Nat.le_of_ble_eq_true rfl)) dX12_cheatedBy_79 ⟨Nat.zero_le _, Nat.zero_le _⟩) hP hD hS hA [0, 1, 2, 3, 4, 5, 6, 7, 8, 9, 10, 11, 12, 13, 14, 15, 16, 17, 18, 19, 20, 21, 22, 23, 24, 25] [] rfl rfl (by decide +kernel) (by decide +kernel) [0, 1, 2, 3, 4, 5, 6, 7, 8, 9, 10, 11, 12, 13, 14, 15, 16, 17, 18, 19, 20, 21, 22, 23, 24, 25] (by decide +kernel) rfl (fun H locs hP hD hS => ?_)
                  clear hz
                  obtain ⟨x8_29, e_, hf⟩ := mb_let_s hf
                  refine mb_topi e_ ?_
                  clear e_
                  refine lv_istore (lv' := [(8, .int x8_29), (7, .int x7_27), (0, .ref (b0 0)), (1, .int x1), (2, .long x2_21), (4, .int x4_6), (5, .int x5_22), (6, .int x6_23)]) hx hb dX12_cheatedBy_82 hl (by decide) rfl (fun ls hl => ?_)
                  refine lv_lload_n hx hb dX12_cheatedBy_84 rfl (lv_at hl 4 rfl) ?_
                  refine lv_iload hx hb dX12_cheatedBy_85 (lv_at hl 0 rfl) ?_
                  obtain ⟨J127_32, eJ127_32, hf⟩ := mb_jn_s hf
                  have j127_33 : ∀ (y_30 : Int64) (y_31 : Int64) (H : Heap) (locs : List Loc) (ls : Array Slot), J127_32 y_30 y_31 = some z → va_P D vwCl (wC_Ref k b0 P0 L0) H → va_D A (wC_Ref k b0 P0 L0) → va_S A s.heap H locs → lv_has ls 9 [(0, .ref (b0 0)), (1, .int x1), (4, .int x4_6), (6, .int x6_23), (7, .int x7_27)] → W p l e rm_Ref_cheatedBy s m args below meth c H locs 0 0 Q (F0 m 127 ls [.long y_30, .long y_31]) := by
                    intro y_30 y_31 H locs ls hf hP hD hS hl
                    have hf := mb_j2 eJ127_32 hf
                    refine lv_ladd hx hb dX12_cheatedBy_127 ?_
                    obtain ⟨x2_34, e_, hf⟩ := mb_let_s hf
                    refine mb_topl e_ ?_
                    clear e_
                    refine lv_lstore_n (lv' := [(2, .long x2_34), (0, .ref (b0 0)), (1, .int x1), (4, .int x4_6), (6, .int x6_23), (7, .int x7_27)]) hx hb dX12_cheatedBy_128 rfl hl (by decide) rfl (fun ls hl => ?_)
                    refine lv_aload_n hx hb dX12_cheatedBy_129 rfl (lv_at hl 1 rfl) ?_
                    refine va_get (D := D) (ci := 12) (v := .ref (b0 40)) (C := RX12) (T := TX12) (N := 42) hx hb hts iw_Ref hown hK hP 0 rfl rfl 39 (by decide) fl_87 (fun _ h9 => h9) rfl dX12_cheatedBy_130 ?_
                    refine lv_iload hx hb dX12_cheatedBy_133 (lv_at hl 4 rfl) ?_
                    obtain ⟨h_35, hf⟩ := mb_chk_s hf
                    refine va_iald hx hb hK hP 25 0 rfl rfl h_35 dX12_cheatedBy_135 ?_
                    refine lv_aload_n hx hb dX12_cheatedBy_136 rfl (lv_at hl 1 rfl) ?_
                    refine va_get (D := D) (ci := 12) (v := .ref (b0 19)) (C := RX12) (T := TX12) (N := 42) hx hb hts iw_Ref hown hK hP 0 rfl rfl 18 (by decide) fl_50 (fun _ h9 => h9) rfl dX12_cheatedBy_137 ?_
                    refine lv_iload hx hb dX12_cheatedBy_140 (lv_at hl 3 rfl) ?_
                    refine lv_iconst (v := 1) hx hb dX12_cheatedBy_142 (by decide) ?_
                    refine lv_iadd hx hb dX12_cheatedBy_143 ?_
                    obtain ⟨h_36, hf⟩ := mb_chk_s hf
                    refine va_iald hx hb hK hP 14 0 rfl rfl h_36 dX12_cheatedBy_144 ?_
                    refine lv_ishr hx hb dX12_cheatedBy_145 ?_
                    refine lv_iconst (v := 1) hx hb dX12_cheatedBy_146 (by decide) ?_
                    refine lv_iand hx hb dX12_cheatedBy_147 ?_
                    obtain ⟨J178_38, eJ178_38, hf⟩ := mb_jn_s hf
                    have j178_39 : ∀ (y_37 : Int32) (H : Heap) (locs : List Loc) (ls : Array Slot), J178_38 y_37 = some z → va_P D vwCl (wC_Ref k b0 P0 L0) H → va_D A (wC_Ref k b0 P0 L0) → va_S A s.heap H locs → lv_has ls 9 [(0, .ref (b0 0)), (1, .int x1), (2, .long x2_34), (4, .int x4_6), (6, .int x6_23)] → W p l e rm_Ref_cheatedBy s m args below meth c H locs 0 0 Q (F0 m 178 ls [.int y_37]) := by
                      intro y_37 H locs ls hf hP hD hS hl
                      have hf := mb_j1 eJ178_38 hf
                      obtain ⟨x5_40, e_, hf⟩ := mb_let_s hf
                      refine mb_topi e_ ?_
                      clear e_
                      refine lv_istore (lv' := [(5, .int x5_40), (0, .ref (b0 0)), (1, .int x1), (2, .long x2_34), (4, .int x4_6), (6, .int x6_23)]) hx hb dX12_cheatedBy_178 hl (by decide) rfl (fun ls hl => ?_)
                      obtain ⟨x6_41, e_, hf⟩ := mb_let_s hf
                      refine lv_iinc (v := x6_41) (lv' := [(6, .int x6_41), (5, .int x5_40), (0, .ref (b0 0)), (1, .int x1), (2, .long x2_34), (4, .int x4_6)]) hx hb dX12_cheatedBy_180 hl (k := 5) rfl (by rw [e_]; rfl) (by decide) rfl (fun ls hl => ?_)
                      clear e_
                      refine lv_goto (tgt := 42) hx hb dX12_cheatedBy_183 (by decide) ?_
                      exact ih_20 x2_34 x5_40 x6_41 _ _ _ hf hP hD hS (lv_sub hl [2, 3, 4, 5, 1, 0] rfl)
                    obtain ⟨J173_42, eJ173_42, hf⟩ := mb_jn_s hf
                    have j173_43 : ∀ (H : Heap) (locs : List Loc) (ls : Array Slot), J173_42 = some z → va_P D vwCl (wC_Ref k b0 P0 L0) H → va_D A (wC_Ref k b0 P0 L0) → va_S A s.heap H locs → lv_has ls 9 [(0, .ref (b0 0)), (1, .int x1), (2, .long x2_34), (4, .int x4_6), (6, .int x6_23)] → W p l e rm_Ref_cheatedBy s m args below meth c H locs 0 0 Q (F0 m 173 ls []) := by
                      intro  H locs ls hf hP hD hS hl
                      have hf := mb_j0 eJ173_42 hf
                      refine lv_iconst (v := 1) hx hb dX12_cheatedBy_173 (by decide) ?_
                      refine lv_goto (tgt := 178) hx hb dX12_cheatedBy_174 (by decide) ?_
                      exact j178_39 (1 : Int32) _ _ _ hf hP hD hS (lv_sub hl [0, 1, 2, 3, 4] rfl)
                    refine lv_if_eq (tgt := 173) hx hb dX12_cheatedBy_148 (by decide) (fun c_47 => ?_) (fun c_47 => ?_)
                    · have hf := mb_if_t c_47 hf
                      exact j173_43  _ _ _ hf hP hD hS (lv_sub hl [1, 2, 0, 3, 4] rfl)
                    · have hf := mb_if_f c_47 hf
                      refine lv_aload_n hx hb dX12_cheatedBy_151 rfl (lv_at hl 1 rfl) ?_
                      refine lv_iload hx hb dX12_cheatedBy_152 (lv_at hl 3 rfl) ?_
                      refine lv_iload hx hb dX12_cheatedBy_154 (lv_at hl 5 rfl) ?_
                      refine lv_iconst (v := 1) hx hb dX12_cheatedBy_156 (by decide) ?_
                      refine lv_iadd hx hb dX12_cheatedBy_157 ?_
                      refine lv_aload_n hx hb dX12_cheatedBy_158 rfl (lv_at hl 1 rfl) ?_
                      refine va_get (D := D) (ci := 12) (v := .ref (b0 20)) (C := RX12) (T := TX12) (N := 42) hx hb hts iw_Ref hown hK hP 0 rfl rfl 19 (by decide) fl_53 (fun _ h9 => h9) rfl dX12_cheatedBy_159 ?_
                      refine lv_iconst (v := 0) hx hb dX12_cheatedBy_162 (by decide) ?_
                      obtain ⟨h_44, hf⟩ := mb_chk_s hf
                      refine va_iald hx hb hK hP 15 0 rfl rfl h_44 dX12_cheatedBy_163 ?_
                      refine lv_iload hx hb dX12_cheatedBy_164 (lv_at hl 4 rfl) ?_
                      refine lv_iadd hx hb dX12_cheatedBy_166 ?_
                      obtain ⟨r_45, hz, hf⟩ := mb_bd1_s hf
                      refine gc_i (r0 := r_45) (ws' := (wC_Ref k b0 P0 L0)) (wr := ([] : va_W)) (va_runV (As := [.int x4_6, .int (x7_27 + (1 : Int32)), .int ((P0 20 (0 : Int32).toNatClampNeg) + x6_23)]) (rest := []) ⟨hx, hb, hml, hown, hts⟩ (c_Ref_isFalse l D k H.size b0 P0 L0 x4_6 (x7_27 + (1 : Int32)) ((P0 20 (0 : Int32).toNatClampNeg) + x6_23) r_45 hz) (cwV 3 hts gX12_cheatedBy_X12_isFalse rfl rfl rfl (by decide +kernel) ⟨Nat.le_of_ble_eq_true rfl, Nat.le_of_ble_eq_true rfl⟩) (gp_V (ci := 12) (q0 := 0) (q := (RX12, TX12, 42)) hP hD hK hN [0, 1, 2, 3, 4, 5, 6, 7, 8, 9, 10, 11, 12, 13, 14, 15, 16, 17, 18, 19, 20, 21, 22, 23, 24, 25] (by decide +kernel) rfl rfl rfl) rfl rfl hl.1 rfl (lv_room (Nat.le_of_ble_eq_true rfl)) dX12_cheatedBy_167 ⟨Nat.zero_le _, Nat.zero_le _⟩) hP hD hS hA [0, 1, 2, 3, 4, 5, 6, 7, 8, 9, 10, 11, 12, 13, 14, 15, 16, 17, 18, 19, 20, 21, 22, 23, 24, 25] [] rfl rfl (by decide +kernel) (by decide +kernel) [0, 1, 2, 3, 4, 5, 6, 7, 8, 9, 10, 11, 12, 13, 14, 15, 16, 17, 18, 19, 20, 21, 22, 23, 24, 25] (by decide +kernel) rfl (fun H locs hP hD hS => ?_)
                      clear hz
                      refine lv_if_ne (tgt := 177) hx hb dX12_cheatedBy_170 (by decide) (fun c_46 => ?_) (fun c_46 => ?_)
                      · have hf := mb_if_f c_46 hf
                        refine lv_iconst (v := 0) hx hb dX12_cheatedBy_177 (by decide) ?_
                        exact j178_39 (0 : Int32) _ _ _ hf hP hD hS (lv_sub hl [1, 2, 0, 3, 4] rfl)
                      · have hf := mb_if_t c_46 hf
                        exact j173_43  _ _ _ hf hP hD hS (lv_sub hl [1, 2, 0, 3, 4] rfl)
                  refine lv_if_ge (tgt := 126) hx hb dX12_cheatedBy_87 (by decide) (fun c_52 => ?_) (fun c_52 => ?_)
                  · have hf := mb_if_t c_52 hf
                    refine lv_lconst (v := 0) hx hb dX12_cheatedBy_126 (by decide) ?_
                    exact j127_33 (0 : Int64) x2_21 _ _ _ hf hP hD hS (lv_sub hl [2, 3, 5, 7, 1] rfl)
                  · have hf := mb_if_f c_52 hf
                    refine lv_aload_n hx hb dX12_cheatedBy_90 rfl (lv_at hl 2 rfl) ?_
                    refine va_get (D := D) (ci := 12) (v := .ref (b0 19)) (C := RX12) (T := TX12) (N := 42) hx hb hts iw_Ref hown hK hP 0 rfl rfl 18 (by decide) fl_50 (fun _ h9 => h9) rfl dX12_cheatedBy_91 ?_
                    refine lv_iload hx hb dX12_cheatedBy_94 (lv_at hl 5 rfl) ?_
                    refine lv_iconst (v := 4) hx hb dX12_cheatedBy_96 (by decide) ?_
                    refine lv_iadd hx hb dX12_cheatedBy_97 ?_
                    obtain ⟨h_48, hf⟩ := mb_chk_s hf
                    refine va_iald hx hb hK hP 14 0 rfl rfl h_48 dX12_cheatedBy_98 ?_
                    refine lv_i2l hx hb dX12_cheatedBy_99 rfl ?_
                    refine lv_aload_n hx hb dX12_cheatedBy_100 rfl (lv_at hl 2 rfl) ?_
                    refine va_get (D := D) (ci := 12) (v := .ref (b0 3)) (C := RX12) (T := TX12) (N := 42) hx hb hts iw_Ref hown hK hP 0 rfl rfl 2 (by decide) fl_13 (fun _ h9 => h9) rfl dX12_cheatedBy_101 ?_
                    refine lv_aload_n hx hb dX12_cheatedBy_104 rfl (lv_at hl 2 rfl) ?_
                    refine va_get (D := D) (ci := 12) (v := .ref (b0 19)) (C := RX12) (T := TX12) (N := 42) hx hb hts iw_Ref hown hK hP 0 rfl rfl 18 (by decide) fl_50 (fun _ h9 => h9) rfl dX12_cheatedBy_105 ?_
                    refine lv_iload hx hb dX12_cheatedBy_108 (lv_at hl 5 rfl) ?_
                    obtain ⟨h_49, hf⟩ := mb_chk_s hf
                    refine va_iald hx hb hK hP 14 0 rfl rfl h_49 dX12_cheatedBy_110 ?_
                    obtain ⟨h_50, hf⟩ := mb_chk_s hf
                    refine va_iald hx hb hK hP 2 0 rfl rfl h_50 dX12_cheatedBy_111 ?_
                    refine lv_i2l hx hb dX12_cheatedBy_112 rfl ?_
                    refine lv_lmul hx hb dX12_cheatedBy_113 ?_
                    refine lv_iload hx hb dX12_cheatedBy_114 (lv_at hl 0 rfl) ?_
                    refine lv_ineg hx hb dX12_cheatedBy_116 ?_
                    refine lv_i2l hx hb dX12_cheatedBy_117 rfl ?_
                    refine lv_lmul hx hb dX12_cheatedBy_118 ?_
                    refine lv_ldc2 (v := (1000)) hx hb hown lc_109 dX12_cheatedBy_119 ?_
                    obtain ⟨h_51, hf⟩ := mb_dvl_s hf
                    refine lv_ldiv hx hb dX12_cheatedBy_122 h_51 ?_
                    refine lv_goto (tgt := 127) hx hb dX12_cheatedBy_123 (by decide) ?_
                    exact j127_33 (((((P0 19 (x4_6 + (4 : Int32)).toNatClampNeg)).toInt64 * ((P0 3 (P0 19 x4_6.toNatClampNeg).toNatClampNeg)).toInt64) * ((-x8_29)).toInt64) / (1000 : Int64)) x2_21 _ _ _ hf hP hD hS (lv_sub hl [2, 3, 5, 7, 1] rfl)
          exact lp42_19 mb_fu x2_5 x5_13 x6_14 _ _ _ hf hP hD hS (lv_sub hl [2, 3, 4, 5, 1, 0] rfl)
        refine lv_if_ge (tgt := 36) hx hb dX12_cheatedBy_29 (by decide) (fun c_55 => ?_) (fun c_55 => ?_)
        · have hf := mb_if_t c_55 hf
          refine lv_iconst (v := 0) hx hb dX12_cheatedBy_36 (by decide) ?_
          exact j37_12 (0 : Int32) _ _ _ hf hP hD hS (lv_sub hl [0, 1, 2, 3] rfl)
        · have hf := mb_if_f c_55 hf
          refine lv_iconst (v := 1) hx hb dX12_cheatedBy_32 (by decide) ?_
          refine lv_goto (tgt := 37) hx hb dX12_cheatedBy_33 (by decide) ?_
          exact j37_12 (1 : Int32) _ _ _ hf hP hD hS (lv_sub hl [0, 1, 2, 3] rfl)
  exact lp5_3 mb_fu x2_1 x4_2 _ _ _ hf hP hD hS (lv_sub hl [2, 3, 1, 0] rfl)
def f_Ref_rounds_191_b (K217_40 : PI → Option (Int64 × PI)) (self_47 : Int32 → PI → Option (Int64 × PI)) (x11_45 : Int32) (P0_46 : PI) : Option (Int64 × PI) := (if (4 : Int32) ≤ x11_45 then K217_40 P0_46 else mb_chk x11_45 4 (mb_chk x11_45 4 (mb_let (mb_u2 P0_46 39 x11_45.toNatClampNeg (P0_46 40 x11_45.toNatClampNeg)) (fun (P0_49 : PI) => mb_let (x11_45 + (1 : Int32)) (fun (x11_51 : Int32) => self_47 x11_51 P0_49)))))
def f_Ref_rounds_191 (K217_40 : PI → Option (Int64 × PI)) : Nat → Int32 → PI → Option (Int64 × PI)
  | 0, _, _ => none
  | n + 1, x11_45, P0_46 => f_Ref_rounds_191_b K217_40 (f_Ref_rounds_191 K217_40 n) x11_45 P0_46
def f_Ref_rounds_99_b (K138_27 : PI → Option (Int64 × PI)) (self_64 : Int32 → Int32 → PI → Option (Int64 × PI)) (x8_61 : Int32) (x9_62 : Int32) (P0_63 : PI) : Option (Int64 × PI) := (if x9_62 < 0 then K138_27 P0_63 else mb_dvi (P0_63 0 36) (mb_chk (x8_61 - x8_61 / (P0_63 0 36) * (P0_63 0 36)) 22 (mb_chk x9_62 4 (mb_let (mb_u2 P0_63 40 x9_62.toNatClampNeg (P0_63 38 (x8_61 - x8_61 / (P0_63 0 36) * (P0_63 0 36)).toNatClampNeg)) (fun (P0_67 : PI) => mb_dvi (P0_67 0 36) (mb_let (x8_61 / (P0_67 0 36)) (fun (x8_70 : Int32) => mb_let (x9_62 + (-1 : Int32)) (fun (x9_71 : Int32) => self_64 x8_70 x9_71 P0_67))))))))
def f_Ref_rounds_99 (K138_27 : PI → Option (Int64 × PI)) : Nat → Int32 → Int32 → PI → Option (Int64 × PI)
  | 0, _, _, _ => none
  | n + 1, x8_61, x9_62, P0_63 => f_Ref_rounds_99_b K138_27 (f_Ref_rounds_99 K138_27 n) x8_61 x9_62 P0_63
def f_Ref_rounds_83_b (x1 : Int32) (x4_7 : Int32) (K223_14 : Int64 → PI → Option (Int64 × PI)) (self_23 : Int64 → Int32 → PI → Option (Int64 × PI)) (x5_20 : Int64) (x7_21 : Int32) (P0_22 : PI) : Option (Int64 × PI) := (if x4_7 ≤ x7_21 then K223_14 x5_20 P0_22 else mb_let x7_21 (fun (x8_24 : Int32) => mb_let (x1 - (1 : Int32)) (fun (x9_25 : Int32) => mb_jn (fun (P0_26 : PI) => mb_chk (x1 - (1 : Int32)) 4 (mb_jn (fun (y_30 : Int64) => mb_let y_30 (fun (x9_33 : Int64) => (if (lg_cmp x9_33 (0 : Int64)) < 0 then mb_let (x7_21 + (1 : Int32)) (fun (x7_34 : Int32) => self_23 x5_20 x7_34 P0_26) else mb_jn (mb_let x9_33 (fun (x5_37 : Int64) => mb_let (0 : Int32) (fun (x11_38 : Int32) => mb_jn (fun (P0_39 : PI) => mb_let (x7_21 + (1 : Int32)) (fun (x7_42 : Int32) => self_23 x5_37 x7_42 P0_39)) (fun K217_40 => f_Ref_rounds_191 K217_40 mb_fu x11_38 P0_26)))) (fun J184_35 => (if (lg_cmp x5_20 (0 : Int64)) < 0 then J184_35 else (if 0 ≤ (lg_cmp x9_33 x5_20) then mb_let (x7_21 + (1 : Int32)) (fun (x7_53 : Int32) => self_23 x5_20 x7_53 P0_26) else J184_35)))))) (fun J160_31 => (if (P0_26 40 (x1 - (1 : Int32)).toNatClampNeg) = 0 then mb_bd1 (f_Ref_cheatedBy P0_26 x1) (fun (r_57 : Int64) => J160_31 r_57) else J160_31 (-1 : Int64))))) (fun K138_27 => f_Ref_rounds_99 K138_27 mb_fu x8_24 x9_25 P0_22))))
def f_Ref_rounds_83 (x1 : Int32) (x4_7 : Int32) (K223_14 : Int64 → PI → Option (Int64 × PI)) : Nat → Int64 → Int32 → PI → Option (Int64 × PI)
  | 0, _, _, _ => none
  | n + 1, x5_20, x7_21, P0_22 => f_Ref_rounds_83_b x1 x4_7 K223_14 (f_Ref_rounds_83 x1 x4_7 K223_14 n) x5_20 x7_21 P0_22
def f_Ref_rounds_54_b (P0_4 : PI) (x1 : Int32) (K75_8 : Int32 → Option (Int64 × PI)) (self_78 : Int32 → Int32 → Option (Int64 × PI)) (x4_76 : Int32) (x5_77 : Int32) : Option (Int64 × PI) := (if x1 ≤ x5_77 then K75_8 x4_76 else mb_let (x4_76 * (P0_4 0 36)) (fun (x4_79 : Int32) => mb_let (x5_77 + (1 : Int32)) (fun (x5_80 : Int32) => self_78 x4_79 x5_80)))
def f_Ref_rounds_54 (P0_4 : PI) (x1 : Int32) (K75_8 : Int32 → Option (Int64 × PI)) : Nat → Int32 → Int32 → Option (Int64 × PI)
  | 0, _, _ => none
  | n + 1, x4_76, x5_77 => f_Ref_rounds_54_b P0_4 x1 K75_8 (f_Ref_rounds_54 P0_4 x1 K75_8 n) x4_76 x5_77
def f_Ref_rounds (P0 : PI) (x1 : Int32) (x2 : Int32) (x3 : Int32) : Option (Int64 × PI) := mb_bd1 (f_Ref_in ((x1).toInt64) (1 : Int64) (4 : Int64)) (fun (r_1 : Int32) => (if r_1 = 0 then some ((-1 : Int64), P0) else mb_bd1 (f_Ref_in ((x2).toInt64) (1 : Int64) (2 : Int64)) (fun (r_2 : Int32) => (if r_2 = 0 then some ((-1 : Int64), P0) else mb_bd1 (f_Ref_in ((x3).toInt64) (-1 : Int64) (((x1 - (1 : Int32))).toInt64)) (fun (r_3 : Int32) => (if r_3 = 0 then some ((-1 : Int64), P0) else mb_bd1 (f_Ref_laySets P0 x2) (fun (P0_4 : PI) => mb_let (1 : Int32) (fun (x4_5 : Int32) => mb_let (0 : Int32) (fun (x5_6 : Int32) => mb_jn (fun (x4_7 : Int32) => mb_let (-1 : Int64) (fun (x5_10 : Int64) => mb_let (0 : Int32) (fun (x7_11 : Int32) => mb_jn (fun (x5_12 : Int64) (P0_13 : PI) => (if 0 ≤ x3 then mb_chk x3 4 (some (((P0_13 39 x3.toNatClampNeg)).toInt64, P0_13)) else some (x5_12, P0_13))) (fun K223_14 => f_Ref_rounds_83 x1 x4_7 K223_14 mb_fu x5_10 x7_11 P0_4)))) (fun K75_8 => f_Ref_rounds_54 P0_4 x1 K75_8 mb_fu x4_5 x5_6))))))))))
def rm_Ref_rounds : Room := { frames := 5, cells := 0, slots := 0, locals := 127 }
set_option maxHeartbeats 4000000 in
set_option maxRecDepth 100000 in
theorem c_Ref_rounds (l : Launch) (D : va_G) (k : Nat → ClassId) (sz : Nat) (b0 : Nat → Nat) (P0 : PI) (L0 : PL) (x1 : Int32) (x2 : Int32) (x3 : Int32) (z : Int64 × PI) (hf : f_Ref_rounds P0 x1 x2 x3 = some z) : Met l yX12_rounds wsX12_rounds rm_Ref_rounds (va_Pc [.ref (b0 0), .int x1, .int x2, .int x3] (gw_pre D vwCl (tyL k) (wC_Ref k b0 P0 L0) sz)) (va_Ql (fun (r : Int64) (_ : Unit) => r = z.1) (gw_b D vwCl (tyL k) (va_A (wC_Ref k b0 P0 L0) sz) (wC_Ref k b0 z.2 L0)) (va_A (wC_Ref k b0 P0 L0) sz)) 0 0 (va_A (wC_Ref k b0 P0 L0) sz) := by
  refine gm_l (cc := cX12_rounds) (maxL := 12) (by decide) rfl (Nat.le_of_ble_eq_true rfl) ?_
  intro p e s m args below meth c A Q ls H locs hx hb hml hown hts hK hN hA hP hD hS hl hret
  have hown : s.vm.findClass RX12 = some m.cls := hown
  have hl : lv_has ls 12 [(0, .ref (b0 0)), (1, .int x1), (2, .int x2), (3, .int x3)] := hl
  have iw_Ref : ∀ w ∈ u_ws RX12 TX12 42, w ∈ wsX12_rounds := by decide +kernel
  have fl_81 := hts (.fieldLink RX12 81 "OneMeasureModel" "sets" "[I") (by decide +kernel)
  have fl_84 := hts (.fieldLink RX12 84 "OneMeasureModel" "bestSets" "[I") (by decide +kernel)
  have fl_87 := hts (.fieldLink RX12 87 "OneMeasureModel" "trySets" "[I") (by decide +kernel)
  have fl_277 := hts (.fieldLink RX12 277 "OneMeasureModel" "setMany" "I") (by decide +kernel)
  have lc_119 := hts (.constantLong RX12 119 (-1)) (by decide +kernel)
  have lc_157 := hts (.constantLong RX12 157 (4)) (by decide +kernel)
  have lc_230 := hts (.constantLong RX12 230 (2)) (by decide +kernel)
  unfold f_Ref_rounds at hf
  refine lv_iload_n hx hb dX12_rounds_0 rfl (lv_at hl 1 rfl) ?_
  refine lv_i2l hx hb dX12_rounds_1 rfl ?_
  refine lv_lconst (v := 1) hx hb dX12_rounds_2 (by decide) ?_
  refine lv_ldc2 (v := (4)) hx hb hown lc_157 dX12_rounds_3 ?_
  obtain ⟨r_1, hz, hf⟩ := mb_bd1_s hf
  refine gc_i (r0 := r_1) (ws' := (wC_Ref k b0 P0 L0)) (wr := (wC_Ref k b0 P0 L0)) (va_runS (As := [.long (x1).toInt64, .long (1 : Int64), .long (4 : Int64)]) (rest := []) ⟨hx, hb, hml, hown, hts⟩ (c_Ref_in l D k H.size ((x1).toInt64) (1 : Int64) (4 : Int64) r_1 hz) (cwS 3 hts gX12_rounds_X12_in rfl rfl rfl (by decide +kernel) ⟨Nat.le_of_ble_eq_true rfl, Nat.le_of_ble_eq_true rfl⟩) (gp_S hP hD hK hN [] (by decide +kernel) rfl) rfl rfl hl.1 rfl (lv_room (Nat.le_of_ble_eq_true rfl)) dX12_rounds_6 ⟨Nat.zero_le _, Nat.zero_le _⟩) hP hD hS hA [] [0, 1, 2, 3, 4, 5, 6, 7, 8, 9, 10, 11, 12, 13, 14, 15, 16, 17, 18, 19, 20, 21, 22, 23, 24, 25] rfl rfl (by decide +kernel) (by decide +kernel) [0, 1, 2, 3, 4, 5, 6, 7, 8, 9, 10, 11, 12, 13, 14, 15, 16, 17, 18, 19, 20, 21, 22, 23, 24, 25] (by decide +kernel) rfl (fun H locs hP hD hS => ?_)
  clear hz
  refine lv_if_eq (tgt := 39) hx hb dX12_rounds_9 (by decide) (fun c_84 => ?_) (fun c_84 => ?_)
  · have hf := mb_if_t c_84 hf
    refine lv_ldc2 (v := (-1)) hx hb hown lc_119 dX12_rounds_39 ?_
    have hz := Option.some.inj hf
    subst hz
    exact hret _ _ _ _ dX12_rounds_42 hP hD hS
  · have hf := mb_if_f c_84 hf
    refine lv_iload_n hx hb dX12_rounds_12 rfl (lv_at hl 2 rfl) ?_
    refine lv_i2l hx hb dX12_rounds_13 rfl ?_
    refine lv_lconst (v := 1) hx hb dX12_rounds_14 (by decide) ?_
    refine lv_ldc2 (v := (2)) hx hb hown lc_230 dX12_rounds_15 ?_
    obtain ⟨r_2, hz, hf⟩ := mb_bd1_s hf
    refine gc_i (r0 := r_2) (ws' := (wC_Ref k b0 P0 L0)) (wr := (wC_Ref k b0 P0 L0)) (va_runS (As := [.long (x2).toInt64, .long (1 : Int64), .long (2 : Int64)]) (rest := []) ⟨hx, hb, hml, hown, hts⟩ (c_Ref_in l D k H.size ((x2).toInt64) (1 : Int64) (2 : Int64) r_2 hz) (cwS 3 hts gX12_rounds_X12_in rfl rfl rfl (by decide +kernel) ⟨Nat.le_of_ble_eq_true rfl, Nat.le_of_ble_eq_true rfl⟩) (gp_S hP hD hK hN [] (by decide +kernel) rfl) rfl rfl hl.1 rfl (lv_room (Nat.le_of_ble_eq_true rfl)) dX12_rounds_18 ⟨Nat.zero_le _, Nat.zero_le _⟩) hP hD hS hA [] [0, 1, 2, 3, 4, 5, 6, 7, 8, 9, 10, 11, 12, 13, 14, 15, 16, 17, 18, 19, 20, 21, 22, 23, 24, 25] rfl rfl (by decide +kernel) (by decide +kernel) [0, 1, 2, 3, 4, 5, 6, 7, 8, 9, 10, 11, 12, 13, 14, 15, 16, 17, 18, 19, 20, 21, 22, 23, 24, 25] (by decide +kernel) rfl (fun H locs hP hD hS => ?_)
    clear hz
    refine lv_if_eq (tgt := 39) hx hb dX12_rounds_21 (by decide) (fun c_83 => ?_) (fun c_83 => ?_)
    · have hf := mb_if_t c_83 hf
      refine lv_ldc2 (v := (-1)) hx hb hown lc_119 dX12_rounds_39 ?_
      have hz := Option.some.inj hf
      subst hz
      exact hret _ _ _ _ dX12_rounds_42 hP hD hS
    · have hf := mb_if_f c_83 hf
      refine lv_iload_n hx hb dX12_rounds_24 rfl (lv_at hl 3 rfl) ?_
      refine lv_i2l hx hb dX12_rounds_25 rfl ?_
      refine lv_ldc2 (v := (-1)) hx hb hown lc_119 dX12_rounds_26 ?_
      refine lv_iload_n hx hb dX12_rounds_29 rfl (lv_at hl 1 rfl) ?_
      refine lv_iconst (v := 1) hx hb dX12_rounds_30 (by decide) ?_
      refine lv_isub hx hb dX12_rounds_31 ?_
      refine lv_i2l hx hb dX12_rounds_32 rfl ?_
      obtain ⟨r_3, hz, hf⟩ := mb_bd1_s hf
      refine gc_i (r0 := r_3) (ws' := (wC_Ref k b0 P0 L0)) (wr := (wC_Ref k b0 P0 L0)) (va_runS (As := [.long (x3).toInt64, .long (-1 : Int64), .long ((x1 - (1 : Int32))).toInt64]) (rest := []) ⟨hx, hb, hml, hown, hts⟩ (c_Ref_in l D k H.size ((x3).toInt64) (-1 : Int64) (((x1 - (1 : Int32))).toInt64) r_3 hz) (cwS 3 hts gX12_rounds_X12_in rfl rfl rfl (by decide +kernel) ⟨Nat.le_of_ble_eq_true rfl, Nat.le_of_ble_eq_true rfl⟩) (gp_S hP hD hK hN [] (by decide +kernel) rfl) rfl rfl hl.1 rfl (lv_room (Nat.le_of_ble_eq_true rfl)) dX12_rounds_33 ⟨Nat.zero_le _, Nat.zero_le _⟩) hP hD hS hA [] [0, 1, 2, 3, 4, 5, 6, 7, 8, 9, 10, 11, 12, 13, 14, 15, 16, 17, 18, 19, 20, 21, 22, 23, 24, 25] rfl rfl (by decide +kernel) (by decide +kernel) [0, 1, 2, 3, 4, 5, 6, 7, 8, 9, 10, 11, 12, 13, 14, 15, 16, 17, 18, 19, 20, 21, 22, 23, 24, 25] (by decide +kernel) rfl (fun H locs hP hD hS => ?_)
      clear hz
      refine lv_if_ne (tgt := 43) hx hb dX12_rounds_36 (by decide) (fun c_82 => ?_) (fun c_82 => ?_)
      · have hf := mb_if_f c_82 hf
        refine lv_aload_n hx hb dX12_rounds_43 rfl (lv_at hl 0 rfl) ?_
        refine lv_iload_n hx hb dX12_rounds_44 rfl (lv_at hl 2 rfl) ?_
        obtain ⟨P0_4, hz, hf⟩ := mb_bd1_s hf
        refine gc_v (ws' := (wC_Ref k b0 P0_4 L0)) (wr := ([] : va_W)) (va_runV (As := [.int x2]) (rest := []) ⟨hx, hb, hml, hown, hts⟩ (c_Ref_laySets l D k H.size b0 P0 L0 x2 P0_4 hz) (cwV 1 hts gX12_rounds_X12_laySets rfl rfl rfl (by decide +kernel) ⟨Nat.le_of_ble_eq_true rfl, Nat.le_of_ble_eq_true rfl⟩) (gp_V (ci := 12) (q0 := 0) (q := (RX12, TX12, 42)) hP hD hK hN [0, 1, 2, 3, 4, 5, 6, 7, 8, 9, 10, 11, 12, 13, 14, 15, 16, 17, 18, 19, 20, 21, 22, 23, 24, 25] (by decide +kernel) rfl rfl rfl) rfl rfl hl.1 rfl (lv_room (Nat.le_of_ble_eq_true rfl)) dX12_rounds_45 ⟨Nat.zero_le _, Nat.zero_le _⟩) hP hD hS hA [0, 1, 2, 3, 4, 5, 6, 7, 8, 9, 10, 11, 12, 13, 14, 15, 16, 17, 18, 19, 20, 21, 22, 23, 24, 25] [] rfl rfl (by decide +kernel) (by decide +kernel) [0, 1, 2, 3, 4, 5, 6, 7, 8, 9, 10, 11, 12, 13, 14, 15, 16, 17, 18, 19, 20, 21, 22, 23, 24, 25] (by decide +kernel) rfl (fun H locs hP hD hS => ?_)
        clear hz
        refine lv_iconst (v := 1) hx hb dX12_rounds_48 (by decide) ?_
        obtain ⟨x4_5, e_, hf⟩ := mb_let_s hf
        refine mb_topi e_ ?_
        clear e_
        refine lv_istore (lv' := [(4, .int x4_5), (0, .ref (b0 0)), (1, .int x1), (2, .int x2), (3, .int x3)]) hx hb dX12_rounds_49 hl (by decide) rfl (fun ls hl => ?_)
        refine lv_iconst (v := 0) hx hb dX12_rounds_51 (by decide) ?_
        obtain ⟨x5_6, e_, hf⟩ := mb_let_s hf
        refine mb_topi e_ ?_
        clear e_
        refine lv_istore (lv' := [(5, .int x5_6), (4, .int x4_5), (0, .ref (b0 0)), (1, .int x1), (2, .int x2), (3, .int x3)]) hx hb dX12_rounds_52 hl (by decide) rfl (fun ls hl => ?_)
        obtain ⟨K75_8, eK75_8, hf⟩ := mb_jn_s hf
        have k75_9 : ∀ (x4_7 : Int32) (H : Heap) (locs : List Loc) (ls : Array Slot), K75_8 x4_7 = some z → va_P D vwCl (wC_Ref k b0 P0_4 L0) H → va_D A (wC_Ref k b0 P0_4 L0) → va_S A s.heap H locs → lv_has ls 12 [(0, .ref (b0 0)), (1, .int x1), (3, .int x3), (4, .int x4_7)] → W p l e rm_Ref_rounds s m args below meth c H locs 0 0 Q (F0 m 75 ls []) := by
          intro x4_7 H locs ls hf hP hD hS hl
          have hf := mb_j1 eK75_8 hf
          refine lv_ldc2 (v := (-1)) hx hb hown lc_119 dX12_rounds_75 ?_
          obtain ⟨x5_10, e_, hf⟩ := mb_let_s hf
          refine mb_topl e_ ?_
          clear e_
          refine lv_lstore (lv' := [(5, .long x5_10), (0, .ref (b0 0)), (1, .int x1), (3, .int x3), (4, .int x4_7)]) hx hb dX12_rounds_78 hl (by decide) rfl (fun ls hl => ?_)
          refine lv_iconst (v := 0) hx hb dX12_rounds_80 (by decide) ?_
          obtain ⟨x7_11, e_, hf⟩ := mb_let_s hf
          refine mb_topi e_ ?_
          clear e_
          refine lv_istore (lv' := [(7, .int x7_11), (5, .long x5_10), (0, .ref (b0 0)), (1, .int x1), (3, .int x3), (4, .int x4_7)]) hx hb dX12_rounds_81 hl (by decide) rfl (fun ls hl => ?_)
          obtain ⟨K223_14, eK223_14, hf⟩ := mb_jn_s hf
          have k223_15 : ∀ (x5_12 : Int64) (P0_13 : PI) (H : Heap) (locs : List Loc) (ls : Array Slot), K223_14 x5_12 P0_13 = some z → va_P D vwCl (wC_Ref k b0 P0_13 L0) H → va_D A (wC_Ref k b0 P0_13 L0) → va_S A s.heap H locs → lv_has ls 12 [(0, .ref (b0 0)), (3, .int x3), (5, .long x5_12)] → W p l e rm_Ref_rounds s m args below meth c H locs 0 0 Q (F0 m 223 ls []) := by
            intro x5_12 P0_13 H locs ls hf hP hD hS hl
            have hf := mb_j2 eK223_14 hf
            refine lv_iload_n hx hb dX12_rounds_223 rfl (lv_at hl 1 rfl) ?_
            refine lv_if_ge (tgt := 232) hx hb dX12_rounds_224 (by decide) (fun c_17 => ?_) (fun c_17 => ?_)
            · have hf := mb_if_t c_17 hf
              refine lv_aload_n hx hb dX12_rounds_232 rfl (lv_at hl 0 rfl) ?_
              refine va_get (D := D) (ci := 12) (v := .ref (b0 39)) (C := RX12) (T := TX12) (N := 42) hx hb hts iw_Ref hown hK hP 0 rfl rfl 38 (by decide) fl_84 (fun _ h9 => h9) rfl dX12_rounds_233 ?_
              refine lv_iload_n hx hb dX12_rounds_236 rfl (lv_at hl 1 rfl) ?_
              obtain ⟨h_16, hf⟩ := mb_chk_s hf
              refine va_iald hx hb hK hP 24 0 rfl rfl h_16 dX12_rounds_237 ?_
              refine lv_i2l hx hb dX12_rounds_238 rfl ?_
              have hz := Option.some.inj hf
              subst hz
              exact hret _ _ _ _ dX12_rounds_239 hP hD hS
            · have hf := mb_if_f c_17 hf
              refine lv_lload hx hb dX12_rounds_227 (lv_at hl 2 rfl) ?_
              refine lv_goto (tgt := 239) hx hb dX12_rounds_229 (by decide) ?_
              have hz := Option.some.inj hf
              subst hz
              exact hret _ _ _ _ dX12_rounds_239 hP hD hS
          have lp83_18 : ∀ (n : Nat) (x5_20 : Int64) (x7_21 : Int32) (P0_22 : PI) (H : Heap) (locs : List Loc) (ls : Array Slot), f_Ref_rounds_83 x1 x4_7 K223_14 n x5_20 x7_21 P0_22 = some z → va_P D vwCl (wC_Ref k b0 P0_22 L0) H → va_D A (wC_Ref k b0 P0_22 L0) → va_S A s.heap H locs → lv_has ls 12 [(0, .ref (b0 0)), (1, .int x1), (3, .int x3), (4, .int x4_7), (5, .long x5_20), (7, .int x7_21)] → W p l e rm_Ref_rounds s m args below meth c H locs 0 0 Q (F0 m 83 ls []) := by
            intro n
            induction n with
            | zero =>
              intro x5_20 x7_21 P0_22 H locs ls hf
              exact nomatch (show (none : Option (Int64 × PI)) = some z from hf)
            | succ n ih_19 =>
              intro x5_20 x7_21 P0_22 H locs ls hf hP hD hS hl
              have hf : f_Ref_rounds_83_b x1 x4_7 K223_14 (f_Ref_rounds_83 x1 x4_7 K223_14 n) x5_20 x7_21 P0_22 = some z := hf
              unfold f_Ref_rounds_83_b at hf
              refine lv_iload hx hb dX12_rounds_83 (lv_at hl 5 rfl) ?_
              refine lv_iload hx hb dX12_rounds_85 (lv_at hl 3 rfl) ?_
              refine lv_icmp_ge (tgt := 223) hx hb dX12_rounds_87 (by decide) (fun c_73 => ?_) (fun c_73 => ?_)
              · have hf := mb_if_t c_73 hf
                exact k223_15 x5_20 P0_22 _ _ _ hf hP hD hS (lv_sub hl [0, 2, 4] rfl)
              · have hf := mb_if_f c_73 hf
                refine lv_iload hx hb dX12_rounds_90 (lv_at hl 5 rfl) ?_
                obtain ⟨x8_24, e_, hf⟩ := mb_let_s hf
                refine mb_topi e_ ?_
                clear e_
                refine lv_istore (lv' := [(8, .int x8_24), (0, .ref (b0 0)), (1, .int x1), (3, .int x3), (4, .int x4_7), (5, .long x5_20), (7, .int x7_21)]) hx hb dX12_rounds_92 hl (by decide) rfl (fun ls hl => ?_)
                refine lv_iload_n hx hb dX12_rounds_94 rfl (lv_at hl 2 rfl) ?_
                refine lv_iconst (v := 1) hx hb dX12_rounds_95 (by decide) ?_
                refine lv_isub hx hb dX12_rounds_96 ?_
                obtain ⟨x9_25, e_, hf⟩ := mb_let_s hf
                refine mb_topi e_ ?_
                clear e_
                refine lv_istore (lv' := [(9, .int x9_25), (8, .int x8_24), (0, .ref (b0 0)), (1, .int x1), (3, .int x3), (4, .int x4_7), (5, .long x5_20), (7, .int x7_21)]) hx hb dX12_rounds_97 hl (by decide) rfl (fun ls hl => ?_)
                obtain ⟨K138_27, eK138_27, hf⟩ := mb_jn_s hf
                have k138_28 : ∀ (P0_26 : PI) (H : Heap) (locs : List Loc) (ls : Array Slot), K138_27 P0_26 = some z → va_P D vwCl (wC_Ref k b0 P0_26 L0) H → va_D A (wC_Ref k b0 P0_26 L0) → va_S A s.heap H locs → lv_has ls 12 [(0, .ref (b0 0)), (1, .int x1), (3, .int x3), (4, .int x4_7), (5, .long x5_20), (7, .int x7_21)] → W p l e rm_Ref_rounds s m args below meth c H locs 0 0 Q (F0 m 138 ls []) := by
                  intro P0_26 H locs ls hf hP hD hS hl
                  have hf := mb_j1 eK138_27 hf
                  refine lv_aload_n hx hb dX12_rounds_138 rfl (lv_at hl 0 rfl) ?_
                  refine va_get (D := D) (ci := 12) (v := .ref (b0 40)) (C := RX12) (T := TX12) (N := 42) hx hb hts iw_Ref hown hK hP 0 rfl rfl 39 (by decide) fl_87 (fun _ h9 => h9) rfl dX12_rounds_139 ?_
                  refine lv_iload_n hx hb dX12_rounds_142 rfl (lv_at hl 1 rfl) ?_
                  refine lv_iconst (v := 1) hx hb dX12_rounds_143 (by decide) ?_
                  refine lv_isub hx hb dX12_rounds_144 ?_
                  obtain ⟨h_29, hf⟩ := mb_chk_s hf
                  refine va_iald hx hb hK hP 25 0 rfl rfl h_29 dX12_rounds_145 ?_
                  obtain ⟨J160_31, eJ160_31, hf⟩ := mb_jn_s hf
                  have j160_32 : ∀ (y_30 : Int64) (H : Heap) (locs : List Loc) (ls : Array Slot), J160_31 y_30 = some z → va_P D vwCl (wC_Ref k b0 P0_26 L0) H → va_D A (wC_Ref k b0 P0_26 L0) → va_S A s.heap H locs → lv_has ls 12 [(0, .ref (b0 0)), (1, .int x1), (3, .int x3), (4, .int x4_7), (5, .long x5_20), (7, .int x7_21)] → W p l e rm_Ref_rounds s m args below meth c H locs 0 0 Q (F0 m 160 ls [.long y_30]) := by
                    intro y_30 H locs ls hf hP hD hS hl
                    have hf := mb_j1 eJ160_31 hf
                    obtain ⟨x9_33, e_, hf⟩ := mb_let_s hf
                    refine mb_topl e_ ?_
                    clear e_
                    refine lv_lstore (lv' := [(9, .long x9_33), (0, .ref (b0 0)), (1, .int x1), (3, .int x3), (4, .int x4_7), (5, .long x5_20), (7, .int x7_21)]) hx hb dX12_rounds_160 hl (by decide) rfl (fun ls hl => ?_)
                    refine lv_lload hx hb dX12_rounds_162 (lv_at hl 0 rfl) ?_
                    refine lv_lconst (v := 0) hx hb dX12_rounds_164 (by decide) ?_
                    refine W.lcmp hx hb dX12_rounds_165 ?_
                    refine lv_if_lt (tgt := 217) hx hb dX12_rounds_166 (by decide) (fun c_56 => ?_) (fun c_56 => ?_)
                    · have hf := mb_if_t c_56 hf
                      obtain ⟨x7_34, e_, hf⟩ := mb_let_s hf
                      refine lv_iinc (v := x7_34) (lv' := [(7, .int x7_34), (9, .long x9_33), (0, .ref (b0 0)), (1, .int x1), (3, .int x3), (4, .int x4_7), (5, .long x5_20)]) hx hb dX12_rounds_217 hl (k := 6) rfl (by rw [e_]; rfl) (by decide) rfl (fun ls hl => ?_)
                      clear e_
                      refine lv_goto (tgt := 83) hx hb dX12_rounds_220 (by decide) ?_
                      exact ih_19 x5_20 x7_34 P0_26 _ _ _ hf hP hD hS (lv_sub hl [2, 3, 4, 5, 6, 0] rfl)
                    · have hf := mb_if_f c_56 hf
                      refine lv_lload hx hb dX12_rounds_169 (lv_at hl 5 rfl) ?_
                      refine lv_lconst (v := 0) hx hb dX12_rounds_171 (by decide) ?_
                      refine W.lcmp hx hb dX12_rounds_172 ?_
                      obtain ⟨J184_35, eJ184_35, hf⟩ := mb_jn_s hf
                      have j184_36 : ∀ (H : Heap) (locs : List Loc) (ls : Array Slot), J184_35 = some z → va_P D vwCl (wC_Ref k b0 P0_26 L0) H → va_D A (wC_Ref k b0 P0_26 L0) → va_S A s.heap H locs → lv_has ls 12 [(0, .ref (b0 0)), (1, .int x1), (3, .int x3), (4, .int x4_7), (7, .int x7_21), (9, .long x9_33)] → W p l e rm_Ref_rounds s m args below meth c H locs 0 0 Q (F0 m 184 ls []) := by
                        intro  H locs ls hf hP hD hS hl
                        have hf := mb_j0 eJ184_35 hf
                        refine lv_lload hx hb dX12_rounds_184 (lv_at hl 5 rfl) ?_
                        obtain ⟨x5_37, e_, hf⟩ := mb_let_s hf
                        refine mb_topl e_ ?_
                        clear e_
                        refine lv_lstore (lv' := [(5, .long x5_37), (0, .ref (b0 0)), (1, .int x1), (3, .int x3), (4, .int x4_7), (7, .int x7_21), (9, .long x9_33)]) hx hb dX12_rounds_186 hl (by decide) rfl (fun ls hl => ?_)
                        refine lv_iconst (v := 0) hx hb dX12_rounds_188 (by decide) ?_
                        obtain ⟨x11_38, e_, hf⟩ := mb_let_s hf
                        refine mb_topi e_ ?_
                        clear e_
                        refine lv_istore (lv' := [(11, .int x11_38), (5, .long x5_37), (0, .ref (b0 0)), (1, .int x1), (3, .int x3), (4, .int x4_7), (7, .int x7_21), (9, .long x9_33)]) hx hb dX12_rounds_189 hl (by decide) rfl (fun ls hl => ?_)
                        obtain ⟨K217_40, eK217_40, hf⟩ := mb_jn_s hf
                        have k217_41 : ∀ (P0_39 : PI) (H : Heap) (locs : List Loc) (ls : Array Slot), K217_40 P0_39 = some z → va_P D vwCl (wC_Ref k b0 P0_39 L0) H → va_D A (wC_Ref k b0 P0_39 L0) → va_S A s.heap H locs → lv_has ls 12 [(0, .ref (b0 0)), (1, .int x1), (3, .int x3), (4, .int x4_7), (5, .long x5_37), (7, .int x7_21)] → W p l e rm_Ref_rounds s m args below meth c H locs 0 0 Q (F0 m 217 ls []) := by
                          intro P0_39 H locs ls hf hP hD hS hl
                          have hf := mb_j1 eK217_40 hf
                          obtain ⟨x7_42, e_, hf⟩ := mb_let_s hf
                          refine lv_iinc (v := x7_42) (lv' := [(7, .int x7_42), (0, .ref (b0 0)), (1, .int x1), (3, .int x3), (4, .int x4_7), (5, .long x5_37)]) hx hb dX12_rounds_217 hl (k := 5) rfl (by rw [e_]; rfl) (by decide) rfl (fun ls hl => ?_)
                          clear e_
                          refine lv_goto (tgt := 83) hx hb dX12_rounds_220 (by decide) ?_
                          exact ih_19 x5_37 x7_42 P0_39 _ _ _ hf hP hD hS (lv_sub hl [1, 2, 3, 4, 5, 0] rfl)
                        have lp191_43 : ∀ (n : Nat) (x11_45 : Int32) (P0_46 : PI) (H : Heap) (locs : List Loc) (ls : Array Slot), f_Ref_rounds_191 K217_40 n x11_45 P0_46 = some z → va_P D vwCl (wC_Ref k b0 P0_46 L0) H → va_D A (wC_Ref k b0 P0_46 L0) → va_S A s.heap H locs → lv_has ls 12 [(0, .ref (b0 0)), (1, .int x1), (3, .int x3), (4, .int x4_7), (5, .long x5_37), (7, .int x7_21), (11, .int x11_45)] → W p l e rm_Ref_rounds s m args below meth c H locs 0 0 Q (F0 m 191 ls []) := by
                          intro n
                          induction n with
                          | zero =>
                            intro x11_45 P0_46 H locs ls hf
                            exact nomatch (show (none : Option (Int64 × PI)) = some z from hf)
                          | succ n ih_44 =>
                            intro x11_45 P0_46 H locs ls hf hP hD hS hl
                            have hf : f_Ref_rounds_191_b K217_40 (f_Ref_rounds_191 K217_40 n) x11_45 P0_46 = some z := hf
                            unfold f_Ref_rounds_191_b at hf
                            refine lv_iload hx hb dX12_rounds_191 (lv_at hl 6 rfl) ?_
                            refine lv_iconst (v := 4) hx hb dX12_rounds_193 (by decide) ?_
                            refine lv_icmp_ge (tgt := 217) hx hb dX12_rounds_194 (by decide) (fun c_52 => ?_) (fun c_52 => ?_)
                            · have hf := mb_if_t c_52 hf
                              exact k217_41 P0_46 _ _ _ hf hP hD hS (lv_sub hl [0, 1, 2, 3, 4, 5] rfl)
                            · have hf := mb_if_f c_52 hf
                              refine lv_aload_n hx hb dX12_rounds_197 rfl (lv_at hl 0 rfl) ?_
                              refine va_get (D := D) (ci := 12) (v := .ref (b0 39)) (C := RX12) (T := TX12) (N := 42) hx hb hts iw_Ref hown hK hP 0 rfl rfl 38 (by decide) fl_84 (fun _ h9 => h9) rfl dX12_rounds_198 ?_
                              refine lv_iload hx hb dX12_rounds_201 (lv_at hl 6 rfl) ?_
                              refine lv_aload_n hx hb dX12_rounds_203 rfl (lv_at hl 0 rfl) ?_
                              refine va_get (D := D) (ci := 12) (v := .ref (b0 40)) (C := RX12) (T := TX12) (N := 42) hx hb hts iw_Ref hown hK hP 0 rfl rfl 39 (by decide) fl_87 (fun _ h9 => h9) rfl dX12_rounds_204 ?_
                              refine lv_iload hx hb dX12_rounds_207 (lv_at hl 6 rfl) ?_
                              obtain ⟨h_48, hf⟩ := mb_chk_s hf
                              refine va_iald hx hb hK hP 25 0 rfl rfl h_48 dX12_rounds_209 ?_
                              obtain ⟨h_50, hf⟩ := mb_chk_s hf
                              obtain ⟨P0_49, e_, hf⟩ := mb_let_s hf
                              refine va_iast hx hb hK hP hD hS 24 0 rfl rfl h_50 dX12_rounds_210 (fun H locs hP hD hS => ?_)
                              have hP : va_P D vwCl (wC_Ref k b0 P0_49 L0) H := by rw [e_]; exact hP
                              have hD : va_D A (wC_Ref k b0 P0_49 L0) := by rw [e_]; exact hD
                              clear e_
                              obtain ⟨x11_51, e_, hf⟩ := mb_let_s hf
                              refine lv_iinc (v := x11_51) (lv' := [(11, .int x11_51), (0, .ref (b0 0)), (1, .int x1), (3, .int x3), (4, .int x4_7), (5, .long x5_37), (7, .int x7_21)]) hx hb dX12_rounds_211 hl (k := 6) rfl (by rw [e_]; rfl) (by decide) rfl (fun ls hl => ?_)
                              clear e_
                              refine lv_goto (tgt := 191) hx hb dX12_rounds_214 (by decide) ?_
                              exact ih_44 x11_51 P0_49 _ _ _ hf hP hD hS (lv_sub hl [1, 2, 3, 4, 5, 6, 0] rfl)
                        exact lp191_43 mb_fu x11_38 P0_26 _ _ _ hf hP hD hS (lv_sub hl [2, 3, 4, 5, 1, 6, 0] rfl)
                      refine lv_if_lt (tgt := 184) hx hb dX12_rounds_173 (by decide) (fun c_55 => ?_) (fun c_55 => ?_)
                      · have hf := mb_if_t c_55 hf
                        exact j184_36  _ _ _ hf hP hD hS (lv_sub hl [1, 2, 3, 4, 6, 0] rfl)
                      · have hf := mb_if_f c_55 hf
                        refine lv_lload hx hb dX12_rounds_176 (lv_at hl 0 rfl) ?_
                        refine lv_lload hx hb dX12_rounds_178 (lv_at hl 5 rfl) ?_
                        refine W.lcmp hx hb dX12_rounds_180 ?_
                        refine lv_if_ge (tgt := 217) hx hb dX12_rounds_181 (by decide) (fun c_54 => ?_) (fun c_54 => ?_)
                        · have hf := mb_if_t c_54 hf
                          obtain ⟨x7_53, e_, hf⟩ := mb_let_s hf
                          refine lv_iinc (v := x7_53) (lv' := [(7, .int x7_53), (9, .long x9_33), (0, .ref (b0 0)), (1, .int x1), (3, .int x3), (4, .int x4_7), (5, .long x5_20)]) hx hb dX12_rounds_217 hl (k := 6) rfl (by rw [e_]; rfl) (by decide) rfl (fun ls hl => ?_)
                          clear e_
                          refine lv_goto (tgt := 83) hx hb dX12_rounds_220 (by decide) ?_
                          exact ih_19 x5_20 x7_53 P0_26 _ _ _ hf hP hD hS (lv_sub hl [2, 3, 4, 5, 6, 0] rfl)
                        · have hf := mb_if_f c_54 hf
                          exact j184_36  _ _ _ hf hP hD hS (lv_sub hl [1, 2, 3, 4, 6, 0] rfl)
                  refine lv_if_ne (tgt := 157) hx hb dX12_rounds_146 (by decide) (fun c_58 => ?_) (fun c_58 => ?_)
                  · have hf := mb_if_f c_58 hf
                    refine lv_ldc2 (v := (-1)) hx hb hown lc_119 dX12_rounds_157 ?_
                    exact j160_32 (-1 : Int64) _ _ _ hf hP hD hS (lv_sub hl [0, 1, 2, 3, 4, 5] rfl)
                  · have hf := mb_if_t c_58 hf
                    refine lv_aload_n hx hb dX12_rounds_149 rfl (lv_at hl 0 rfl) ?_
                    refine lv_iload_n hx hb dX12_rounds_150 rfl (lv_at hl 1 rfl) ?_
                    obtain ⟨r_57, hz, hf⟩ := mb_bd1_s hf
                    refine gc_l (r0 := r_57) (ws' := (wC_Ref k b0 P0_26 L0)) (wr := ([] : va_W)) (va_runV (As := [.int x1]) (rest := []) ⟨hx, hb, hml, hown, hts⟩ (c_Ref_cheatedBy l D k H.size b0 P0_26 L0 x1 r_57 hz) (cwV 1 hts gX12_rounds_X12_cheatedBy rfl rfl rfl (by decide +kernel) ⟨Nat.le_of_ble_eq_true rfl, Nat.le_of_ble_eq_true rfl⟩) (gp_V (ci := 12) (q0 := 0) (q := (RX12, TX12, 42)) hP hD hK hN [0, 1, 2, 3, 4, 5, 6, 7, 8, 9, 10, 11, 12, 13, 14, 15, 16, 17, 18, 19, 20, 21, 22, 23, 24, 25] (by decide +kernel) rfl rfl rfl) rfl rfl hl.1 rfl (lv_room (Nat.le_of_ble_eq_true rfl)) dX12_rounds_151 ⟨Nat.zero_le _, Nat.zero_le _⟩) hP hD hS hA [0, 1, 2, 3, 4, 5, 6, 7, 8, 9, 10, 11, 12, 13, 14, 15, 16, 17, 18, 19, 20, 21, 22, 23, 24, 25] [] rfl rfl (by decide +kernel) (by decide +kernel) [0, 1, 2, 3, 4, 5, 6, 7, 8, 9, 10, 11, 12, 13, 14, 15, 16, 17, 18, 19, 20, 21, 22, 23, 24, 25] (by decide +kernel) rfl (fun H locs hP hD hS => ?_)
                    clear hz
                    refine lv_goto (tgt := 160) hx hb dX12_rounds_154 (by decide) ?_
                    exact j160_32 r_57 _ _ _ hf hP hD hS (lv_sub hl [0, 1, 2, 3, 4, 5] rfl)
                have lp99_59 : ∀ (n : Nat) (x8_61 : Int32) (x9_62 : Int32) (P0_63 : PI) (H : Heap) (locs : List Loc) (ls : Array Slot), f_Ref_rounds_99 K138_27 n x8_61 x9_62 P0_63 = some z → va_P D vwCl (wC_Ref k b0 P0_63 L0) H → va_D A (wC_Ref k b0 P0_63 L0) → va_S A s.heap H locs → lv_has ls 12 [(0, .ref (b0 0)), (1, .int x1), (3, .int x3), (4, .int x4_7), (5, .long x5_20), (7, .int x7_21), (8, .int x8_61), (9, .int x9_62)] → W p l e rm_Ref_rounds s m args below meth c H locs 0 0 Q (F0 m 99 ls []) := by
                  intro n
                  induction n with
                  | zero =>
                    intro x8_61 x9_62 P0_63 H locs ls hf
                    exact nomatch (show (none : Option (Int64 × PI)) = some z from hf)
                  | succ n ih_60 =>
                    intro x8_61 x9_62 P0_63 H locs ls hf hP hD hS hl
                    have hf : f_Ref_rounds_99_b K138_27 (f_Ref_rounds_99 K138_27 n) x8_61 x9_62 P0_63 = some z := hf
                    unfold f_Ref_rounds_99_b at hf
                    refine lv_iload hx hb dX12_rounds_99 (lv_at hl 7 rfl) ?_
                    refine lv_if_lt (tgt := 138) hx hb dX12_rounds_101 (by decide) (fun c_72 => ?_) (fun c_72 => ?_)
                    · have hf := mb_if_t c_72 hf
                      exact k138_28 P0_63 _ _ _ hf hP hD hS (lv_sub hl [0, 1, 2, 3, 4, 5] rfl)
                    · have hf := mb_if_f c_72 hf
                      refine lv_aload_n hx hb dX12_rounds_104 rfl (lv_at hl 0 rfl) ?_
                      refine va_get (D := D) (ci := 12) (v := .ref (b0 40)) (C := RX12) (T := TX12) (N := 42) hx hb hts iw_Ref hown hK hP 0 rfl rfl 39 (by decide) fl_87 (fun _ h9 => h9) rfl dX12_rounds_105 ?_
                      refine lv_iload hx hb dX12_rounds_108 (lv_at hl 7 rfl) ?_
                      refine lv_aload_n hx hb dX12_rounds_110 rfl (lv_at hl 0 rfl) ?_
                      refine va_get (D := D) (ci := 12) (v := .ref (b0 38)) (C := RX12) (T := TX12) (N := 42) hx hb hts iw_Ref hown hK hP 0 rfl rfl 37 (by decide) fl_81 (fun _ h9 => h9) rfl dX12_rounds_111 ?_
                      refine lv_iload hx hb dX12_rounds_114 (lv_at hl 6 rfl) ?_
                      refine lv_aload_n hx hb dX12_rounds_116 rfl (lv_at hl 0 rfl) ?_
                      refine va_get (D := D) (ci := 12) (v := .int (P0_63 0 36)) (C := RX12) (T := TX12) (N := 42) hx hb hts iw_Ref hown hK hP 0 rfl rfl 36 (by decide) fl_277 (fun _ h9 => h9) rfl dX12_rounds_117 ?_
                      obtain ⟨h_65, hf⟩ := mb_dvi_s hf
                      refine lv_irem hx hb dX12_rounds_120 h_65 ?_
                      obtain ⟨h_66, hf⟩ := mb_chk_s hf
                      refine va_iald hx hb hK hP 23 0 rfl rfl h_66 dX12_rounds_121 ?_
                      obtain ⟨h_68, hf⟩ := mb_chk_s hf
                      obtain ⟨P0_67, e_, hf⟩ := mb_let_s hf
                      refine va_iast hx hb hK hP hD hS 25 0 rfl rfl h_68 dX12_rounds_122 (fun H locs hP hD hS => ?_)
                      have hP : va_P D vwCl (wC_Ref k b0 P0_67 L0) H := by rw [e_]; exact hP
                      have hD : va_D A (wC_Ref k b0 P0_67 L0) := by rw [e_]; exact hD
                      clear e_
                      refine lv_iload hx hb dX12_rounds_123 (lv_at hl 6 rfl) ?_
                      refine lv_aload_n hx hb dX12_rounds_125 rfl (lv_at hl 0 rfl) ?_
                      refine va_get (D := D) (ci := 12) (v := .int (P0_67 0 36)) (C := RX12) (T := TX12) (N := 42) hx hb hts iw_Ref hown hK hP 0 rfl rfl 36 (by decide) fl_277 (fun _ h9 => h9) rfl dX12_rounds_126 ?_
                      obtain ⟨h_69, hf⟩ := mb_dvi_s hf
                      refine lv_idiv hx hb dX12_rounds_129 h_69 ?_
                      obtain ⟨x8_70, e_, hf⟩ := mb_let_s hf
                      refine mb_topi e_ ?_
                      clear e_
                      refine lv_istore (lv' := [(8, .int x8_70), (0, .ref (b0 0)), (1, .int x1), (3, .int x3), (4, .int x4_7), (5, .long x5_20), (7, .int x7_21), (9, .int x9_62)]) hx hb dX12_rounds_130 hl (by decide) rfl (fun ls hl => ?_)
                      obtain ⟨x9_71, e_, hf⟩ := mb_let_s hf
                      refine lv_iinc (v := x9_71) (lv' := [(9, .int x9_71), (8, .int x8_70), (0, .ref (b0 0)), (1, .int x1), (3, .int x3), (4, .int x4_7), (5, .long x5_20), (7, .int x7_21)]) hx hb dX12_rounds_132 hl (k := 7) rfl (by rw [e_]; rfl) (by decide) rfl (fun ls hl => ?_)
                      clear e_
                      refine lv_goto (tgt := 99) hx hb dX12_rounds_135 (by decide) ?_
                      exact ih_60 x8_70 x9_71 P0_67 _ _ _ hf hP hD hS (lv_sub hl [2, 3, 4, 5, 6, 7, 1, 0] rfl)
                exact lp99_59 mb_fu x8_24 x9_25 P0_22 _ _ _ hf hP hD hS (lv_sub hl [2, 3, 4, 5, 6, 7, 1, 0] rfl)
          exact lp83_18 mb_fu x5_10 x7_11 P0_4 _ _ _ hf hP hD hS (lv_sub hl [2, 3, 4, 5, 1, 0] rfl)
        have lp54_74 : ∀ (n : Nat) (x4_76 : Int32) (x5_77 : Int32) (H : Heap) (locs : List Loc) (ls : Array Slot), f_Ref_rounds_54 P0_4 x1 K75_8 n x4_76 x5_77 = some z → va_P D vwCl (wC_Ref k b0 P0_4 L0) H → va_D A (wC_Ref k b0 P0_4 L0) → va_S A s.heap H locs → lv_has ls 12 [(0, .ref (b0 0)), (1, .int x1), (3, .int x3), (4, .int x4_76), (5, .int x5_77)] → W p l e rm_Ref_rounds s m args below meth c H locs 0 0 Q (F0 m 54 ls []) := by
          intro n
          induction n with
          | zero =>
            intro x4_76 x5_77 H locs ls hf
            exact nomatch (show (none : Option (Int64 × PI)) = some z from hf)
          | succ n ih_75 =>
            intro x4_76 x5_77 H locs ls hf hP hD hS hl
            have hf : f_Ref_rounds_54_b P0_4 x1 K75_8 (f_Ref_rounds_54 P0_4 x1 K75_8 n) x4_76 x5_77 = some z := hf
            unfold f_Ref_rounds_54_b at hf
            refine lv_iload hx hb dX12_rounds_54 (lv_at hl 4 rfl) ?_
            refine lv_iload_n hx hb dX12_rounds_56 rfl (lv_at hl 1 rfl) ?_
            refine lv_icmp_ge (tgt := 75) hx hb dX12_rounds_57 (by decide) (fun c_81 => ?_) (fun c_81 => ?_)
            · have hf := mb_if_t c_81 hf
              exact k75_9 x4_76 _ _ _ hf hP hD hS (lv_sub hl [0, 1, 2, 3] rfl)
            · have hf := mb_if_f c_81 hf
              refine lv_iload hx hb dX12_rounds_60 (lv_at hl 3 rfl) ?_
              refine lv_aload_n hx hb dX12_rounds_62 rfl (lv_at hl 0 rfl) ?_
              refine va_get (D := D) (ci := 12) (v := .int (P0_4 0 36)) (C := RX12) (T := TX12) (N := 42) hx hb hts iw_Ref hown hK hP 0 rfl rfl 36 (by decide) fl_277 (fun _ h9 => h9) rfl dX12_rounds_63 ?_
              refine lv_imul hx hb dX12_rounds_66 ?_
              obtain ⟨x4_79, e_, hf⟩ := mb_let_s hf
              refine mb_topi e_ ?_
              clear e_
              refine lv_istore (lv' := [(4, .int x4_79), (0, .ref (b0 0)), (1, .int x1), (3, .int x3), (5, .int x5_77)]) hx hb dX12_rounds_67 hl (by decide) rfl (fun ls hl => ?_)
              obtain ⟨x5_80, e_, hf⟩ := mb_let_s hf
              refine lv_iinc (v := x5_80) (lv' := [(5, .int x5_80), (4, .int x4_79), (0, .ref (b0 0)), (1, .int x1), (3, .int x3)]) hx hb dX12_rounds_69 hl (k := 4) rfl (by rw [e_]; rfl) (by decide) rfl (fun ls hl => ?_)
              clear e_
              refine lv_goto (tgt := 54) hx hb dX12_rounds_72 (by decide) ?_
              exact ih_75 x4_79 x5_80 _ _ _ hf hP hD hS (lv_sub hl [2, 3, 4, 1, 0] rfl)
        exact lp54_74 mb_fu x4_5 x5_6 _ _ _ hf hP hD hS (lv_sub hl [2, 3, 5, 1, 0] rfl)
      · have hf := mb_if_t c_82 hf
        refine lv_ldc2 (v := (-1)) hx hb hown lc_119 dX12_rounds_39 ?_
        have hz := Option.some.inj hf
        subst hz
        exact hret _ _ _ _ dX12_rounds_42 hP hD hS
