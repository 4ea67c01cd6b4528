def f_Ground_reckonDoubt_15_b (P0 : PI) (K65_6 : Int32 → Int32 → Option (Int32 × PL)) (self_18 : Int32 → Int32 → Int32 → Option (Int32 × PL)) (x1_15 : Int32) (x2_16 : Int32) (x3_17 : Int32) : Option (Int32 × PL) := (if (P0 0 3) ≤ x3_17 then K65_6 x1_15 x2_16 else mb_bd1 (f_Ground_cross P0 x3_17 x1_15) (fun (r_19 : Int64) => mb_bd1 (f_Ground_cross P0 x1_15 x3_17) (fun (r_20 : Int64) => mb_jn (fun (x1_21 : Int32) => mb_bd1 (f_Ground_cross P0 x3_17 x2_16) (fun (r_24 : Int64) => mb_bd1 (f_Ground_cross P0 x2_16 x3_17) (fun (r_25 : Int64) => (if 0 ≤ (lg_cmp r_24 r_25) then mb_let (x3_17 + (1 : Int32)) (fun (x3_26 : Int32) => self_18 x1_21 x2_16 x3_26) else mb_let x3_17 (fun (x2_27 : Int32) => mb_let (x3_17 + (1 : Int32)) (fun (x3_28 : Int32) => self_18 x1_21 x2_27 x3_28)))))) (fun J41_22 => (if (lg_cmp r_19 r_20) ≤ 0 then J41_22 x1_15 else mb_let x3_17 (fun (x1_30 : Int32) => J41_22 x1_30))))))
def f_Ground_reckonDoubt_15 (P0 : PI) (K65_6 : Int32 → Int32 → Option (Int32 × PL)) : Nat → Int32 → Int32 → Int32 → Option (Int32 × PL)
  | 0, _, _, _ => none
  | n + 1, x1_15, x2_16, x3_17 => f_Ground_reckonDoubt_15_b P0 K65_6 (f_Ground_reckonDoubt_15 P0 K65_6 n) x1_15 x2_16 x3_17
def f_Ground_reckonDoubt (P0 : PI) (L0 : PL) : Option (Int32 × PL) := (if (P0 0 3) = 0 then some ((0 : Int32), L0) else mb_let (0 : Int32) (fun (x1_1 : Int32) => mb_let (0 : Int32) (fun (x2_2 : Int32) => mb_let (1 : Int32) (fun (x3_3 : Int32) => mb_jn (fun (x1_4 : Int32) (x2_5 : Int32) => mb_bd1 (f_Ground_cross P0 x1_4 x2_5) (fun (r_8 : Int64) => mb_bd1 (f_Ground_cross P0 x2_5 x1_4) (fun (r_9 : Int64) => mb_chk x1_4 12 (mb_chk x2_5 12 (mb_bd1 (f_Ground_reduce L0 (r_8 - r_9) (((P0 3 x1_4.toNatClampNeg)).toInt64 * ((P0 3 x2_5.toNatClampNeg)).toInt64)) (fun (L0_12 : PL) => some ((1 : Int32), L0_12))))))) (fun K65_6 => f_Ground_reckonDoubt_15 P0 K65_6 mb_fu x1_1 x2_2 x3_3)))))
def rm_Ground_reckonDoubt : Room := { frames := 2, cells := 0, slots := 0, locals := 56 }
set_option maxHeartbeats 4000000 in
set_option maxRecDepth 100000 in
theorem c_Ground_reckonDoubt (l : Launch) (D : va_G) (k : Nat → ClassId) (sz : Nat) (b0 : Nat → Nat) (P0 : PI) (L0 : PL) (z : Int32 × PL) (hf : f_Ground_reckonDoubt P0 L0 = some z) : Met l yX2_reckonDoubt wsX2_reckonDoubt rm_Ground_reckonDoubt (va_Pc [.ref (b0 0)] (gw_pre D vwCl (tyL k) (wC_Ground k b0 P0 L0) sz)) (va_Qi (fun (r : Int32) (_ : Unit) => r = z.1) (gw_b D vwCl (tyL k) (va_A (wC_Ground k b0 P0 L0) sz) (wC_Ground k b0 P0 z.2)) (va_A (wC_Ground k b0 P0 L0) sz)) 0 0 (va_A (wC_Ground k b0 P0 L0) sz) := by
  refine gm_z (cc := cX2_reckonDoubt) (maxL := 4) (by decide) rfl (Nat.le_of_ble_eq_true rfl) ?_
  intro p e s m args below meth c A Q ls H locs hx hb hml hown hts hK hN hA hP hD hS hl hret
  have hown : s.vm.findClass RX2 = some m.cls := hown
  have hl : lv_has ls 4 [(0, .ref (b0 0))] := hl
  have iw_Ground : ∀ w ∈ u_ws RX2 TX2 6, w ∈ wsX2_reckonDoubt := by decide +kernel
  have fl_16 := hts (.fieldLink RX2 16 "OneMeasure$Ground" "angle" "[I") (by decide +kernel)
  have fl_19 := hts (.fieldLink RX2 19 "OneMeasure$Ground" "count" "I") (by decide +kernel)
  unfold f_Ground_reckonDoubt at hf
  refine lv_aload_n hx hb dX2_reckonDoubt_0 rfl (lv_at hl 0 rfl) ?_
  refine va_get (D := D) (ci := 2) (v := .int (P0 0 3)) (C := RX2) (T := TX2) (N := 6) hx hb hts iw_Ground hown hK hP 0 rfl rfl 3 (by decide) fl_19 (fun _ h9 => h9) rfl dX2_reckonDoubt_1 ?_
  refine lv_if_ne (tgt := 9) hx hb dX2_reckonDoubt_4 (by decide) (fun c_33 => ?_) (fun c_33 => ?_)
  · have hf := mb_if_f c_33 hf
    refine lv_iconst (v := 0) hx hb dX2_reckonDoubt_9 (by decide) ?_
    obtain ⟨x1_1, e_, hf⟩ := mb_let_s hf
    refine mb_topi e_ ?_
    clear e_
    refine lv_istore_n (lv' := [(1, .int x1_1), (0, .ref (b0 0))]) hx hb dX2_reckonDoubt_10 rfl hl (by decide) rfl (fun ls hl => ?_)
    refine lv_iconst (v := 0) hx hb dX2_reckonDoubt_11 (by decide) ?_
    obtain ⟨x2_2, e_, hf⟩ := mb_let_s hf
    refine mb_topi e_ ?_
    clear e_
    refine lv_istore_n (lv' := [(2, .int x2_2), (1, .int x1_1), (0, .ref (b0 0))]) hx hb dX2_reckonDoubt_12 rfl hl (by decide) rfl (fun ls hl => ?_)
    refine lv_iconst (v := 1) hx hb dX2_reckonDoubt_13 (by decide) ?_
    obtain ⟨x3_3, e_, hf⟩ := mb_let_s hf
    refine mb_topi e_ ?_
    clear e_
    refine lv_istore_n (lv' := [(3, .int x3_3), (2, .int x2_2), (1, .int x1_1), (0, .ref (b0 0))]) hx hb dX2_reckonDoubt_14 rfl hl (by decide) rfl (fun ls hl => ?_)
    obtain ⟨K65_6, eK65_6, hf⟩ := mb_jn_s hf
    have k65_7 : ∀ (x1_4 : Int32) (x2_5 : Int32) (H : Heap) (locs : List Loc) (ls : Array Slot), K65_6 x1_4 x2_5 = some z → va_P D vwCl (wC_Ground k b0 P0 L0) H → va_D A (wC_Ground k b0 P0 L0) → va_S A s.heap H locs → lv_has ls 4 [(0, .ref (b0 0)), (1, .int x1_4), (2, .int x2_5)] → W p l e rm_Ground_reckonDoubt s m args below meth c H locs 0 0 Q (F0 m 65 ls []) := by
      intro x1_4 x2_5 H locs ls hf hP hD hS hl
      have hf := mb_j2 eK65_6 hf
      refine lv_aload_n hx hb dX2_reckonDoubt_65 rfl (lv_at hl 0 rfl) ?_
      refine lv_aload_n hx hb dX2_reckonDoubt_66 rfl (lv_at hl 0 rfl) ?_
      refine lv_iload_n hx hb dX2_reckonDoubt_67 rfl (lv_at hl 1 rfl) ?_
      refine lv_iload_n hx hb dX2_reckonDoubt_68 rfl (lv_at hl 2 rfl) ?_
      obtain ⟨r_8, hz, hf⟩ := mb_bd1_s hf
      refine gc_l (r0 := r_8) (ws' := (wC_Ground k b0 P0 L0)) (wr := ([] : va_W)) (va_runV (As := [.int x1_4, .int x2_5]) (rest := [.ref (b0 0)]) ⟨hx, hb, hml, hown, hts⟩ (c_Ground_cross l D k H.size b0 P0 L0 x1_4 x2_5 r_8 hz) (cwV 2 hts gX2_reckonDoubt_X2_cross rfl rfl rfl (by decide +kernel) ⟨Nat.le_of_ble_eq_true rfl, Nat.le_of_ble_eq_true rfl⟩) (gp_V (ci := 2) (q0 := 0) (q := (RX2, TX2, 6)) hP hD hK hN [0, 1, 2, 3] (by decide +kernel) rfl rfl rfl) rfl rfl hl.1 rfl (lv_room (Nat.le_of_ble_eq_true rfl)) dX2_reckonDoubt_69 ⟨Nat.zero_le _, Nat.zero_le _⟩) hP hD hS hA [0, 1, 2, 3] [] rfl rfl (by decide +kernel) (by decide +kernel) [0, 1, 2, 3] (by decide +kernel) rfl (fun H locs hP hD hS => ?_)
      clear hz
      refine lv_aload_n hx hb dX2_reckonDoubt_72 rfl (lv_at hl 0 rfl) ?_
      refine lv_iload_n hx hb dX2_reckonDoubt_73 rfl (lv_at hl 2 rfl) ?_
      refine lv_iload_n hx hb dX2_reckonDoubt_74 rfl (lv_at hl 1 rfl) ?_
      obtain ⟨r_9, hz, hf⟩ := mb_bd1_s hf
      refine gc_l (r0 := r_9) (ws' := (wC_Ground k b0 P0 L0)) (wr := ([] : va_W)) (va_runV (As := [.int x2_5, .int x1_4]) (rest := [.long r_8, .ref (b0 0)]) ⟨hx, hb, hml, hown, hts⟩ (c_Ground_cross l D k H.size b0 P0 L0 x2_5 x1_4 r_9 hz) (cwV 2 hts gX2_reckonDoubt_X2_cross rfl rfl rfl (by decide +kernel) ⟨Nat.le_of_ble_eq_true rfl, Nat.le_of_ble_eq_true rfl⟩) (gp_V (ci := 2) (q0 := 0) (q := (RX2, TX2, 6)) hP hD hK hN [0, 1, 2, 3] (by decide +kernel) rfl rfl rfl) rfl rfl hl.1 rfl (lv_room (Nat.le_of_ble_eq_true rfl)) dX2_reckonDoubt_75 ⟨Nat.zero_le _, Nat.zero_le _⟩) hP hD hS hA [0, 1, 2, 3] [] rfl rfl (by decide +kernel) (by decide +kernel) [0, 1, 2, 3] (by decide +kernel) rfl (fun H locs hP hD hS => ?_)
      clear hz
      refine lv_lsub hx hb dX2_reckonDoubt_78 ?_
      refine lv_aload_n hx hb dX2_reckonDoubt_79 rfl (lv_at hl 0 rfl) ?_
      refine va_get (D := D) (ci := 2) (v := .ref (b0 3)) (C := RX2) (T := TX2) (N := 6) hx hb hts iw_Ground hown hK hP 0 rfl rfl 2 (by decide) fl_16 (fun _ h9 => h9) rfl dX2_reckonDoubt_80 ?_
      refine lv_iload_n hx hb dX2_reckonDoubt_83 rfl (lv_at hl 1 rfl) ?_
      obtain ⟨h_10, hf⟩ := mb_chk_s hf
      refine va_iald hx hb hK hP 3 0 rfl rfl h_10 dX2_reckonDoubt_84 ?_
      refine lv_i2l hx hb dX2_reckonDoubt_85 rfl ?_
      refine lv_aload_n hx hb dX2_reckonDoubt_86 rfl (lv_at hl 0 rfl) ?_
      refine va_get (D := D) (ci := 2) (v := .ref (b0 3)) (C := RX2) (T := TX2) (N := 6) hx hb hts iw_Ground hown hK hP 0 rfl rfl 2 (by decide) fl_16 (fun _ h9 => h9) rfl dX2_reckonDoubt_87 ?_
      refine lv_iload_n hx hb dX2_reckonDoubt_90 rfl (lv_at hl 2 rfl) ?_
      obtain ⟨h_11, hf⟩ := mb_chk_s hf
      refine va_iald hx hb hK hP 3 0 rfl rfl h_11 dX2_reckonDoubt_91 ?_
      refine lv_i2l hx hb dX2_reckonDoubt_92 rfl ?_
      refine lv_lmul hx hb dX2_reckonDoubt_93 ?_
      obtain ⟨L0_12, hz, hf⟩ := mb_bd1_s hf
      refine gc_v (ws' := (wC_Ground k b0 P0 L0_12)) (wr := ([] : va_W)) (va_runV (As := [.long (r_8 - r_9), .long (((P0 3 x1_4.toNatClampNeg)).toInt64 * ((P0 3 x2_5.toNatClampNeg)).toInt64)]) (rest := []) ⟨hx, hb, hml, hown, hts⟩ (c_Ground_reduce l D k H.size b0 P0 L0 (r_8 - r_9) (((P0 3 x1_4.toNatClampNeg)).toInt64 * ((P0 3 x2_5.toNatClampNeg)).toInt64) L0_12 hz) (cwV 2 hts gX2_reckonDoubt_X2_reduce rfl rfl rfl (by decide +kernel) ⟨Nat.le_of_ble_eq_true rfl, Nat.le_of_ble_eq_true rfl⟩) (gp_V (ci := 2) (q0 := 0) (q := (RX2, TX2, 6)) hP hD hK hN [0, 1, 2, 3] (by decide +kernel) rfl rfl rfl) rfl rfl hl.1 rfl (lv_room (Nat.le_of_ble_eq_true rfl)) dX2_reckonDoubt_94 ⟨Nat.zero_le _, Nat.zero_le _⟩) hP hD hS hA [0, 1, 2, 3] [] rfl rfl (by decide +kernel) (by decide +kernel) [0, 1, 2, 3] (by decide +kernel) rfl (fun H locs hP hD hS => ?_)
      clear hz
      refine lv_iconst (v := 1) hx hb dX2_reckonDoubt_97 (by decide) ?_
      have hz := Option.some.inj hf
      subst hz
      exact hret _ _ _ _ mb_n1 dX2_reckonDoubt_98 hP hD hS
    have lp15_13 : ∀ (n : Nat) (x1_15 : Int32) (x2_16 : Int32) (x3_17 : Int32) (H : Heap) (locs : List Loc) (ls : Array Slot), f_Ground_reckonDoubt_15 P0 K65_6 n x1_15 x2_16 x3_17 = some z → va_P D vwCl (wC_Ground k b0 P0 L0) H → va_D A (wC_Ground k b0 P0 L0) → va_S A s.heap H locs → lv_has ls 4 [(0, .ref (b0 0)), (1, .int x1_15), (2, .int x2_16), (3, .int x3_17)] → W p l e rm_Ground_reckonDoubt s m args below meth c H locs 0 0 Q (F0 m 15 ls []) := by
      intro n
      induction n with
      | zero =>
        intro x1_15 x2_16 x3_17 H locs ls hf
        exact nomatch (show (none : Option (Int32 × PL)) = some z from hf)
      | succ n ih_14 =>
        intro x1_15 x2_16 x3_17 H locs ls hf hP hD hS hl
        have hf : f_Ground_reckonDoubt_15_b P0 K65_6 (f_Ground_reckonDoubt_15 P0 K65_6 n) x1_15 x2_16 x3_17 = some z := hf
        unfold f_Ground_reckonDoubt_15_b at hf
        refine lv_iload_n hx hb dX2_reckonDoubt_15 rfl (lv_at hl 3 rfl) ?_
        refine lv_aload_n hx hb dX2_reckonDoubt_16 rfl (lv_at hl 0 rfl) ?_
        refine va_get (D := D) (ci := 2) (v := .int (P0 0 3)) (C := RX2) (T := TX2) (N := 6) hx hb hts iw_Ground hown hK hP 0 rfl rfl 3 (by decide) fl_19 (fun _ h9 => h9) rfl dX2_reckonDoubt_17 ?_
        refine lv_icmp_ge (tgt := 65) hx hb dX2_reckonDoubt_20 (by decide) (fun c_32 => ?_) (fun c_32 => ?_)
        · have hf := mb_if_t c_32 hf
          exact k65_7 x1_15 x2_16 _ _ _ hf hP hD hS (lv_sub hl [0, 1, 2] rfl)
        · have hf := mb_if_f c_32 hf
          refine lv_aload_n hx hb dX2_reckonDoubt_23 rfl (lv_at hl 0 rfl) ?_
          refine lv_iload_n hx hb dX2_reckonDoubt_24 rfl (lv_at hl 3 rfl) ?_
          refine lv_iload_n hx hb dX2_reckonDoubt_25 rfl (lv_at hl 1 rfl) ?_
          obtain ⟨r_19, hz, hf⟩ := mb_bd1_s hf
          refine gc_l (r0 := r_19) (ws' := (wC_Ground k b0 P0 L0)) (wr := ([] : va_W)) (va_runV (As := [.int x3_17, .int x1_15]) (rest := []) ⟨hx, hb, hml, hown, hts⟩ (c_Ground_cross l D k H.size b0 P0 L0 x3_17 x1_15 r_19 hz) (cwV 2 hts gX2_reckonDoubt_X2_cross rfl rfl rfl (by decide +kernel) ⟨Nat.le_of_ble_eq_true rfl, Nat.le_of_ble_eq_true rfl⟩) (gp_V (ci := 2) (q0 := 0) (q := (RX2, TX2, 6)) hP hD hK hN [0, 1, 2, 3] (by decide +kernel) rfl rfl rfl) rfl rfl hl.1 rfl (lv_room (Nat.le_of_ble_eq_true rfl)) dX2_reckonDoubt_26 ⟨Nat.zero_le _, Nat.zero_le _⟩) hP hD hS hA [0, 1, 2, 3] [] rfl rfl (by decide +kernel) (by decide +kernel) [0, 1, 2, 3] (by decide +kernel) rfl (fun H locs hP hD hS => ?_)
          clear hz
          refine lv_aload_n hx hb dX2_reckonDoubt_29 rfl (lv_at hl 0 rfl) ?_
          refine lv_iload_n hx hb dX2_reckonDoubt_30 rfl (lv_at hl 1 rfl) ?_
          refine lv_iload_n hx hb dX2_reckonDoubt_31 rfl (lv_at hl 3 rfl) ?_
          obtain ⟨r_20, hz, hf⟩ := mb_bd1_s hf
          refine gc_l (r0 := r_20) (ws' := (wC_Ground k b0 P0 L0)) (wr := ([] : va_W)) (va_runV (As := [.int x1_15, .int x3_17]) (rest := [.long r_19]) ⟨hx, hb, hml, hown, hts⟩ (c_Ground_cross l D k H.size b0 P0 L0 x1_15 x3_17 r_20 hz) (cwV 2 hts gX2_reckonDoubt_X2_cross rfl rfl rfl (by decide +kernel) ⟨Nat.le_of_ble_eq_true rfl, Nat.le_of_ble_eq_true rfl⟩) (gp_V (ci := 2) (q0 := 0) (q := (RX2, TX2, 6)) hP hD hK hN [0, 1, 2, 3] (by decide +kernel) rfl rfl rfl) rfl rfl hl.1 rfl (lv_room (Nat.le_of_ble_eq_true rfl)) dX2_reckonDoubt_32 ⟨Nat.zero_le _, Nat.zero_le _⟩) hP hD hS hA [0, 1, 2, 3] [] rfl rfl (by decide +kernel) (by decide +kernel) [0, 1, 2, 3] (by decide +kernel) rfl (fun H locs hP hD hS => ?_)
          clear hz
          refine W.lcmp hx hb dX2_reckonDoubt_35 ?_
          obtain ⟨J41_22, eJ41_22, hf⟩ := mb_jn_s hf
          have j41_23 : ∀ (x1_21 : Int32) (H : Heap) (locs : List Loc) (ls : Array Slot), J41_22 x1_21 = some z → va_P D vwCl (wC_Ground k b0 P0 L0) H → va_D A (wC_Ground k b0 P0 L0) → va_S A s.heap H locs → lv_has ls 4 [(0, .ref (b0 0)), (1, .int x1_21), (2, .int x2_16), (3, .int x3_17)] → W p l e rm_Ground_reckonDoubt s m args below meth c H locs 0 0 Q (F0 m 41 ls []) := by
            intro x1_21 H locs ls hf hP hD hS hl
            have hf := mb_j1 eJ41_22 hf
            refine lv_aload_n hx hb dX2_reckonDoubt_41 rfl (lv_at hl 0 rfl) ?_
            refine lv_iload_n hx hb dX2_reckonDoubt_42 rfl (lv_at hl 3 rfl) ?_
            refine lv_iload_n hx hb dX2_reckonDoubt_43 rfl (lv_at hl 2 rfl) ?_
            obtain ⟨r_24, hz, hf⟩ := mb_bd1_s hf
            refine gc_l (r0 := r_24) (ws' := (wC_Ground k b0 P0 L0)) (wr := ([] : va_W)) (va_runV (As := [.int x3_17, .int x2_16]) (rest := []) ⟨hx, hb, hml, hown, hts⟩ (c_Ground_cross l D k H.size b0 P0 L0 x3_17 x2_16 r_24 hz) (cwV 2 hts gX2_reckonDoubt_X2_cross rfl rfl rfl (by decide +kernel) ⟨Nat.le_of_ble_eq_true rfl, Nat.le_of_ble_eq_true rfl⟩) (gp_V (ci := 2) (q0 := 0) (q := (RX2, TX2, 6)) hP hD hK hN [0, 1, 2, 3] (by decide +kernel) rfl rfl rfl) rfl rfl hl.1 rfl (lv_room (Nat.le_of_ble_eq_true rfl)) dX2_reckonDoubt_44 ⟨Nat.zero_le _, Nat.zero_le _⟩) hP hD hS hA [0, 1, 2, 3] [] rfl rfl (by decide +kernel) (by decide +kernel) [0, 1, 2, 3] (by decide +kernel) rfl (fun H locs hP hD hS => ?_)
            clear hz
            refine lv_aload_n hx hb dX2_reckonDoubt_47 rfl (lv_at hl 0 rfl) ?_
            refine lv_iload_n hx hb dX2_reckonDoubt_48 rfl (lv_at hl 2 rfl) ?_
            refine lv_iload_n hx hb dX2_reckonDoubt_49 rfl (lv_at hl 3 rfl) ?_
            obtain ⟨r_25, hz, hf⟩ := mb_bd1_s hf
            refine gc_l (r0 := r_25) (ws' := (wC_Ground k b0 P0 L0)) (wr := ([] : va_W)) (va_runV (As := [.int x2_16, .int x3_17]) (rest := [.long r_24]) ⟨hx, hb, hml, hown, hts⟩ (c_Ground_cross l D k H.size b0 P0 L0 x2_16 x3_17 r_25 hz) (cwV 2 hts gX2_reckonDoubt_X2_cross rfl rfl rfl (by decide +kernel) ⟨Nat.le_of_ble_eq_true rfl, Nat.le_of_ble_eq_true rfl⟩) (gp_V (ci := 2) (q0 := 0) (q := (RX2, TX2, 6)) hP hD hK hN [0, 1, 2, 3] (by decide +kernel) rfl rfl rfl) rfl rfl hl.1 rfl (lv_room (Nat.le_of_ble_eq_true rfl)) dX2_reckonDoubt_50 ⟨Nat.zero_le _, Nat.zero_le _⟩) hP hD hS hA [0, 1, 2, 3] [] rfl rfl (by decide +kernel) (by decide +kernel) [0, 1, 2, 3] (by decide +kernel) rfl (fun H locs hP hD hS => ?_)
            clear hz
            refine W.lcmp hx hb dX2_reckonDoubt_53 ?_
            refine lv_if_ge (tgt := 59) hx hb dX2_reckonDoubt_54 (by decide) (fun c_29 => ?_) (fun c_29 => ?_)
            · have hf := mb_if_t c_29 hf
              obtain ⟨x3_26, e_, hf⟩ := mb_let_s hf
              refine lv_iinc (v := x3_26) (lv' := [(3, .int x3_26), (0, .ref (b0 0)), (1, .int x1_21), (2, .int x2_16)]) hx hb dX2_reckonDoubt_59 hl (k := 3) rfl (by rw [e_]; rfl) (by decide) rfl (fun ls hl => ?_)
              clear e_
              refine lv_goto (tgt := 15) hx hb dX2_reckonDoubt_62 (by decide) ?_
              exact ih_14 x1_21 x2_16 x3_26 _ _ _ hf hP hD hS (lv_sub hl [1, 2, 3, 0] rfl)
            · have hf := mb_if_f c_29 hf
              refine lv_iload_n hx hb dX2_reckonDoubt_57 rfl (lv_at hl 3 rfl) ?_
              obtain ⟨x2_27, e_, hf⟩ := mb_let_s hf
              refine mb_topi e_ ?_
              clear e_
              refine lv_istore_n (lv' := [(2, .int x2_27), (0, .ref (b0 0)), (1, .int x1_21), (3, .int x3_17)]) hx hb dX2_reckonDoubt_58 rfl hl (by decide) rfl (fun ls hl => ?_)
              obtain ⟨x3_28, e_, hf⟩ := mb_let_s hf
              refine lv_iinc (v := x3_28) (lv' := [(3, .int x3_28), (2, .int x2_27), (0, .ref (b0 0)), (1, .int x1_21)]) hx hb dX2_reckonDoubt_59 hl (k := 3) rfl (by rw [e_]; rfl) (by decide) rfl (fun ls hl => ?_)
              clear e_
              refine lv_goto (tgt := 15) hx hb dX2_reckonDoubt_62 (by decide) ?_
              exact ih_14 x1_21 x2_27 x3_28 _ _ _ hf hP hD hS (lv_sub hl [2, 3, 1, 0] rfl)
          refine lv_if_le (tgt := 41) hx hb dX2_reckonDoubt_36 (by decide) (fun c_31 => ?_) (fun c_31 => ?_)
          · have hf := mb_if_t c_31 hf
            exact j41_23 x1_15 _ _ _ hf hP hD hS (lv_sub hl [0, 1, 2, 3] rfl)
          · have hf := mb_if_f c_31 hf
            refine lv_iload_n hx hb dX2_reckonDoubt_39 rfl (lv_at hl 3 rfl) ?_
            obtain ⟨x1_30, e_, hf⟩ := mb_let_s hf
            refine mb_topi e_ ?_
            clear e_
            refine lv_istore_n (lv' := [(1, .int x1_30), (0, .ref (b0 0)), (2, .int x2_16), (3, .int x3_17)]) hx hb dX2_reckonDoubt_40 rfl hl (by decide) rfl (fun ls hl => ?_)
            exact j41_23 x1_30 _ _ _ hf hP hD hS (lv_sub hl [1, 0, 2, 3] rfl)
    exact lp15_13 mb_fu x1_1 x2_2 x3_3 _ _ _ hf hP hD hS (lv_sub hl [3, 2, 1, 0] rfl)
  · have hf := mb_if_t c_33 hf
    refine lv_iconst (v := 0) hx hb dX2_reckonDoubt_7 (by decide) ?_
    have hz := Option.some.inj hf
    subst hz
    exact hret _ _ _ _ mb_n0 dX2_reckonDoubt_8 hP hD hS
def f_Ground_reckon_18_b (P0 : PI) (x1 : Int32) (K76_6 : Int64 → Int64 → Option (Int32 × PL)) (self_17 : Int64 → Int64 → Int32 → Option (Int32 × PL)) (x2_14 : Int64) (x4_15 : Int64) (x6_16 : Int32) : Option (Int32 × PL) := (if (P0 0 3) ≤ x6_16 then K76_6 x2_14 x4_15 else mb_jn (mb_chk x6_16 12 (mb_let (x2_14 + ((P0 2 x6_16.toNatClampNeg)).toInt64) (fun (x2_21 : Int64) => mb_chk x6_16 12 (mb_let (x4_15 + ((P0 3 x6_16.toNatClampNeg)).toInt64) (fun (x4_23 : Int64) => mb_let (x6_16 + (1 : Int32)) (fun (x6_24 : Int32) => self_17 x2_21 x4_23 x6_24)))))) (fun J46_18 => (if (2 : Int32) ≤ x1 then J46_18 else mb_chk x6_16 12 ((if (P0 1 x6_16.toNatClampNeg) = x1 then J46_18 else mb_let (x6_16 + (1 : Int32)) (fun (x6_26 : Int32) => self_17 x2_14 x4_15 x6_26))))))
def f_Ground_reckon_18 (P0 : PI) (x1 : Int32) (K76_6 : Int64 → Int64 → Option (Int32 × PL)) : Nat → Int64 → Int64 → Int32 → Option (Int32 × PL)
  | 0, _, _, _ => none
  | n + 1, x2_14, x4_15, x6_16 => f_Ground_reckon_18_b P0 x1 K76_6 (f_Ground_reckon_18 P0 x1 K76_6 n) x2_14 x4_15 x6_16
def f_Ground_reckon (P0 : PI) (L0 : PL) (x1 : Int32) : Option (Int32 × PL) := (if x1 = (4 : Int32) then mb_bd2 (f_Ground_reckonDoubt P0 L0) (fun (r_30 : Int32) (L0_31 : PL) => mb_z r_30 (some (r_30, L0_31))) else mb_let (0 : Int64) (fun (x2_1 : Int64) => mb_let (0 : Int64) (fun (x4_2 : Int64) => mb_let (0 : Int32) (fun (x6_3 : Int32) => mb_jn (fun (x2_4 : Int64) (x4_5 : Int64) => (if (lg_cmp x4_5 (0 : Int64)) = 0 then some ((0 : Int32), L0) else (if x1 = (3 : Int32) then mb_bd1 (f_Ground_reduce L0 x2_4 (x4_5 * (1000 : Int64))) (fun (L0_9 : PL) => some ((1 : Int32), L0_9)) else mb_bd1 (f_Ground_reduce L0 (x2_4 * (40000 : Int64)) x4_5) (fun (L0_8 : PL) => some ((1 : Int32), L0_8))))) (fun K76_6 => f_Ground_reckon_18 P0 x1 K76_6 mb_fu x2_1 x4_2 x6_3)))))
def rm_Ground_reckon : Room := { frames := 3, cells := 0, slots := 0, locals := 79 }
set_option maxHeartbeats 4000000 in
set_option maxRecDepth 100000 in
theorem c_Ground_reckon (l : Launch) (D : va_G) (k : Nat → ClassId) (sz : Nat) (b0 : Nat → Nat) (P0 : PI) (L0 : PL) (x1 : Int32) (z : Int32 × PL) (hf : f_Ground_reckon P0 L0 x1 = some z) : Met l yX2_reckon wsX2_reckon rm_Ground_reckon (va_Pc [.ref (b0 0), .int x1] (gw_pre D vwCl (tyL k) (wC_Ground k b0 P0 L0) sz)) (va_Qi (fun (r : Int32) (_ : Unit) => r = z.1) (gw_b D vwCl (tyL k) (va_A (wC_Ground k b0 P0 L0) sz) (wC_Ground k b0 P0 z.2)) (va_A (wC_Ground k b0 P0 L0) sz)) 0 0 (va_A (wC_Ground k b0 P0 L0) sz) := by
  refine gm_z (cc := cX2_reckon) (maxL := 7) (by decide) rfl (Nat.le_of_ble_eq_true rfl) ?_
  intro p e s m args below meth c A Q ls H locs hx hb hml hown hts hK hN hA hP hD hS hl hret
  have hown : s.vm.findClass RX2 = some m.cls := hown
  have hl : lv_has ls 7 [(0, .ref (b0 0)), (1, .int x1)] := hl
  have iw_Ground : ∀ w ∈ u_ws RX2 TX2 6, w ∈ wsX2_reckon := by decide +kernel
  have fl_9 := hts (.fieldLink RX2 9 "OneMeasure$Ground" "party" "[I") (by decide +kernel)
  have fl_13 := hts (.fieldLink RX2 13 "OneMeasure$Ground" "yards" "[I") (by decide +kernel)
  have fl_16 := hts (.fieldLink RX2 16 "OneMeasure$Ground" "angle" "[I") (by decide +kernel)
  have fl_19 := hts (.fieldLink RX2 19 "OneMeasure$Ground" "count" "I") (by decide +kernel)
  have lc_34 := hts (.constantLong RX2 34 (1000)) (by decide +kernel)
  have lc_40 := hts (.constantLong RX2 40 (40000)) (by decide +kernel)
  unfold f_Ground_reckon at hf
  refine lv_iload_n hx hb dX2_reckon_0 rfl (lv_at hl 1 rfl) ?_
  refine lv_iconst (v := 4) hx hb dX2_reckon_1 (by decide) ?_
  refine lv_icmp_ne (tgt := 10) hx hb dX2_reckon_2 (by decide) (fun c_33 => ?_) (fun c_33 => ?_)
  · have hf := mb_if_f c_33 hf
    refine lv_lconst (v := 0) hx hb dX2_reckon_10 (by decide) ?_
    obtain ⟨x2_1, e_, hf⟩ := mb_let_s hf
    refine mb_topl e_ ?_
    clear e_
    refine lv_lstore_n (lv' := [(2, .long x2_1), (0, .ref (b0 0)), (1, .int x1)]) hx hb dX2_reckon_11 rfl hl (by decide) rfl (fun ls hl => ?_)
    refine lv_lconst (v := 0) hx hb dX2_reckon_12 (by decide) ?_
    obtain ⟨x4_2, e_, hf⟩ := mb_let_s hf
    refine mb_topl e_ ?_
    clear e_
    refine lv_lstore (lv' := [(4, .long x4_2), (2, .long x2_1), (0, .ref (b0 0)), (1, .int x1)]) hx hb dX2_reckon_13 hl (by decide) rfl (fun ls hl => ?_)
    refine lv_iconst (v := 0) hx hb dX2_reckon_15 (by decide) ?_
    obtain ⟨x6_3, e_, hf⟩ := mb_let_s hf
    refine mb_topi e_ ?_
    clear e_
    refine lv_istore (lv' := [(6, .int x6_3), (4, .long x4_2), (2, .long x2_1), (0, .ref (b0 0)), (1, .int x1)]) hx hb dX2_reckon_16 hl (by decide) rfl (fun ls hl => ?_)
    obtain ⟨K76_6, eK76_6, hf⟩ := mb_jn_s hf
    have k76_7 : ∀ (x2_4 : Int64) (x4_5 : Int64) (H : Heap) (locs : List Loc) (ls : Array Slot), K76_6 x2_4 x4_5 = some z → va_P D vwCl (wC_Ground k b0 P0 L0) H → va_D A (wC_Ground k b0 P0 L0) → va_S A s.heap H locs → lv_has ls 7 [(0, .ref (b0 0)), (1, .int x1), (2, .long x2_4), (4, .long x4_5)] → W p l e rm_Ground_reckon s m args below meth c H locs 0 0 Q (F0 m 76 ls []) := by
      intro x2_4 x4_5 H locs ls hf hP hD hS hl
      have hf := mb_j2 eK76_6 hf
      refine lv_lload hx hb dX2_reckon_76 (lv_at hl 3 rfl) ?_
      refine lv_lconst (v := 0) hx hb dX2_reckon_78 (by decide) ?_
      refine W.lcmp hx hb dX2_reckon_79 ?_
      refine lv_if_ne (tgt := 85) hx hb dX2_reckon_80 (by decide) (fun c_11 => ?_) (fun c_11 => ?_)
      · have hf := mb_if_f c_11 hf
        refine lv_iload_n hx hb dX2_reckon_85 rfl (lv_at hl 1 rfl) ?_
        refine lv_iconst (v := 3) hx hb dX2_reckon_86 (by decide) ?_
        refine lv_icmp_ne (tgt := 104) hx hb dX2_reckon_87 (by decide) (fun c_10 => ?_) (fun c_10 => ?_)
        · have hf := mb_if_f c_10 hf
          refine lv_aload_n hx hb dX2_reckon_104 rfl (lv_at hl 0 rfl) ?_
          refine lv_lload_n hx hb dX2_reckon_105 rfl (lv_at hl 2 rfl) ?_
          refine lv_ldc2 (v := (40000)) hx hb hown lc_40 dX2_reckon_106 ?_
          refine lv_lmul hx hb dX2_reckon_109 ?_
          refine lv_lload hx hb dX2_reckon_110 (lv_at hl 3 rfl) ?_
          obtain ⟨L0_8, hz, hf⟩ := mb_bd1_s hf
          refine gc_v (ws' := (wC_Ground k b0 P0 L0_8)) (wr := ([] : va_W)) (va_runV (As := [.long (x2_4 * (40000 : Int64)), .long x4_5]) (rest := []) ⟨hx, hb, hml, hown, hts⟩ (c_Ground_reduce l D k H.size b0 P0 L0 (x2_4 * (40000 : Int64)) x4_5 L0_8 hz) (cwV 2 hts gX2_reckon_X2_reduce rfl rfl rfl (by decide +kernel) ⟨Nat.le_of_ble_eq_true rfl, Nat.le_of_ble_eq_true rfl⟩) (gp_V (ci := 2) (q0 := 0) (q := (RX2, TX2, 6)) hP hD hK hN [0, 1, 2, 3] (by decide +kernel) rfl rfl rfl) rfl rfl hl.1 rfl (lv_room (Nat.le_of_ble_eq_true rfl)) dX2_reckon_112 ⟨Nat.zero_le _, Nat.zero_le _⟩) hP hD hS hA [0, 1, 2, 3] [] rfl rfl (by decide +kernel) (by decide +kernel) [0, 1, 2, 3] (by decide +kernel) rfl (fun H locs hP hD hS => ?_)
          clear hz
          refine lv_iconst (v := 1) hx hb dX2_reckon_115 (by decide) ?_
          have hz := Option.some.inj hf
          subst hz
          exact hret _ _ _ _ mb_n1 dX2_reckon_116 hP hD hS
        · have hf := mb_if_t c_10 hf
          refine lv_aload_n hx hb dX2_reckon_90 rfl (lv_at hl 0 rfl) ?_
          refine lv_lload_n hx hb dX2_reckon_91 rfl (lv_at hl 2 rfl) ?_
          refine lv_lload hx hb dX2_reckon_92 (lv_at hl 3 rfl) ?_
          refine lv_ldc2 (v := (1000)) hx hb hown lc_34 dX2_reckon_94 ?_
          refine lv_lmul hx hb dX2_reckon_97 ?_
          obtain ⟨L0_9, hz, hf⟩ := mb_bd1_s hf
          refine gc_v (ws' := (wC_Ground k b0 P0 L0_9)) (wr := ([] : va_W)) (va_runV (As := [.long x2_4, .long (x4_5 * (1000 : Int64))]) (rest := []) ⟨hx, hb, hml, hown, hts⟩ (c_Ground_reduce l D k H.size b0 P0 L0 x2_4 (x4_5 * (1000 : Int64)) L0_9 hz) (cwV 2 hts gX2_reckon_X2_reduce rfl rfl rfl (by decide +kernel) ⟨Nat.le_of_ble_eq_true rfl, Nat.le_of_ble_eq_true rfl⟩) (gp_V (ci := 2) (q0 := 0) (q := (RX2, TX2, 6)) hP hD hK hN [0, 1, 2, 3] (by decide +kernel) rfl rfl rfl) rfl rfl hl.1 rfl (lv_room (Nat.le_of_ble_eq_true rfl)) dX2_reckon_98 ⟨Nat.zero_le _, Nat.zero_le _⟩) hP hD hS hA [0, 1, 2, 3] [] rfl rfl (by decide +kernel) (by decide +kernel) [0, 1, 2, 3] (by decide +kernel) rfl (fun H locs hP hD hS => ?_)
          clear hz
          refine lv_goto (tgt := 115) hx hb dX2_reckon_101 (by decide) ?_
          refine lv_iconst (v := 1) hx hb dX2_reckon_115 (by decide) ?_
          have hz := Option.some.inj hf
          subst hz
          exact hret _ _ _ _ mb_n1 dX2_reckon_116 hP hD hS
      · have hf := mb_if_t c_11 hf
        refine lv_iconst (v := 0) hx hb dX2_reckon_83 (by decide) ?_
        have hz := Option.some.inj hf
        subst hz
        exact hret _ _ _ _ mb_n0 dX2_reckon_84 hP hD hS
    have lp18_12 : ∀ (n : Nat) (x2_14 : Int64) (x4_15 : Int64) (x6_16 : Int32) (H : Heap) (locs : List Loc) (ls : Array Slot), f_Ground_reckon_18 P0 x1 K76_6 n x2_14 x4_15 x6_16 = some z → va_P D vwCl (wC_Ground k b0 P0 L0) H → va_D A (wC_Ground k b0 P0 L0) → va_S A s.heap H locs → lv_has ls 7 [(0, .ref (b0 0)), (1, .int x1), (2, .long x2_14), (4, .long x4_15), (6, .int x6_16)] → W p l e rm_Ground_reckon s m args below meth c H locs 0 0 Q (F0 m 18 ls []) := by
      intro n
      induction n with
      | zero =>
        intro x2_14 x4_15 x6_16 H locs ls hf
        exact nomatch (show (none : Option (Int32 × PL)) = some z from hf)
      | succ n ih_13 =>
        intro x2_14 x4_15 x6_16 H locs ls hf hP hD hS hl
        have hf : f_Ground_reckon_18_b P0 x1 K76_6 (f_Ground_reckon_18 P0 x1 K76_6 n) x2_14 x4_15 x6_16 = some z := hf
        unfold f_Ground_reckon_18_b at hf
        refine lv_iload hx hb dX2_reckon_18 (lv_at hl 4 rfl) ?_
        refine lv_aload_n hx hb dX2_reckon_20 rfl (lv_at hl 0 rfl) ?_
        refine va_get (D := D) (ci := 2) (v := .int (P0 0 3)) (C := RX2) (T := TX2) (N := 6) hx hb hts iw_Ground hown hK hP 0 rfl rfl 3 (by decide) fl_19 (fun _ h9 => h9) rfl dX2_reckon_21 ?_
        refine lv_icmp_ge (tgt := 76) hx hb dX2_reckon_24 (by decide) (fun c_29 => ?_) (fun c_29 => ?_)
        · have hf := mb_if_t c_29 hf
          exact k76_7 x2_14 x4_15 _ _ _ hf hP hD hS (lv_sub hl [0, 1, 2, 3] rfl)
        · have hf := mb_if_f c_29 hf
          refine lv_iload_n hx hb dX2_reckon_27 rfl (lv_at hl 1 rfl) ?_
          refine lv_iconst (v := 2) hx hb dX2_reckon_28 (by decide) ?_
          obtain ⟨J46_18, eJ46_18, hf⟩ := mb_jn_s hf
          have j46_19 : ∀ (H : Heap) (locs : List Loc) (ls : Array Slot), J46_18 = some z → va_P D vwCl (wC_Ground k b0 P0 L0) H → va_D A (wC_Ground k b0 P0 L0) → va_S A s.heap H locs → lv_has ls 7 [(0, .ref (b0 0)), (1, .int x1), (2, .long x2_14), (4, .long x4_15), (6, .int x6_16)] → W p l e rm_Ground_reckon s m args below meth c H locs 0 0 Q (F0 m 46 ls []) := by
            intro  H locs ls hf hP hD hS hl
            have hf := mb_j0 eJ46_18 hf
            refine lv_lload_n hx hb dX2_reckon_46 rfl (lv_at hl 2 rfl) ?_
            refine lv_aload_n hx hb dX2_reckon_47 rfl (lv_at hl 0 rfl) ?_
            refine va_get (D := D) (ci := 2) (v := .ref (b0 2)) (C := RX2) (T := TX2) (N := 6) hx hb hts iw_Ground hown hK hP 0 rfl rfl 1 (by decide) fl_13 (fun _ h9 => h9) rfl dX2_reckon_48 ?_
            refine lv_iload hx hb dX2_reckon_51 (lv_at hl 4 rfl) ?_
            obtain ⟨h_20, hf⟩ := mb_chk_s hf
            refine va_iald hx hb hK hP 2 0 rfl rfl h_20 dX2_reckon_53 ?_
            refine lv_i2l hx hb dX2_reckon_54 rfl ?_
            refine lv_ladd hx hb dX2_reckon_55 ?_
            obtain ⟨x2_21, e_, hf⟩ := mb_let_s hf
            refine mb_topl e_ ?_
            clear e_
            refine lv_lstore_n (lv' := [(2, .long x2_21), (0, .ref (b0 0)), (1, .int x1), (4, .long x4_15), (6, .int x6_16)]) hx hb dX2_reckon_56 rfl hl (by decide) rfl (fun ls hl => ?_)
            refine lv_lload hx hb dX2_reckon_57 (lv_at hl 3 rfl) ?_
            refine lv_aload_n hx hb dX2_reckon_59 rfl (lv_at hl 1 rfl) ?_
            refine va_get (D := D) (ci := 2) (v := .ref (b0 3)) (C := RX2) (T := TX2) (N := 6) hx hb hts iw_Ground hown hK hP 0 rfl rfl 2 (by decide) fl_16 (fun _ h9 => h9) rfl dX2_reckon_60 ?_
            refine lv_iload hx hb dX2_reckon_63 (lv_at hl 4 rfl) ?_
            obtain ⟨h_22, hf⟩ := mb_chk_s hf
            refine va_iald hx hb hK hP 3 0 rfl rfl h_22 dX2_reckon_65 ?_
            refine lv_i2l hx hb dX2_reckon_66 rfl ?_
            refine lv_ladd hx hb dX2_reckon_67 ?_
            obtain ⟨x4_23, e_, hf⟩ := mb_let_s hf
            refine mb_topl e_ ?_
            clear e_
            refine lv_lstore (lv' := [(4, .long x4_23), (2, .long x2_21), (0, .ref (b0 0)), (1, .int x1), (6, .int x6_16)]) hx hb dX2_reckon_68 hl (by decide) rfl (fun ls hl => ?_)
            obtain ⟨x6_24, e_, hf⟩ := mb_let_s hf
            refine lv_iinc (v := x6_24) (lv' := [(6, .int x6_24), (4, .long x4_23), (2, .long x2_21), (0, .ref (b0 0)), (1, .int x1)]) hx hb dX2_reckon_70 hl (k := 4) rfl (by rw [e_]; rfl) (by decide) rfl (fun ls hl => ?_)
            clear e_
            refine lv_goto (tgt := 18) hx hb dX2_reckon_73 (by decide) ?_
            exact ih_13 x2_21 x4_23 x6_24 _ _ _ hf hP hD hS (lv_sub hl [3, 4, 2, 1, 0] rfl)
          refine lv_icmp_ge (tgt := 46) hx hb dX2_reckon_29 (by decide) (fun c_28 => ?_) (fun c_28 => ?_)
          · have hf := mb_if_t c_28 hf
            exact j46_19  _ _ _ hf hP hD hS (lv_sub hl [0, 1, 2, 3, 4] rfl)
          · have hf := mb_if_f c_28 hf
            refine lv_aload_n hx hb dX2_reckon_32 rfl (lv_at hl 0 rfl) ?_
            refine va_get (D := D) (ci := 2) (v := .ref (b0 1)) (C := RX2) (T := TX2) (N := 6) hx hb hts iw_Ground hown hK hP 0 rfl rfl 0 (by decide) fl_9 (fun _ h9 => h9) rfl dX2_reckon_33 ?_
            refine lv_iload hx hb dX2_reckon_36 (lv_at hl 4 rfl) ?_
            obtain ⟨h_25, hf⟩ := mb_chk_s hf
            refine va_iald hx hb hK hP 1 0 rfl rfl h_25 dX2_reckon_38 ?_
            refine lv_iload_n hx hb dX2_reckon_39 rfl (lv_at hl 1 rfl) ?_
            refine lv_icmp_eq (tgt := 46) hx hb dX2_reckon_40 (by decide) (fun c_27 => ?_) (fun c_27 => ?_)
            · have hf := mb_if_t c_27 hf
              exact j46_19  _ _ _ hf hP hD hS (lv_sub hl [0, 1, 2, 3, 4] rfl)
            · have hf := mb_if_f c_27 hf
              refine lv_goto (tgt := 70) hx hb dX2_reckon_43 (by decide) ?_
              obtain ⟨x6_26, e_, hf⟩ := mb_let_s hf
              refine lv_iinc (v := x6_26) (lv' := [(6, .int x6_26), (0, .ref (b0 0)), (1, .int x1), (2, .long x2_14), (4, .long x4_15)]) hx hb dX2_reckon_70 hl (k := 4) rfl (by rw [e_]; rfl) (by decide) rfl (fun ls hl => ?_)
              clear e_
              refine lv_goto (tgt := 18) hx hb dX2_reckon_73 (by decide) ?_
              exact ih_13 x2_14 x4_15 x6_26 _ _ _ hf hP hD hS (lv_sub hl [1, 2, 3, 4, 0] rfl)
    exact lp18_12 mb_fu x2_1 x4_2 x6_3 _ _ _ hf hP hD hS (lv_sub hl [3, 4, 2, 1, 0] rfl)
  · have hf := mb_if_t c_33 hf
    refine lv_aload_n hx hb dX2_reckon_5 rfl (lv_at hl 0 rfl) ?_
    obtain ⟨r_30, L0_31, hz, hf⟩ := mb_bd2_s hf
    refine gc_i (r0 := r_30) (ws' := (wC_Ground k b0 P0 L0_31)) (wr := ([] : va_W)) (va_runV (As := []) (rest := []) ⟨hx, hb, hml, hown, hts⟩ (c_Ground_reckonDoubt l D k H.size b0 P0 L0 (r_30, L0_31) hz) (cwV 0 hts gX2_reckon_X2_reckonDoubt rfl rfl rfl (by decide +kernel) ⟨Nat.le_of_ble_eq_true rfl, Nat.le_of_ble_eq_true rfl⟩) (gp_V (ci := 2) (q0 := 0) (q := (RX2, TX2, 6)) hP hD hK hN [0, 1, 2, 3] (by decide +kernel) rfl rfl rfl) rfl rfl hl.1 rfl (lv_room (Nat.le_of_ble_eq_true rfl)) dX2_reckon_6 ⟨Nat.zero_le _, Nat.zero_le _⟩) hP hD hS hA [0, 1, 2, 3] [] rfl rfl (by decide +kernel) (by decide +kernel) [0, 1, 2, 3] (by decide +kernel) rfl (fun H locs hP hD hS => ?_)
    clear hz
    obtain ⟨h_32, hf⟩ := mb_z_s hf
    have hz := Option.some.inj hf
    subst hz
    exact hret _ _ _ _ h_32 dX2_reckon_9 hP hD hS
def f_One_earth (P1 : PI) (L1 : PL) (x1 : Int32) (x2 : Int32) : Option (Int64 × PL) := mb_bd1 (f_One_within x1 (0 : Int32) (4 : Int32)) (fun (r_1 : Int32) => (if r_1 = 0 then some ((-1 : Int64), L1) else mb_bd1 (f_One_within x2 (0 : Int32) (1 : Int32)) (fun (r_2 : Int32) => (if r_2 = 0 then some ((-1 : Int64), L1) else mb_bd2 (f_Ground_reckon P1 L1 x1) (fun (r_3 : Int32) (L1_4 : PL) => (if r_3 = 0 then some ((-4 : Int64), L1_4) else (if x2 = 0 then some ((L1_4 0 4), L1_4) else some ((L1_4 0 5), L1_4))))))))
def rm_One_earth : Room := { frames := 4, cells := 0, slots := 0, locals := 105 }
set_option maxHeartbeats 4000000 in
set_option maxRecDepth 100000 in
theorem c_One_earth (l : Launch) (D : va_G) (k : Nat → ClassId) (sz : Nat) (a0 : Nat → Nat → Nat) (P0 : PI) (P1 : PI) (L1 : PL) (x1 : Int32) (x2 : Int32) (z : Int64 × PL) (hf : f_One_earth P1 L1 x1 x2 = some z) : Met l yX11_earth wsX11_earth rm_One_earth (va_Pc [.ref (a0 0 0), .int x1, .int x2] (gw_pre D vwCl (tyL k) (wC_One k a0 P0 ++ (wC_Ground k (a0 4) P1 L1)) sz)) (va_Ql (fun (r : Int64) (_ : Unit) => r = z.1) (gw_b D vwCl (tyL k) (va_A (wC_One k a0 P0 ++ (wC_Ground k (a0 4) P1 L1)) sz) (wC_One k a0 P0 ++ (wC_Ground k (a0 4) P1 z.2))) (va_A (wC_One k a0 P0 ++ (wC_Ground k (a0 4) P1 L1)) sz)) 0 0 (va_A (wC_One k a0 P0 ++ (wC_Ground k (a0 4) P1 L1)) sz) := by
  refine gm_l (cc := cX11_earth) (maxL := 3) (by decide) rfl (Nat.le_of_ble_eq_true rfl) ?_
  intro p e s m args below meth c A Q ls H locs hx hb hml hown hts hK hN hA hP hD hS hl hret
  have hown : s.vm.findClass RX11 = some m.cls := hown
  have hl : lv_has ls 3 [(0, .ref (a0 0 0)), (1, .int x1), (2, .int x2)] := hl
  have iw_One : ∀ w ∈ u_ws RX11 TX11 16, w ∈ wsX11_earth := by decide +kernel
  have iw_Ground : ∀ w ∈ u_ws RX2 TX2 6, w ∈ wsX11_earth := by decide +kernel
  have fl_33 := hts (.fieldLink RX11 33 "OneMeasure" "ground" "LOneMeasure$Ground;") (by decide +kernel)
  have fl_169 := hts (.fieldLink RX11 169 "OneMeasure$Ground" "above" "J") (by decide +kernel)
  have fl_172 := hts (.fieldLink RX11 172 "OneMeasure$Ground" "below" "J") (by decide +kernel)
  have lc_133 := hts (.constantLong RX11 133 (-1)) (by decide +kernel)
  have lc_155 := hts (.constantLong RX11 155 (-4)) (by decide +kernel)
  unfold f_One_earth at hf
  refine lv_iload_n hx hb dX11_earth_0 rfl (lv_at hl 1 rfl) ?_
  refine lv_iconst (v := 0) hx hb dX11_earth_1 (by decide) ?_
  refine lv_iconst (v := 4) hx hb dX11_earth_2 (by decide) ?_
  obtain ⟨r_1, hz, hf⟩ := mb_bd1_s hf
  refine gc_i (r0 := r_1) (ws' := (wC_One k a0 P0 ++ (wC_Ground k (a0 4) P1 L1))) (wr := (wC_One k a0 P0 ++ (wC_Ground k (a0 4) P1 L1))) (va_runS (As := [.int x1, .int (0 : Int32), .int (4 : Int32)]) (rest := []) ⟨hx, hb, hml, hown, hts⟩ (c_One_within l D k H.size x1 (0 : Int32) (4 : Int32) r_1 hz) (cwS 3 hts gX11_earth_X11_within rfl rfl rfl (by decide +kernel) ⟨Nat.le_of_ble_eq_true rfl, Nat.le_of_ble_eq_true rfl⟩) (gp_S hP hD hK hN [] (by decide +kernel) rfl) rfl rfl hl.1 rfl (lv_room (Nat.le_of_ble_eq_true rfl)) dX11_earth_3 ⟨Nat.zero_le _, Nat.zero_le _⟩) hP hD hS hA [] [0, 1, 2, 3, 4, 5, 6, 7] rfl rfl (by decide +kernel) (by decide +kernel) [0, 1, 2, 3, 4, 5, 6, 7] (by decide +kernel) rfl (fun H locs hP hD hS => ?_)
  clear hz
  refine lv_if_eq (tgt := 18) hx hb dX11_earth_6 (by decide) (fun c_8 => ?_) (fun c_8 => ?_)
  · have hf := mb_if_t c_8 hf
    refine lv_ldc2 (v := (-1)) hx hb hown lc_133 dX11_earth_18 ?_
    have hz := Option.some.inj hf
    subst hz
    exact hret _ _ _ _ dX11_earth_21 hP hD hS
  · have hf := mb_if_f c_8 hf
    refine lv_iload_n hx hb dX11_earth_9 rfl (lv_at hl 2 rfl) ?_
    refine lv_iconst (v := 0) hx hb dX11_earth_10 (by decide) ?_
    refine lv_iconst (v := 1) hx hb dX11_earth_11 (by decide) ?_
    obtain ⟨r_2, hz, hf⟩ := mb_bd1_s hf
    refine gc_i (r0 := r_2) (ws' := (wC_One k a0 P0 ++ (wC_Ground k (a0 4) P1 L1))) (wr := (wC_One k a0 P0 ++ (wC_Ground k (a0 4) P1 L1))) (va_runS (As := [.int x2, .int (0 : Int32), .int (1 : Int32)]) (rest := []) ⟨hx, hb, hml, hown, hts⟩ (c_One_within l D k H.size x2 (0 : Int32) (1 : Int32) r_2 hz) (cwS 3 hts gX11_earth_X11_within rfl rfl rfl (by decide +kernel) ⟨Nat.le_of_ble_eq_true rfl, Nat.le_of_ble_eq_true rfl⟩) (gp_S hP hD hK hN [] (by decide +kernel) rfl) rfl rfl hl.1 rfl (lv_room (Nat.le_of_ble_eq_true rfl)) dX11_earth_12 ⟨Nat.zero_le _, Nat.zero_le _⟩) hP hD hS hA [] [0, 1, 2, 3, 4, 5, 6, 7] rfl rfl (by decide +kernel) (by decide +kernel) [0, 1, 2, 3, 4, 5, 6, 7] (by decide +kernel) rfl (fun H locs hP hD hS => ?_)
    clear hz
    refine lv_if_ne (tgt := 22) hx hb dX11_earth_15 (by decide) (fun c_7 => ?_) (fun c_7 => ?_)
    · have hf := mb_if_f c_7 hf
      refine lv_aload_n hx hb dX11_earth_22 rfl (lv_at hl 0 rfl) ?_
      refine va_get (D := D) (ci := 11) (v := .ref (a0 4 0)) (C := RX11) (T := TX11) (N := 16) hx hb hts iw_One hown hK hP 0 rfl rfl 3 (by decide) fl_33 (fun _ h9 => h9) rfl dX11_earth_23 ?_
      refine lv_iload_n hx hb dX11_earth_26 rfl (lv_at hl 1 rfl) ?_
      obtain ⟨r_3, L1_4, hz, hf⟩ := mb_bd2_s hf
      refine gc_i (r0 := r_3) (ws' := (wC_One k a0 P0 ++ (wC_Ground k (a0 4) P1 L1_4))) (wr := (wC_One k a0 P0)) (va_runV (As := [.int x1]) (rest := []) ⟨hx, hb, hml, hown, hts⟩ (c_Ground_reckon l D k H.size (a0 4) P1 L1 x1 (r_3, L1_4) hz) (cwV 1 hts gX11_earth_X2_reckon rfl rfl rfl (by decide +kernel) ⟨Nat.le_of_ble_eq_true rfl, Nat.le_of_ble_eq_true rfl⟩) (gp_V (ci := 2) (q0 := 0) (q := (RX2, TX2, 6)) hP hD hK hN [4, 5, 6, 7] (by decide +kernel) rfl rfl rfl) rfl rfl hl.1 rfl (lv_room (Nat.le_of_ble_eq_true rfl)) dX11_earth_27 ⟨Nat.zero_le _, Nat.zero_le _⟩) hP hD hS hA [4, 5, 6, 7] [0, 1, 2, 3] rfl rfl (by decide +kernel) (by decide +kernel) [0, 1, 2, 3, 4, 5, 6, 7] (by decide +kernel) rfl (fun H locs hP hD hS => ?_)
      clear hz
      refine lv_if_ne (tgt := 37) hx hb dX11_earth_30 (by decide) (fun c_6 => ?_) (fun c_6 => ?_)
      · have hf := mb_if_f c_6 hf
        refine lv_iload_n hx hb dX11_earth_37 rfl (lv_at hl 2 rfl) ?_
        refine lv_if_ne (tgt := 51) hx hb dX11_earth_38 (by decide) (fun c_5 => ?_) (fun c_5 => ?_)
        · have hf := mb_if_f c_5 hf
          refine lv_aload_n hx hb dX11_earth_51 rfl (lv_at hl 0 rfl) ?_
          refine va_get (D := D) (ci := 11) (v := .ref (a0 4 0)) (C := RX11) (T := TX11) (N := 16) hx hb hts iw_One hown hK hP 0 rfl rfl 3 (by decide) fl_33 (fun _ h9 => h9) rfl dX11_earth_52 ?_
          refine va_get (D := D) (ci := 2) (v := .long (L1_4 0 5)) (C := RX2) (T := TX2) (N := 6) hx hb hts iw_Ground hown hK hP 4 rfl rfl 5 (by decide) fl_172 (fun _ h9 => h9) rfl dX11_earth_55 ?_
          have hz := Option.some.inj hf
          subst hz
          exact hret _ _ _ _ dX11_earth_58 hP hD hS
        · have hf := mb_if_t c_5 hf
          refine lv_aload_n hx hb dX11_earth_41 rfl (lv_at hl 0 rfl) ?_
          refine va_get (D := D) (ci := 11) (v := .ref (a0 4 0)) (C := RX11) (T := TX11) (N := 16) hx hb hts iw_One hown hK hP 0 rfl rfl 3 (by decide) fl_33 (fun _ h9 => h9) rfl dX11_earth_42 ?_
          refine va_get (D := D) (ci := 2) (v := .long (L1_4 0 4)) (C := RX2) (T := TX2) (N := 6) hx hb hts iw_Ground hown hK hP 4 rfl rfl 4 (by decide) fl_169 (fun _ h9 => h9) rfl dX11_earth_45 ?_
          refine lv_goto (tgt := 58) hx hb dX11_earth_48 (by decide) ?_
          have hz := Option.some.inj hf
          subst hz
          exact hret _ _ _ _ dX11_earth_58 hP hD hS
      · have hf := mb_if_t c_6 hf
        refine lv_ldc2 (v := (-4)) hx hb hown lc_155 dX11_earth_33 ?_
        have hz := Option.some.inj hf
        subst hz
        exact hret _ _ _ _ dX11_earth_36 hP hD hS
    · have hf := mb_if_t c_7 hf
      refine lv_ldc2 (v := (-1)) hx hb hown lc_133 dX11_earth_18 ?_
      have hz := Option.some.inj hf
      subst hz
      exact hret _ _ _ _ dX11_earth_21 hP hD hS
def f_Trials_add (P0 : PI) (x1 : Int32) (x2 : Int32) (x3 : Int32) (x4 : Int32) (x5 : Int32) : Option (Int32 × PI) := mb_chk (P0 0 5) 30 (mb_let (mb_u2 P0 1 (P0 0 5).toNatClampNeg x1) (fun (P0_1 : PI) => mb_chk (P0_1 0 5) 30 (mb_let (mb_u2 P0_1 2 (P0_1 0 5).toNatClampNeg x2) (fun (P0_3 : PI) => mb_chk (P0_3 0 5) 30 (mb_let (mb_u2 P0_3 3 (P0_3 0 5).toNatClampNeg x3) (fun (P0_5 : PI) => mb_chk (P0_5 0 5) 30 (mb_let (mb_u2 P0_5 4 (P0_5 0 5).toNatClampNeg x4) (fun (P0_7 : PI) => mb_chk (P0_7 0 5) 30 (mb_let (mb_u2 P0_7 5 (P0_7 0 5).toNatClampNeg x5) (fun (P0_9 : PI) => mb_let (mb_uo P0_9 5 ((P0_9 0 5) + (1 : Int32))) (fun (P0_11 : PI) => some ((P0_11 0 5), P0_11))))))))))))
def rm_Trials_add : Room := { frames := 0, cells := 0, slots := 0, locals := 0 }
set_option maxHeartbeats 4000000 in
set_option maxRecDepth 100000 in
theorem c_Trials_add (l : Launch) (D : va_G) (k : Nat → ClassId) (sz : Nat) (b0 : Nat → Nat) (P0 : PI) (L0 : PL) (x1 : Int32) (x2 : Int32) (x3 : Int32) (x4 : Int32) (x5 : Int32) (z : Int32 × PI) (hf : f_Trials_add P0 x1 x2 x3 x4 x5 = some z) : Met l yX8_add wsX8_add rm_Trials_add (va_Pc [.ref (b0 0), .int x1, .int x2, .int x3, .int x4, .int x5] (gw_pre D vwCl (tyL k) (wC_Trials k b0 P0 L0) sz)) (va_Qi (fun (r : Int32) (_ : Unit) => r = z.1) (gw_b D vwCl (tyL k) (va_A (wC_Trials k b0 P0 L0) sz) (wC_Trials k b0 z.2 L0)) (va_A (wC_Trials k b0 P0 L0) sz)) 0 0 (va_A (wC_Trials k b0 P0 L0) sz) := by
  refine gm_i (cc := cX8_add) (maxL := 6) (by decide) rfl (Nat.le_of_ble_eq_true rfl) ?_
  intro p e s m args below meth c A Q ls H locs hx hb hml hown hts hK hN hA hP hD hS hl hret
  have hown : s.vm.findClass RX8 = some m.cls := hown
  have hl : lv_has ls 6 [(0, .ref (b0 0)), (1, .int x1), (2, .int x2), (3, .int x3), (4, .int x4), (5, .int x5)] := hl
  have iw_Trials : ∀ w ∈ u_ws RX8 TX8 10, w ∈ wsX8_add := by decide +kernel
  have fl_11 := hts (.fieldLink RX8 11 "OneMeasure$Trials" "one" "[I") (by decide +kernel)
  have fl_15 := hts (.fieldLink RX8 15 "OneMeasure$Trials" "other" "[I") (by decide +kernel)
  have fl_18 := hts (.fieldLink RX8 18 "OneMeasure$Trials" "ofOne" "[I") (by decide +kernel)
  have fl_21 := hts (.fieldLink RX8 21 "OneMeasure$Trials" "ofOther" "[I") (by decide +kernel)
  have fl_24 := hts (.fieldLink RX8 24 "OneMeasure$Trials" "error" "[I") (by decide +kernel)
  have fl_27 := hts (.fieldLink RX8 27 "OneMeasure$Trials" "count" "I") (by decide +kernel)
  unfold f_Trials_add at hf
  refine lv_aload_n hx hb dX8_add_0 rfl (lv_at hl 0 rfl) ?_
  refine va_get (D := D) (ci := 8) (v := .ref (b0 1)) (C := RX8) (T := TX8) (N := 10) hx hb hts iw_Trials hown hK hP 0 rfl rfl 0 (by decide) fl_11 (fun _ h9 => h9) rfl dX8_add_1 ?_
  refine lv_aload_n hx hb dX8_add_4 rfl (lv_at hl 0 rfl) ?_
  refine va_get (D := D) (ci := 8) (v := .int (P0 0 5)) (C := RX8) (T := TX8) (N := 10) hx hb hts iw_Trials hown hK hP 0 rfl rfl 5 (by decide) fl_27 (fun _ h9 => h9) rfl dX8_add_5 ?_
  refine lv_iload_n hx hb dX8_add_8 rfl (lv_at hl 1 rfl) ?_
  obtain ⟨h_2, hf⟩ := mb_chk_s hf
  obtain ⟨P0_1, e_, hf⟩ := mb_let_s hf
  refine va_iast hx hb hK hP hD hS 1 0 rfl rfl h_2 dX8_add_9 (fun H locs hP hD hS => ?_)
  have hP : va_P D vwCl (wC_Trials k b0 P0_1 L0) H := by rw [e_]; exact hP
  have hD : va_D A (wC_Trials k b0 P0_1 L0) := by rw [e_]; exact hD
  clear e_
  refine lv_aload_n hx hb dX8_add_10 rfl (lv_at hl 0 rfl) ?_
  refine va_get (D := D) (ci := 8) (v := .ref (b0 2)) (C := RX8) (T := TX8) (N := 10) hx hb hts iw_Trials hown hK hP 0 rfl rfl 1 (by decide) fl_15 (fun _ h9 => h9) rfl dX8_add_11 ?_
  refine lv_aload_n hx hb dX8_add_14 rfl (lv_at hl 0 rfl) ?_
  refine va_get (D := D) (ci := 8) (v := .int (P0_1 0 5)) (C := RX8) (T := TX8) (N := 10) hx hb hts iw_Trials hown hK hP 0 rfl rfl 5 (by decide) fl_27 (fun _ h9 => h9) rfl dX8_add_15 ?_
  refine lv_iload_n hx hb dX8_add_18 rfl (lv_at hl 2 rfl) ?_
  obtain ⟨h_4, hf⟩ := mb_chk_s hf
  obtain ⟨P0_3, e_, hf⟩ := mb_let_s hf
  refine va_iast hx hb hK hP hD hS 2 0 rfl rfl h_4 dX8_add_19 (fun H locs hP hD hS => ?_)
  have hP : va_P D vwCl (wC_Trials k b0 P0_3 L0) H := by rw [e_]; exact hP
  have hD : va_D A (wC_Trials k b0 P0_3 L0) := by rw [e_]; exact hD
  clear e_
  refine lv_aload_n hx hb dX8_add_20 rfl (lv_at hl 0 rfl) ?_
  refine va_get (D := D) (ci := 8) (v := .ref (b0 3)) (C := RX8) (T := TX8) (N := 10) hx hb hts iw_Trials hown hK hP 0 rfl rfl 2 (by decide) fl_18 (fun _ h9 => h9) rfl dX8_add_21 ?_
  refine lv_aload_n hx hb dX8_add_24 rfl (lv_at hl 0 rfl) ?_
  refine va_get (D := D) (ci := 8) (v := .int (P0_3 0 5)) (C := RX8) (T := TX8) (N := 10) hx hb hts iw_Trials hown hK hP 0 rfl rfl 5 (by decide) fl_27 (fun _ h9 => h9) rfl dX8_add_25 ?_
  refine lv_iload_n hx hb dX8_add_28 rfl (lv_at hl 3 rfl) ?_
  obtain ⟨h_6, hf⟩ := mb_chk_s hf
  obtain ⟨P0_5, e_, hf⟩ := mb_let_s hf
  refine va_iast hx hb hK hP hD hS 3 0 rfl rfl h_6 dX8_add_29 (fun H locs hP hD hS => ?_)
  have hP : va_P D vwCl (wC_Trials k b0 P0_5 L0) H := by rw [e_]; exact hP
  have hD : va_D A (wC_Trials k b0 P0_5 L0) := by rw [e_]; exact hD
  clear e_
  refine lv_aload_n hx hb dX8_add_30 rfl (lv_at hl 0 rfl) ?_
  refine va_get (D := D) (ci := 8) (v := .ref (b0 4)) (C := RX8) (T := TX8) (N := 10) hx hb hts iw_Trials hown hK hP 0 rfl rfl 3 (by decide) fl_21 (fun _ h9 => h9) rfl dX8_add_31 ?_
  refine lv_aload_n hx hb dX8_add_34 rfl (lv_at hl 0 rfl) ?_
  refine va_get (D := D) (ci := 8) (v := .int (P0_5 0 5)) (C := RX8) (T := TX8) (N := 10) hx hb hts iw_Trials hown hK hP 0 rfl rfl 5 (by decide) fl_27 (fun _ h9 => h9) rfl dX8_add_35 ?_
  refine lv_iload hx hb dX8_add_38 (lv_at hl 4 rfl) ?_
  obtain ⟨h_8, hf⟩ := mb_chk_s hf
  obtain ⟨P0_7, e_, hf⟩ := mb_let_s hf
  refine va_iast hx hb hK hP hD hS 4 0 rfl rfl h_8 dX8_add_40 (fun H locs hP hD hS => ?_)
  have hP : va_P D vwCl (wC_Trials k b0 P0_7 L0) H := by rw [e_]; exact hP
  have hD : va_D A (wC_Trials k b0 P0_7 L0) := by rw [e_]; exact hD
  clear e_
  refine lv_aload_n hx hb dX8_add_41 rfl (lv_at hl 0 rfl) ?_
  refine va_get (D := D) (ci := 8) (v := .ref (b0 5)) (C := RX8) (T := TX8) (N := 10) hx hb hts iw_Trials hown hK hP 0 rfl rfl 4 (by decide) fl_24 (fun _ h9 => h9) rfl dX8_add_42 ?_
  refine lv_aload_n hx hb dX8_add_45 rfl (lv_at hl 0 rfl) ?_
  refine va_get (D := D) (ci := 8) (v := .int (P0_7 0 5)) (C := RX8) (T := TX8) (N := 10) hx hb hts iw_Trials hown hK hP 0 rfl rfl 5 (by decide) fl_27 (fun _ h9 => h9) rfl dX8_add_46 ?_
  refine lv_iload hx hb dX8_add_49 (lv_at hl 5 rfl) ?_
  obtain ⟨h_10, hf⟩ := mb_chk_s hf
  obtain ⟨P0_9, e_, hf⟩ := mb_let_s hf
  refine va_iast hx hb hK hP hD hS 5 0 rfl rfl h_10 dX8_add_51 (fun H locs hP hD hS => ?_)
  have hP : va_P D vwCl (wC_Trials k b0 P0_9 L0) H := by rw [e_]; exact hP
  have hD : va_D A (wC_Trials k b0 P0_9 L0) := by rw [e_]; exact hD
  clear e_
  refine lv_aload_n hx hb dX8_add_52 rfl (lv_at hl 0 rfl) ?_
  refine lv_dup hx hb dX8_add_53 rfl ?_
  refine va_get (D := D) (ci := 8) (v := .int (P0_9 0 5)) (C := RX8) (T := TX8) (N := 10) hx hb hts iw_Trials hown hK hP 0 rfl rfl 5 (by decide) fl_27 (fun _ h9 => h9) rfl dX8_add_54 ?_
  refine lv_iconst (v := 1) hx hb dX8_add_57 (by decide) ?_
  refine lv_iadd hx hb dX8_add_58 ?_
  obtain ⟨P0_11, e_, hf⟩ := mb_let_s hf
  refine va_put (D := D) (ci := 8) (v := .int ((P0_9 0 5) + (1 : Int32))) (ty := .int) (C := RX8) (T := TX8) (N := 10) hx hb hts iw_Trials tyX8 tyX8_ok nmX8 hown hK hP hD hS 0 rfl rfl 5 (by decide) fl_27 (fun _ h9 => h9) rfl (by decide +kernel) rfl rfl (Nat.le_of_ble_eq_true rfl) dX8_add_59 (fun H locs hP hD hS => ?_)
  have hP : va_P D vwCl (wC_Trials k b0 P0_11 L0) H := by rw [e_]; exact hP
  have hD : va_D A (wC_Trials k b0 P0_11 L0) := by rw [e_]; exact hD
  clear e_
  refine lv_aload_n hx hb dX8_add_62 rfl (lv_at hl 0 rfl) ?_
  refine va_get (D := D) (ci := 8) (v := .int (P0_11 0 5)) (C := RX8) (T := TX8) (N := 10) hx hb hts iw_Trials hown hK hP 0 rfl rfl 5 (by decide) fl_27 (fun _ h9 => h9) rfl dX8_add_63 ?_
  have hz := Option.some.inj hf
  subst hz
  exact hret _ _ _ _ dX8_add_66 hP hD hS
def f_One_trial (P1 : PI) (P2 : PI) (x1 : Int32) (x2 : Int32) (x3 : Int32) (x4 : Int32) (x5 : Int32) : Option (Int32 × PI) := mb_bd1 (f_Units_told P1 x1) (fun (r_1 : Int32) => (if r_1 = 0 then some ((-1 : Int32), P2) else mb_bd1 (f_Units_told P1 x2) (fun (r_2 : Int32) => (if r_2 = 0 then some ((-1 : Int32), P2) else mb_bd1 (f_One_within x5 (0 : Int32) (1000000 : Int32)) (fun (r_3 : Int32) => (if r_3 = 0 then some ((-1 : Int32), P2) else mb_bd1 (f_One_within x3 (1 : Int32) (10000 : Int32)) (fun (r_4 : Int32) => (if r_4 = 0 then some ((-1 : Int32), P2) else mb_bd1 (f_One_within x4 (1 : Int32) (10000 : Int32)) (fun (r_5 : Int32) => (if r_5 = 0 then some ((-1 : Int32), P2) else (if x1 = x2 then some ((-2 : Int32), P2) else mb_bd1 (f_Units_alike P1 x1 x2) (fun (r_6 : Int32) => (if r_6 = 0 then some ((-2 : Int32), P2) else (if (P2 0 5) < (30 : Int32) then mb_bd2 (f_Trials_add P2 x1 x2 x3 x4 x5) (fun (r_7 : Int32) (P2_8 : PI) => some (r_7, P2_8)) else some ((-3 : Int32), P2)))))))))))))))
def rm_One_trial : Room := { frames := 1, cells := 0, slots := 0, locals := 25 }
set_option maxHeartbeats 4000000 in
set_option maxRecDepth 100000 in
theorem c_One_trial (l : Launch) (D : va_G) (k : Nat → ClassId) (sz : Nat) (a0 : Nat → Nat → Nat) (P0 : PI) (P1 : PI) (P2 : PI) (L2 : PL) (x1 : Int32) (x2 : Int32) (x3 : Int32) (x4 : Int32) (x5 : Int32) (z : Int32 × PI) (hf : f_One_trial P1 P2 x1 x2 x3 x4 x5 = some z) : Met l yX11_trial wsX11_trial rm_One_trial (va_Pc [.ref (a0 0 0), .int x1, .int x2, .int x3, .int x4, .int x5] (gw_pre D vwCl (tyL k) (wC_One k a0 P0 ++ (wC_Units k (a0 1) P1 ++ (wC_Trials k (a0 5) P2 L2))) sz)) (va_Qi (fun (r : Int32) (_ : Unit) => r = z.1) (gw_b D vwCl (tyL k) (va_A (wC_One k a0 P0 ++ (wC_Units k (a0 1) P1 ++ (wC_Trials k (a0 5) P2 L2))) sz) (wC_One k a0 P0 ++ (wC_Units k (a0 1) P1 ++ (wC_Trials k (a0 5) z.2 L2)))) (va_A (wC_One k a0 P0 ++ (wC_Units k (a0 1) P1 ++ (wC_Trials k (a0 5) P2 L2))) sz)) 0 0 (va_A (wC_One k a0 P0 ++ (wC_Units k (a0 1) P1 ++ (wC_Trials k (a0 5) P2 L2))) sz) := by
  refine gm_i (cc := cX11_trial) (maxL := 6) (by decide) rfl (Nat.le_of_ble_eq_true rfl) ?_
  intro p e s m args below meth c A Q ls H locs hx hb hml hown hts hK hN hA hP hD hS hl hret
  have hown : s.vm.findClass RX11 = some m.cls := hown
  have hl : lv_has ls 6 [(0, .ref (a0 0 0)), (1, .int x1), (2, .int x2), (3, .int x3), (4, .int x4), (5, .int x5)] := hl
  have iw_One : ∀ w ∈ u_ws RX11 TX11 16, w ∈ wsX11_trial := by decide +kernel
  have iw_Trials : ∀ w ∈ u_ws RX8 TX8 10, w ∈ wsX11_trial := by decide +kernel
  have fl_10 := hts (.fieldLink RX11 10 "OneMeasure" "units" "LOneMeasure$Units;") (by decide +kernel)
  have fl_40 := hts (.fieldLink RX11 40 "OneMeasure" "trials" "LOneMeasure$Trials;") (by decide +kernel)
  have fl_175 := hts (.fieldLink RX11 175 "OneMeasure$Trials" "count" "I") (by decide +kernel)
  have lc_109 := hts (.constant RX11 109 (1000000)) (by decide +kernel)
  unfold f_One_trial at hf
  refine lv_aload_n hx hb dX11_trial_0 rfl (lv_at hl 0 rfl) ?_
  refine va_get (D := D) (ci := 11) (v := .ref (a0 1 0)) (C := RX11) (T := TX11) (N := 16) hx hb hts iw_One hown hK hP 0 rfl rfl 0 (by decide) fl_10 (fun _ h9 => h9) rfl dX11_trial_1 ?_
  refine lv_iload_n hx hb dX11_trial_4 rfl (lv_at hl 1 rfl) ?_
  obtain ⟨r_1, hz, hf⟩ := mb_bd1_s hf
  refine gc_i (r0 := r_1) (ws' := (wC_One k a0 P0 ++ (wC_Units k (a0 1) P1 ++ (wC_Trials k (a0 5) P2 L2)))) (wr := (wC_One k a0 P0 ++ (wC_Trials k (a0 5) P2 L2))) (va_runV (As := [.int x1]) (rest := []) ⟨hx, hb, hml, hown, hts⟩ (c_Units_told l D k H.size (a0 1) P1 x1 r_1 hz) (cwV 1 hts gX11_trial_X9_told rfl rfl rfl (by decide +kernel) ⟨Nat.le_of_ble_eq_true rfl, Nat.le_of_ble_eq_true rfl⟩) (gp_V (ci := 9) (q0 := 0) (q := (RX9, TX9, 4)) hP hD hK hN [4, 5, 6, 7] (by decide +kernel) rfl rfl rfl) rfl rfl hl.1 rfl (lv_room (Nat.le_of_ble_eq_true rfl)) dX11_trial_5 ⟨Nat.zero_le _, Nat.zero_le _⟩) hP hD hS hA [4, 5, 6, 7] [0, 1, 2, 3, 8, 9, 10, 11, 12, 13] rfl rfl (by decide +kernel) (by decide +kernel) [0, 1, 2, 3, 10, 11, 12, 13, 4, 5, 6, 7, 8, 9] (by decide +kernel) rfl (fun H locs hP hD hS => ?_)
  clear hz
  refine lv_if_eq (tgt := 33) hx hb dX11_trial_8 (by decide) (fun c_16 => ?_) (fun c_16 => ?_)
  · have hf := mb_if_t c_16 hf
    refine lv_iconst (v := (-1)) hx hb dX11_trial_33 (by decide) ?_
    have hz := Option.some.inj hf
    subst hz
    exact hret _ _ _ _ dX11_trial_34 hP hD hS
  · have hf := mb_if_f c_16 hf
    refine lv_aload_n hx hb dX11_trial_11 rfl (lv_at hl 0 rfl) ?_
    refine va_get (D := D) (ci := 11) (v := .ref (a0 1 0)) (C := RX11) (T := TX11) (N := 16) hx hb hts iw_One hown hK hP 0 rfl rfl 0 (by decide) fl_10 (fun _ h9 => h9) rfl dX11_trial_12 ?_
    refine lv_iload_n hx hb dX11_trial_15 rfl (lv_at hl 2 rfl) ?_
    obtain ⟨r_2, hz, hf⟩ := mb_bd1_s hf
    refine gc_i (r0 := r_2) (ws' := (wC_One k a0 P0 ++ (wC_Units k (a0 1) P1 ++ (wC_Trials k (a0 5) P2 L2)))) (wr := (wC_One k a0 P0 ++ (wC_Trials k (a0 5) P2 L2))) (va_runV (As := [.int x2]) (rest := []) ⟨hx, hb, hml, hown, hts⟩ (c_Units_told l D k H.size (a0 1) P1 x2 r_2 hz) (cwV 1 hts gX11_trial_X9_told rfl rfl rfl (by decide +kernel) ⟨Nat.le_of_ble_eq_true rfl, Nat.le_of_ble_eq_true rfl⟩) (gp_V (ci := 9) (q0 := 0) (q := (RX9, TX9, 4)) hP hD hK hN [4, 5, 6, 7] (by decide +kernel) rfl rfl rfl) rfl rfl hl.1 rfl (lv_room (Nat.le_of_ble_eq_true rfl)) dX11_trial_16 ⟨Nat.zero_le _, Nat.zero_le _⟩) hP hD hS hA [4, 5, 6, 7] [0, 1, 2, 3, 8, 9, 10, 11, 12, 13] rfl rfl (by decide +kernel) (by decide +kernel) [0, 1, 2, 3, 10, 11, 12, 13, 4, 5, 6, 7, 8, 9] (by decide +kernel) rfl (fun H locs hP hD hS => ?_)
    clear hz
    refine lv_if_eq (tgt := 33) hx hb dX11_trial_19 (by decide) (fun c_15 => ?_) (fun c_15 => ?_)
    · have hf := mb_if_t c_15 hf
      refine lv_iconst (v := (-1)) hx hb dX11_trial_33 (by decide) ?_
      have hz := Option.some.inj hf
      subst hz
      exact hret _ _ _ _ dX11_trial_34 hP hD hS
    · have hf := mb_if_f c_15 hf
      refine lv_iload hx hb dX11_trial_22 (lv_at hl 5 rfl) ?_
      refine lv_iconst (v := 0) hx hb dX11_trial_24 (by decide) ?_
      refine lv_ldc (v := (1000000)) hx hb hown lc_109 dX11_trial_25 ?_
      obtain ⟨r_3, hz, hf⟩ := mb_bd1_s hf
      refine gc_i (r0 := r_3) (ws' := (wC_One k a0 P0 ++ (wC_Units k (a0 1) P1 ++ (wC_Trials k (a0 5) P2 L2)))) (wr := (wC_One k a0 P0 ++ (wC_Units k (a0 1) P1 ++ (wC_Trials k (a0 5) P2 L2)))) (va_runS (As := [.int x5, .int (0 : Int32), .int (1000000 : Int32)]) (rest := []) ⟨hx, hb, hml, hown, hts⟩ (c_One_within l D k H.size x5 (0 : Int32) (1000000 : Int32) r_3 hz) (cwS 3 hts gX11_trial_X11_within rfl rfl rfl (by decide +kernel) ⟨Nat.le_of_ble_eq_true rfl, Nat.le_of_ble_eq_true rfl⟩) (gp_S hP hD hK hN [] (by decide +kernel) rfl) rfl rfl hl.1 rfl (lv_room (Nat.le_of_ble_eq_true rfl)) dX11_trial_27 ⟨Nat.zero_le _, Nat.zero_le _⟩) hP hD hS hA [] [0, 1, 2, 3, 4, 5, 6, 7, 8, 9, 10, 11, 12, 13] rfl rfl (by decide +kernel) (by decide +kernel) [0, 1, 2, 3, 4, 5, 6, 7, 8, 9, 10, 11, 12, 13] (by decide +kernel) rfl (fun H locs hP hD hS => ?_)
      clear hz
      refine lv_if_ne (tgt := 35) hx hb dX11_trial_30 (by decide) (fun c_14 => ?_) (fun c_14 => ?_)
      · have hf := mb_if_f c_14 hf
        refine lv_iload_n hx hb dX11_trial_35 rfl (lv_at hl 3 rfl) ?_
        refine lv_iconst (v := 1) hx hb dX11_trial_36 (by decide) ?_
        refine lv_sipush (v := 10000) hx hb dX11_trial_37 (by decide) ?_
        obtain ⟨r_4, hz, hf⟩ := mb_bd1_s hf
        refine gc_i (r0 := r_4) (ws' := (wC_One k a0 P0 ++ (wC_Units k (a0 1) P1 ++ (wC_Trials k (a0 5) P2 L2)))) (wr := (wC_One k a0 P0 ++ (wC_Units k (a0 1) P1 ++ (wC_Trials k (a0 5) P2 L2)))) (va_runS (As := [.int x3, .int (1 : Int32), .int (10000 : Int32)]) (rest := []) ⟨hx, hb, hml, hown, hts⟩ (c_One_within l D k H.size x3 (1 : Int32) (10000 : Int32) r_4 hz) (cwS 3 hts gX11_trial_X11_within rfl rfl rfl (by decide +kernel) ⟨Nat.le_of_ble_eq_true rfl, Nat.le_of_ble_eq_true rfl⟩) (gp_S hP hD hK hN [] (by decide +kernel) rfl) rfl rfl hl.1 rfl (lv_room (Nat.le_of_ble_eq_true rfl)) dX11_trial_40 ⟨Nat.zero_le _, Nat.zero_le _⟩) hP hD hS hA [] [0, 1, 2, 3, 4, 5, 6, 7, 8, 9, 10, 11, 12, 13] rfl rfl (by decide +kernel) (by decide +kernel) [0, 1, 2, 3, 4, 5, 6, 7, 8, 9, 10, 11, 12, 13] (by decide +kernel) rfl (fun H locs hP hD hS => ?_)
        clear hz
        refine lv_if_eq (tgt := 58) hx hb dX11_trial_43 (by decide) (fun c_13 => ?_) (fun c_13 => ?_)
        · have hf := mb_if_t c_13 hf
          refine lv_iconst (v := (-1)) hx hb dX11_trial_58 (by decide) ?_
          have hz := Option.some.inj hf
          subst hz
          exact hret _ _ _ _ dX11_trial_59 hP hD hS
        · have hf := mb_if_f c_13 hf
          refine lv_iload hx hb dX11_trial_46 (lv_at hl 4 rfl) ?_
          refine lv_iconst (v := 1) hx hb dX11_trial_48 (by decide) ?_
          refine lv_sipush (v := 10000) hx hb dX11_trial_49 (by decide) ?_
          obtain ⟨r_5, hz, hf⟩ := mb_bd1_s hf
          refine gc_i (r0 := r_5) (ws' := (wC_One k a0 P0 ++ (wC_Units k (a0 1) P1 ++ (wC_Trials k (a0 5) P2 L2)))) (wr := (wC_One k a0 P0 ++ (wC_Units k (a0 1) P1 ++ (wC_Trials k (a0 5) P2 L2)))) (va_runS (As := [.int x4, .int (1 : Int32), .int (10000 : Int32)]) (rest := []) ⟨hx, hb, hml, hown, hts⟩ (c_One_within l D k H.size x4 (1 : Int32) (10000 : Int32) r_5 hz) (cwS 3 hts gX11_trial_X11_within rfl rfl rfl (by decide +kernel) ⟨Nat.le_of_ble_eq_true rfl, Nat.le_of_ble_eq_true rfl⟩) (gp_S hP hD hK hN [] (by decide +kernel) rfl) rfl rfl hl.1 rfl (lv_room (Nat.le_of_ble_eq_true rfl)) dX11_trial_52 ⟨Nat.zero_le _, Nat.zero_le _⟩) hP hD hS hA [] [0, 1, 2, 3, 4, 5, 6, 7, 8, 9, 10, 11, 12, 13] rfl rfl (by decide +kernel) (by decide +kernel) [0, 1, 2, 3, 4, 5, 6, 7, 8, 9, 10, 11, 12, 13] (by decide +kernel) rfl (fun H locs hP hD hS => ?_)
          clear hz
          refine lv_if_ne (tgt := 60) hx hb dX11_trial_55 (by decide) (fun c_12 => ?_) (fun c_12 => ?_)
          · have hf := mb_if_f c_12 hf
            refine lv_iload_n hx hb dX11_trial_60 rfl (lv_at hl 1 rfl) ?_
            refine lv_iload_n hx hb dX11_trial_61 rfl (lv_at hl 2 rfl) ?_
            refine lv_icmp_eq (tgt := 77) hx hb dX11_trial_62 (by decide) (fun c_11 => ?_) (fun c_11 => ?_)
            · have hf := mb_if_t c_11 hf
              refine lv_bipush (v := (-2)) hx hb dX11_trial_77 (by decide) ?_
              have hz := Option.some.inj hf
              subst hz
              exact hret _ _ _ _ dX11_trial_79 hP hD hS
            · have hf := mb_if_f c_11 hf
              refine lv_aload_n hx hb dX11_trial_65 rfl (lv_at hl 0 rfl) ?_
              refine va_get (D := D) (ci := 11) (v := .ref (a0 1 0)) (C := RX11) (T := TX11) (N := 16) hx hb hts iw_One hown hK hP 0 rfl rfl 0 (by decide) fl_10 (fun _ h9 => h9) rfl dX11_trial_66 ?_
              refine lv_iload_n hx hb dX11_trial_69 rfl (lv_at hl 1 rfl) ?_
              refine lv_iload_n hx hb dX11_trial_70 rfl (lv_at hl 2 rfl) ?_
              obtain ⟨r_6, hz, hf⟩ := mb_bd1_s hf
              refine gc_i (r0 := r_6) (ws' := (wC_One k a0 P0 ++ (wC_Units k (a0 1) P1 ++ (wC_Trials k (a0 5) P2 L2)))) (wr := (wC_One k a0 P0 ++ (wC_Trials k (a0 5) P2 L2))) (va_runV (As := [.int x1, .int x2]) (rest := []) ⟨hx, hb, hml, hown, hts⟩ (c_Units_alike l D k H.size (a0 1) P1 x1 x2 r_6 hz) (cwV 2 hts gX11_trial_X9_alike rfl rfl rfl (by decide +kernel) ⟨Nat.le_of_ble_eq_true rfl, Nat.le_of_ble_eq_true rfl⟩) (gp_V (ci := 9) (q0 := 0) (q := (RX9, TX9, 4)) hP hD hK hN [4, 5, 6, 7] (by decide +kernel) rfl rfl rfl) rfl rfl hl.1 rfl (lv_room (Nat.le_of_ble_eq_true rfl)) dX11_trial_71 ⟨Nat.zero_le _, Nat.zero_le _⟩) hP hD hS hA [4, 5, 6, 7] [0, 1, 2, 3, 8, 9, 10, 11, 12, 13] rfl rfl (by decide +kernel) (by decide +kernel) [0, 1, 2, 3, 10, 11, 12, 13, 4, 5, 6, 7, 8, 9] (by decide +kernel) rfl (fun H locs hP hD hS => ?_)
              clear hz
              refine lv_if_ne (tgt := 80) hx hb dX11_trial_74 (by decide) (fun c_10 => ?_) (fun c_10 => ?_)
              · have hf := mb_if_f c_10 hf
                refine lv_aload_n hx hb dX11_trial_80 rfl (lv_at hl 0 rfl) ?_
                refine va_get (D := D) (ci := 11) (v := .ref (a0 5 0)) (C := RX11) (T := TX11) (N := 16) hx hb hts iw_One hown hK hP 0 rfl rfl 4 (by decide) fl_40 (fun _ h9 => h9) rfl dX11_trial_81 ?_
                refine va_get (D := D) (ci := 8) (v := .int (P2 0 5)) (C := RX8) (T := TX8) (N := 10) hx hb hts iw_Trials hown hK hP 8 rfl rfl 5 (by decide) fl_175 (fun _ h9 => h9) rfl dX11_trial_84 ?_
                refine lv_bipush (v := 30) hx hb dX11_trial_87 (by decide) ?_
                refine lv_icmp_lt (tgt := 95) hx hb dX11_trial_89 (by decide) (fun c_9 => ?_) (fun c_9 => ?_)
                · have hf := mb_if_t c_9 hf
                  refine lv_aload_n hx hb dX11_trial_95 rfl (lv_at hl 0 rfl) ?_
                  refine va_get (D := D) (ci := 11) (v := .ref (a0 5 0)) (C := RX11) (T := TX11) (N := 16) hx hb hts iw_One hown hK hP 0 rfl rfl 4 (by decide) fl_40 (fun _ h9 => h9) rfl dX11_trial_96 ?_
                  refine lv_iload_n hx hb dX11_trial_99 rfl (lv_at hl 1 rfl) ?_
                  refine lv_iload_n hx hb dX11_trial_100 rfl (lv_at hl 2 rfl) ?_
                  refine lv_iload_n hx hb dX11_trial_101 rfl (lv_at hl 3 rfl) ?_
                  refine lv_iload hx hb dX11_trial_102 (lv_at hl 4 rfl) ?_
                  refine lv_iload hx hb dX11_trial_104 (lv_at hl 5 rfl) ?_
                  obtain ⟨r_7, P2_8, hz, hf⟩ := mb_bd2_s hf
                  refine gc_i (r0 := r_7) (ws' := (wC_One k a0 P0 ++ (wC_Units k (a0 1) P1 ++ (wC_Trials k (a0 5) P2_8 L2)))) (wr := (wC_One k a0 P0 ++ (wC_Units k (a0 1) P1))) (va_runV (As := [.int x1, .int x2, .int x3, .int x4, .int x5]) (rest := []) ⟨hx, hb, hml, hown, hts⟩ (c_Trials_add l D k H.size (a0 5) P2 L2 x1 x2 x3 x4 x5 (r_7, P2_8) hz) (cwV 5 hts gX11_trial_X8_add rfl rfl rfl (by decide +kernel) ⟨Nat.le_of_ble_eq_true rfl, Nat.le_of_ble_eq_true rfl⟩) (gp_V (ci := 8) (q0 := 0) (q := (RX8, TX8, 10)) hP hD hK hN [8, 9, 10, 11, 12, 13] (by decide +kernel) rfl rfl rfl) rfl rfl hl.1 rfl (lv_room (Nat.le_of_ble_eq_true rfl)) dX11_trial_106 ⟨Nat.zero_le _, Nat.zero_le _⟩) hP hD hS hA [8, 9, 10, 11, 12, 13] [0, 1, 2, 3, 4, 5, 6, 7] rfl rfl (by decide +kernel) (by decide +kernel) [0, 1, 2, 3, 4, 5, 6, 7, 8, 9, 10, 11, 12, 13] (by decide +kernel) rfl (fun H locs hP hD hS => ?_)
                  clear hz
                  have hz := Option.some.inj hf
                  subst hz
                  exact hret _ _ _ _ dX11_trial_109 hP hD hS
                · have hf := mb_if_f c_9 hf
                  refine lv_bipush (v := (-3)) hx hb dX11_trial_92 (by decide) ?_
                  have hz := Option.some.inj hf
                  subst hz
                  exact hret _ _ _ _ dX11_trial_94 hP hD hS
              · have hf := mb_if_t c_10 hf
                refine lv_bipush (v := (-2)) hx hb dX11_trial_77 (by decide) ?_
                have hz := Option.some.inj hf
                subst hz
                exact hret _ _ _ _ dX11_trial_79 hP hD hS
          · have hf := mb_if_t c_12 hf
            refine lv_iconst (v := (-1)) hx hb dX11_trial_58 (by decide) ?_
            have hz := Option.some.inj hf
            subst hz
            exact hret _ _ _ _ dX11_trial_59 hP hD hS
      · have hf := mb_if_t c_14 hf
        refine lv_iconst (v := (-1)) hx hb dX11_trial_33 (by decide) ?_
        have hz := Option.some.inj hf
        subst hz
        exact hret _ _ _ _ dX11_trial_34 hP hD hS
def f_Trials_clip (L0 : PL) (x1 : Int32) (x2 : Int64) (x4 : Int32) : Option (PL) := (if (1 : Int32) ≤ x1 then mb_jn (fun (L0_1 : PL) => mb_dvl (x1).toInt64 (mb_let (if ((x2 + (x4).toInt64) / (x1).toInt64) < (L0_1 0 7) then ((x2 + (x4).toInt64) / (x1).toInt64) else (L0_1 0 7)) (fun (v_5 : Int64) => mb_let (mb_uoL L0_1 7 v_5) (fun (L0_6 : PL) => some L0_6)))) (fun J38_2 => (if (lg_cmp x2 (x4).toInt64) ≤ 0 then J38_2 L0 else mb_dvl (x1).toInt64 (mb_let (if ((((x2 - (x4).toInt64) + (x1).toInt64) - (1 : Int64)) / (x1).toInt64) < (L0 0 6) then (L0 0 6) else ((((x2 - (x4).toInt64) + (x1).toInt64) - (1 : Int64)) / (x1).toInt64)) (fun (v_8 : Int64) => mb_let (mb_uoL L0 6 v_8) (fun (L0_9 : PL) => J38_2 L0_9))))) else some L0)
def rm_Trials_clip : Room := { frames := 1, cells := 0, slots := 0, locals := 40 }
set_option maxHeartbeats 4000000 in
set_option maxRecDepth 100000 in
theorem c_Trials_clip (l : Launch) (D : va_G) (k : Nat → ClassId) (sz : Nat) (b0 : Nat → Nat) (P0 : PI) (L0 : PL) (x1 : Int32) (x2 : Int64) (x4 : Int32) (z : PL) (hf : f_Trials_clip L0 x1 x2 x4 = some z) : Met l yX8_clip wsX8_clip rm_Trials_clip (va_Pc [.ref (b0 0), .int x1, .long x2, .int x4] (gw_pre D vwCl (tyL k) (wC_Trials k b0 P0 L0) sz)) (va_Qv (fun (_ : Unit) => True) (gw_b D vwCl (tyL k) (va_A (wC_Trials k b0 P0 L0) sz) (wC_Trials k b0 P0 z)) (va_A (wC_Trials k b0 P0 L0) sz)) 0 0 (va_A (wC_Trials k b0 P0 L0) sz) := by
  refine gm_v (cc := cX8_clip) (maxL := 5) (by decide) rfl (Nat.le_of_ble_eq_true rfl) ?_
  intro p e s m args below meth c A Q ls H locs hx hb hml hown hts hK hN hA hP hD hS hl hret
  have hown : s.vm.findClass RX8 = some m.cls := hown
  have hl : lv_has ls 5 [(0, .ref (b0 0)), (1, .int x1), (2, .long x2), (4, .int x4)] := hl
  have iw_Trials : ∀ w ∈ u_ws RX8 TX8 10, w ∈ wsX8_clip := by decide +kernel
  have fl_31 := hts (.fieldLink RX8 31 "OneMeasure$Trials" "least" "J") (by decide +kernel)
  have fl_37 := hts (.fieldLink RX8 37 "OneMeasure$Trials" "greatest" "J") (by decide +kernel)
  have ml_50 := hts (.methodLink RX8 50 Lib.MathLoose.max_long.x) (by decide +kernel)
  have maxJ_st := hts (.static Lib.MathLoose.max_long.x) (by decide +kernel)
  have ma_ini := hts (.initialized "java/lang/Math") (by decide +kernel)
  have maxJ_code := hts (.code Lib.MathLoose.max_long.x Lib.MathLoose.max_long.code 4 (some .long)) (by decide +kernel)
  have ml_56 := hts (.methodLink RX8 56 Lib.MathLoose.min_long.x) (by decide +kernel)
  have minJ_st := hts (.static Lib.MathLoose.min_long.x) (by decide +kernel)
  have minJ_code := hts (.code Lib.MathLoose.min_long.x Lib.MathLoose.min_long.code 4 (some .long)) (by decide +kernel)
  unfold f_Trials_clip at hf
  refine lv_iload_n hx hb dX8_clip_0 rfl (lv_at hl 1 rfl) ?_
  refine lv_iconst (v := 1) hx hb dX8_clip_1 (by decide) ?_
  refine lv_icmp_ge (tgt := 6) hx hb dX8_clip_2 (by decide) (fun c_11 => ?_) (fun c_11 => ?_)
  · have hf := mb_if_t c_11 hf
    refine lv_lload_n hx hb dX8_clip_6 rfl (lv_at hl 2 rfl) ?_
    refine lv_iload hx hb dX8_clip_7 (lv_at hl 3 rfl) ?_
    refine lv_i2l hx hb dX8_clip_9 rfl ?_
    refine W.lcmp hx hb dX8_clip_10 ?_
    obtain ⟨J38_2, eJ38_2, hf⟩ := mb_jn_s hf
    have j38_3 : ∀ (L0_1 : PL) (H : Heap) (locs : List Loc) (ls : Array Slot), J38_2 L0_1 = some z → va_P D vwCl (wC_Trials k b0 P0 L0_1) H → va_D A (wC_Trials k b0 P0 L0_1) → va_S A s.heap H locs → lv_has ls 5 [(0, .ref (b0 0)), (1, .int x1), (2, .long x2), (4, .int x4)] → W p l e rm_Trials_clip s m args below meth c H locs 0 0 Q (F0 m 38 ls []) := by
      intro L0_1 H locs ls hf hP hD hS hl
      have hf := mb_j1 eJ38_2 hf
      refine lv_aload_n hx hb dX8_clip_38 rfl (lv_at hl 0 rfl) ?_
      refine lv_aload_n hx hb dX8_clip_39 rfl (lv_at hl 0 rfl) ?_
      refine va_get (D := D) (ci := 8) (v := .long (L0_1 0 7)) (C := RX8) (T := TX8) (N := 10) hx hb hts iw_Trials hown hK hP 0 rfl rfl 7 (by decide) fl_37 (fun _ h9 => h9) rfl dX8_clip_40 ?_
      refine lv_lload_n hx hb dX8_clip_43 rfl (lv_at hl 2 rfl) ?_
      refine lv_iload hx hb dX8_clip_44 (lv_at hl 3 rfl) ?_
      refine lv_i2l hx hb dX8_clip_46 rfl ?_
      refine lv_ladd hx hb dX8_clip_47 ?_
      refine lv_iload_n hx hb dX8_clip_48 rfl (lv_at hl 1 rfl) ?_
      refine lv_i2l hx hb dX8_clip_49 rfl ?_
      obtain ⟨h_4, hf⟩ := mb_dvl_s hf
      refine lv_ldiv hx hb dX8_clip_50 h_4 ?_
      obtain ⟨v_5, e_, hf⟩ := mb_let_s hf
      refine va_mmin_long hx hb (hml.trans hl.1.symm) hown ml_56 minJ_st ma_ini minJ_code (Nat.le_of_ble_eq_true rfl) (Nat.le_of_ble_eq_true rfl) (Nat.zero_le _) (Nat.zero_le _) dX8_clip_51 ?_
      refine mb_topl e_ ?_
      clear e_
      obtain ⟨L0_6, e_, hf⟩ := mb_let_s hf
      refine va_put (D := D) (ci := 8) (v := .long v_5) (ty := .long) (C := RX8) (T := TX8) (N := 10) hx hb hts iw_Trials tyX8 tyX8_ok nmX8 hown hK hP hD hS 0 rfl rfl 7 (by decide) fl_37 (fun _ h9 => h9) rfl (by decide +kernel) rfl rfl (Nat.le_of_ble_eq_true rfl) dX8_clip_54 (fun H locs hP hD hS => ?_)
      have hP : va_P D vwCl (wC_Trials k b0 P0 L0_6) H := by rw [e_]; exact hP
      have hD : va_D A (wC_Trials k b0 P0 L0_6) := by rw [e_]; exact hD
      clear e_
      have hz := Option.some.inj hf
      subst hz
      exact hret _ _ _ _ dX8_clip_57 hP hD hS
    refine lv_if_le (tgt := 38) hx hb dX8_clip_11 (by decide) (fun c_10 => ?_) (fun c_10 => ?_)
    · have hf := mb_if_t c_10 hf
      exact j38_3 L0 _ _ _ hf hP hD hS (lv_sub hl [0, 1, 2, 3] rfl)
    · have hf := mb_if_f c_10 hf
      refine lv_aload_n hx hb dX8_clip_14 rfl (lv_at hl 0 rfl) ?_
      refine lv_aload_n hx hb dX8_clip_15 rfl (lv_at hl 0 rfl) ?_
      refine va_get (D := D) (ci := 8) (v := .long (L0 0 6)) (C := RX8) (T := TX8) (N := 10) hx hb hts iw_Trials hown hK hP 0 rfl rfl 6 (by decide) fl_31 (fun _ h9 => h9) rfl dX8_clip_16 ?_
      refine lv_lload_n hx hb dX8_clip_19 rfl (lv_at hl 2 rfl) ?_
      refine lv_iload hx hb dX8_clip_20 (lv_at hl 3 rfl) ?_
      refine lv_i2l hx hb dX8_clip_22 rfl ?_
      refine lv_lsub hx hb dX8_clip_23 ?_
      refine lv_iload_n hx hb dX8_clip_24 rfl (lv_at hl 1 rfl) ?_
      refine lv_i2l hx hb dX8_clip_25 rfl ?_
      refine lv_ladd hx hb dX8_clip_26 ?_
      refine lv_lconst (v := 1) hx hb dX8_clip_27 (by decide) ?_
      refine lv_lsub hx hb dX8_clip_28 ?_
      refine lv_iload_n hx hb dX8_clip_29 rfl (lv_at hl 1 rfl) ?_
      refine lv_i2l hx hb dX8_clip_30 rfl ?_
      obtain ⟨h_7, hf⟩ := mb_dvl_s hf
      refine lv_ldiv hx hb dX8_clip_31 h_7 ?_
      obtain ⟨v_8, e_, hf⟩ := mb_let_s hf
      refine va_mmax_long hx hb (hml.trans hl.1.symm) hown ml_50 maxJ_st ma_ini maxJ_code (Nat.le_of_ble_eq_true rfl) (Nat.le_of_ble_eq_true rfl) (Nat.zero_le _) (Nat.zero_le _) dX8_clip_32 ?_
      refine mb_topl e_ ?_
      clear e_
      obtain ⟨L0_9, e_, hf⟩ := mb_let_s hf
      refine va_put (D := D) (ci := 8) (v := .long v_8) (ty := .long) (C := RX8) (T := TX8) (N := 10) hx hb hts iw_Trials tyX8 tyX8_ok nmX8 hown hK hP hD hS 0 rfl rfl 6 (by decide) fl_31 (fun _ h9 => h9) rfl (by decide +kernel) rfl rfl (Nat.le_of_ble_eq_true rfl) dX8_clip_35 (fun H locs hP hD hS => ?_)
      have hP : va_P D vwCl (wC_Trials k b0 P0 L0_9) H := by rw [e_]; exact hP
      have hD : va_D A (wC_Trials k b0 P0 L0_9) := by rw [e_]; exact hD
      clear e_
      exact j38_3 L0_9 _ _ _ hf hP hD hS (lv_sub hl [0, 1, 2, 3] rfl)
  · have hf := mb_if_f c_11 hf
    have hz := Option.some.inj hf
    subst hz
    exact hret _ _ _ _ dX8_clip_5 hP hD hS
def f_Trials_narrow_15_b (P0 : PI) (x1 : Int32) (x2 : Int32) (x3 : Int64) (self_8 : Int32 → PL → Option (PL)) (x5_6 : Int32) (L0_7 : PL) : Option (PL) := (if (P0 0 5) ≤ x5_6 then some L0_7 else mb_chk x5_6 30 (mb_jn (fun (L0_10 : PL) => mb_chk x5_6 30 ((if (P0 1 x5_6.toNatClampNeg) = x2 then mb_chk x5_6 30 ((if (P0 2 x5_6.toNatClampNeg) = x1 then mb_chk x5_6 30 (mb_chk x5_6 30 (mb_chk x5_6 30 (mb_bd1 (f_Trials_clip L0_10 (P0 4 x5_6.toNatClampNeg) (x3 * ((P0 3 x5_6.toNatClampNeg)).toInt64) (P0 5 x5_6.toNatClampNeg)) (fun (L0_20 : PL) => mb_let (x5_6 + (1 : Int32)) (fun (x5_21 : Int32) => self_8 x5_21 L0_20))))) else mb_let (x5_6 + (1 : Int32)) (fun (x5_16 : Int32) => self_8 x5_16 L0_10))) else mb_let (x5_6 + (1 : Int32)) (fun (x5_14 : Int32) => self_8 x5_14 L0_10)))) (fun J74_11 => (if (P0 1 x5_6.toNatClampNeg) = x1 then mb_chk x5_6 30 ((if (P0 2 x5_6.toNatClampNeg) = x2 then mb_chk x5_6 30 (mb_chk x5_6 30 (mb_chk x5_6 30 (mb_bd1 (f_Trials_clip L0_7 (P0 3 x5_6.toNatClampNeg) (x3 * ((P0 4 x5_6.toNatClampNeg)).toInt64) (P0 5 x5_6.toNatClampNeg)) (fun (L0_28 : PL) => J74_11 L0_28)))) else J74_11 L0_7)) else J74_11 L0_7))))
def f_Trials_narrow_15 (P0 : PI) (x1 : Int32) (x2 : Int32) (x3 : Int64) : Nat → Int32 → PL → Option (PL)
  | 0, _, _ => none
  | n + 1, x5_6, L0_7 => f_Trials_narrow_15_b P0 x1 x2 x3 (f_Trials_narrow_15 P0 x1 x2 x3 n) x5_6 L0_7
def f_Trials_narrow (P0 : PI) (L0 : PL) (x1 : Int32) (x2 : Int32) (x3 : Int64) : Option (PL) := mb_let (mb_uoL L0 6 (1 : Int64)) (fun (L0_1 : PL) => mb_let (mb_uoL L0_1 7 (1000000 : Int64)) (fun (L0_2 : PL) => mb_let (0 : Int32) (fun (x5_3 : Int32) => f_Trials_narrow_15 P0 x1 x2 x3 mb_fu x5_3 L0_2)))
def rm_Trials_narrow : Room := { frames := 2, cells := 0, slots := 0, locals := 64 }
set_option maxHeartbeats 4000000 in
set_option maxRecDepth 100000 in
theorem c_Trials_narrow (l : Launch) (D : va_G) (k : Nat → ClassId) (sz : Nat) (b0 : Nat → Nat) (P0 : PI) (L0 : PL) (x1 : Int32) (x2 : Int32) (x3 : Int64) (z : PL) (hf : f_Trials_narrow P0 L0 x1 x2 x3 = some z) : Met l yX8_narrow wsX8_narrow rm_Trials_narrow (va_Pc [.ref (b0 0), .int x1, .int x2, .long x3] (gw_pre D vwCl (tyL k) (wC_Trials k b0 P0 L0) sz)) (va_Qv (fun (_ : Unit) => True) (gw_b D vwCl (tyL k) (va_A (wC_Trials k b0 P0 L0) sz) (wC_Trials k b0 P0 z)) (va_A (wC_Trials k b0 P0 L0) sz)) 0 0 (va_A (wC_Trials k b0 P0 L0) sz) := by
  refine gm_v (cc := cX8_narrow) (maxL := 6) (by decide) rfl (Nat.le_of_ble_eq_true rfl) ?_
  intro p e s m args below meth c A Q ls H locs hx hb hml hown hts hK hN hA hP hD hS hl hret
  have hown : s.vm.findClass RX8 = some m.cls := hown
  have hl : lv_has ls 6 [(0, .ref (b0 0)), (1, .int x1), (2, .int x2), (3, .long x3)] := hl
  have iw_Trials : ∀ w ∈ u_ws RX8 TX8 10, w ∈ wsX8_narrow := by decide +kernel
  have fl_11 := hts (.fieldLink RX8 11 "OneMeasure$Trials" "one" "[I") (by decide +kernel)
  have fl_15 := hts (.fieldLink RX8 15 "OneMeasure$Trials" "other" "[I") (by decide +kernel)
  have fl_18 := hts (.fieldLink RX8 18 "OneMeasure$Trials" "ofOne" "[I") (by decide +kernel)
  have fl_21 := hts (.fieldLink RX8 21 "OneMeasure$Trials" "ofOther" "[I") (by decide +kernel)
  have fl_24 := hts (.fieldLink RX8 24 "OneMeasure$Trials" "error" "[I") (by decide +kernel)
  have fl_27 := hts (.fieldLink RX8 27 "OneMeasure$Trials" "count" "I") (by decide +kernel)
  have fl_31 := hts (.fieldLink RX8 31 "OneMeasure$Trials" "least" "J") (by decide +kernel)
  have fl_37 := hts (.fieldLink RX8 37 "OneMeasure$Trials" "greatest" "J") (by decide +kernel)
  have lc_35 := hts (.constantLong RX8 35 (1000000)) (by decide +kernel)
  unfold f_Trials_narrow at hf
  refine lv_aload_n hx hb dX8_narrow_0 rfl (lv_at hl 0 rfl) ?_
  refine lv_lconst (v := 1) hx hb dX8_narrow_1 (by decide) ?_
  obtain ⟨L0_1, e_, hf⟩ := mb_let_s hf
  refine va_put (D := D) (ci := 8) (v := .long (1 : Int64)) (ty := .long) (C := RX8) (T := TX8) (N := 10) hx hb hts iw_Trials tyX8 tyX8_ok nmX8 hown hK hP hD hS 0 rfl rfl 6 (by decide) fl_31 (fun _ h9 => h9) rfl (by decide +kernel) rfl rfl (Nat.le_of_ble_eq_true rfl) dX8_narrow_2 (fun H locs hP hD hS => ?_)
  have hP : va_P D vwCl (wC_Trials k b0 P0 L0_1) H := by rw [e_]; exact hP
  have hD : va_D A (wC_Trials k b0 P0 L0_1) := by rw [e_]; exact hD
  clear e_
  refine lv_aload_n hx hb dX8_narrow_5 rfl (lv_at hl 0 rfl) ?_
  refine lv_ldc2 (v := (1000000)) hx hb hown lc_35 dX8_narrow_6 ?_
  obtain ⟨L0_2, e_, hf⟩ := mb_let_s hf
  refine va_put (D := D) (ci := 8) (v := .long (1000000 : Int64)) (ty := .long) (C := RX8) (T := TX8) (N := 10) hx hb hts iw_Trials tyX8 tyX8_ok nmX8 hown hK hP hD hS 0 rfl rfl 7 (by decide) fl_37 (fun _ h9 => h9) rfl (by decide +kernel) rfl rfl (Nat.le_of_ble_eq_true rfl) dX8_narrow_9 (fun H locs hP hD hS => ?_)
  have hP : va_P D vwCl (wC_Trials k b0 P0 L0_2) H := by rw [e_]; exact hP
  have hD : va_D A (wC_Trials k b0 P0 L0_2) := by rw [e_]; exact hD
  clear e_
  refine lv_iconst (v := 0) hx hb dX8_narrow_12 (by decide) ?_
  obtain ⟨x5_3, e_, hf⟩ := mb_let_s hf
  refine mb_topi e_ ?_
  clear e_
  refine lv_istore (lv' := [(5, .int x5_3), (0, .ref (b0 0)), (1, .int x1), (2, .int x2), (3, .long x3)]) hx hb dX8_narrow_13 hl (by decide) rfl (fun ls hl => ?_)
  have lp15_4 : ∀ (n : Nat) (x5_6 : Int32) (L0_7 : PL) (H : Heap) (locs : List Loc) (ls : Array Slot), f_Trials_narrow_15 P0 x1 x2 x3 n x5_6 L0_7 = some z → va_P D vwCl (wC_Trials k b0 P0 L0_7) H → va_D A (wC_Trials k b0 P0 L0_7) → va_S A s.heap H locs → lv_has ls 6 [(0, .ref (b0 0)), (1, .int x1), (2, .int x2), (3, .long x3), (5, .int x5_6)] → W p l e rm_Trials_narrow s m args below meth c H locs 0 0 Q (F0 m 15 ls []) := by
    intro n
    induction n with
    | zero =>
      intro x5_6 L0_7 H locs ls hf
      exact nomatch (show (none : Option (PL)) = some z from hf)
    | succ n ih_5 =>
      intro x5_6 L0_7 H locs ls hf hP hD hS hl
      have hf : f_Trials_narrow_15_b P0 x1 x2 x3 (f_Trials_narrow_15 P0 x1 x2 x3 n) x5_6 L0_7 = some z := hf
      unfold f_Trials_narrow_15_b at hf
      refine lv_iload hx hb dX8_narrow_15 (lv_at hl 4 rfl) ?_
      refine lv_aload_n hx hb dX8_narrow_17 rfl (lv_at hl 0 rfl) ?_
      refine va_get (D := D) (ci := 8) (v := .int (P0 0 5)) (C := RX8) (T := TX8) (N := 10) hx hb hts iw_Trials hown hK hP 0 rfl rfl 5 (by decide) fl_27 (fun _ h9 => h9) rfl dX8_narrow_18 ?_
      refine lv_icmp_ge (tgt := 130) hx hb dX8_narrow_21 (by decide) (fun c_31 => ?_) (fun c_31 => ?_)
      · have hf := mb_if_t c_31 hf
        have hz := Option.some.inj hf
        subst hz
        exact hret _ _ _ _ dX8_narrow_130 hP hD hS
      · have hf := mb_if_f c_31 hf
        refine lv_aload_n hx hb dX8_narrow_24 rfl (lv_at hl 0 rfl) ?_
        refine va_get (D := D) (ci := 8) (v := .ref (b0 1)) (C := RX8) (T := TX8) (N := 10) hx hb hts iw_Trials hown hK hP 0 rfl rfl 0 (by decide) fl_11 (fun _ h9 => h9) rfl dX8_narrow_25 ?_
        refine lv_iload hx hb dX8_narrow_28 (lv_at hl 4 rfl) ?_
        obtain ⟨h_9, hf⟩ := mb_chk_s hf
        refine va_iald hx hb hK hP 1 0 rfl rfl h_9 dX8_narrow_30 ?_
        refine lv_iload_n hx hb dX8_narrow_31 rfl (lv_at hl 1 rfl) ?_
        obtain ⟨J74_11, eJ74_11, hf⟩ := mb_jn_s hf
        have j74_12 : ∀ (L0_10 : PL) (H : Heap) (locs : List Loc) (ls : Array Slot), J74_11 L0_10 = some z → va_P D vwCl (wC_Trials k b0 P0 L0_10) H → va_D A (wC_Trials k b0 P0 L0_10) → va_S A s.heap H locs → lv_has ls 6 [(0, .ref (b0 0)), (1, .int x1), (2, .int x2), (3, .long x3), (5, .int x5_6)] → W p l e rm_Trials_narrow s m args below meth c H locs 0 0 Q (F0 m 74 ls []) := by
          intro L0_10 H locs ls hf hP hD hS hl
          have hf := mb_j1 eJ74_11 hf
          refine lv_aload_n hx hb dX8_narrow_74 rfl (lv_at hl 0 rfl) ?_
          refine va_get (D := D) (ci := 8) (v := .ref (b0 1)) (C := RX8) (T := TX8) (N := 10) hx hb hts iw_Trials hown hK hP 0 rfl rfl 0 (by decide) fl_11 (fun _ h9 => h9) rfl dX8_narrow_75 ?_
          refine lv_iload hx hb dX8_narrow_78 (lv_at hl 4 rfl) ?_
          obtain ⟨h_13, hf⟩ := mb_chk_s hf
          refine va_iald hx hb hK hP 1 0 rfl rfl h_13 dX8_narrow_80 ?_
          refine lv_iload_n hx hb dX8_narrow_81 rfl (lv_at hl 2 rfl) ?_
          refine lv_icmp_ne (tgt := 124) hx hb dX8_narrow_82 (by decide) (fun c_23 => ?_) (fun c_23 => ?_)
          · have hf := mb_if_f c_23 hf
            obtain ⟨x5_14, e_, hf⟩ := mb_let_s hf
            refine lv_iinc (v := x5_14) (lv' := [(5, .int x5_14), (0, .ref (b0 0)), (1, .int x1), (2, .int x2), (3, .long x3)]) hx hb dX8_narrow_124 hl (k := 4) rfl (by rw [e_]; rfl) (by decide) rfl (fun ls hl => ?_)
            clear e_
            refine lv_goto (tgt := 15) hx hb dX8_narrow_127 (by decide) ?_
            exact ih_5 x5_14 L0_10 _ _ _ hf hP hD hS (lv_sub hl [1, 2, 3, 4, 0] rfl)
          · have hf := mb_if_t c_23 hf
            refine lv_aload_n hx hb dX8_narrow_85 rfl (lv_at hl 0 rfl) ?_
            refine va_get (D := D) (ci := 8) (v := .ref (b0 2)) (C := RX8) (T := TX8) (N := 10) hx hb hts iw_Trials hown hK hP 0 rfl rfl 1 (by decide) fl_15 (fun _ h9 => h9) rfl dX8_narrow_86 ?_
            refine lv_iload hx hb dX8_narrow_89 (lv_at hl 4 rfl) ?_
            obtain ⟨h_15, hf⟩ := mb_chk_s hf
            refine va_iald hx hb hK hP 2 0 rfl rfl h_15 dX8_narrow_91 ?_
            refine lv_iload_n hx hb dX8_narrow_92 rfl (lv_at hl 1 rfl) ?_
            refine lv_icmp_ne (tgt := 124) hx hb dX8_narrow_93 (by decide) (fun c_22 => ?_) (fun c_22 => ?_)
            · have hf := mb_if_f c_22 hf
              obtain ⟨x5_16, e_, hf⟩ := mb_let_s hf
              refine lv_iinc (v := x5_16) (lv' := [(5, .int x5_16), (0, .ref (b0 0)), (1, .int x1), (2, .int x2), (3, .long x3)]) hx hb dX8_narrow_124 hl (k := 4) rfl (by rw [e_]; rfl) (by decide) rfl (fun ls hl => ?_)
              clear e_
              refine lv_goto (tgt := 15) hx hb dX8_narrow_127 (by decide) ?_
              exact ih_5 x5_16 L0_10 _ _ _ hf hP hD hS (lv_sub hl [1, 2, 3, 4, 0] rfl)
            · have hf := mb_if_t c_22 hf
              refine lv_aload_n hx hb dX8_narrow_96 rfl (lv_at hl 0 rfl) ?_
              refine lv_aload_n hx hb dX8_narrow_97 rfl (lv_at hl 0 rfl) ?_
              refine va_get (D := D) (ci := 8) (v := .ref (b0 4)) (C := RX8) (T := TX8) (N := 10) hx hb hts iw_Trials hown hK hP 0 rfl rfl 3 (by decide) fl_21 (fun _ h9 => h9) rfl dX8_narrow_98 ?_
              refine lv_iload hx hb dX8_narrow_101 (lv_at hl 4 rfl) ?_
              obtain ⟨h_17, hf⟩ := mb_chk_s hf
              refine va_iald hx hb hK hP 4 0 rfl rfl h_17 dX8_narrow_103 ?_
              refine lv_lload_n hx hb dX8_narrow_104 rfl (lv_at hl 3 rfl) ?_
              refine lv_aload_n hx hb dX8_narrow_105 rfl (lv_at hl 0 rfl) ?_
              refine va_get (D := D) (ci := 8) (v := .ref (b0 3)) (C := RX8) (T := TX8) (N := 10) hx hb hts iw_Trials hown hK hP 0 rfl rfl 2 (by decide) fl_18 (fun _ h9 => h9) rfl dX8_narrow_106 ?_
              refine lv_iload hx hb dX8_narrow_109 (lv_at hl 4 rfl) ?_
              obtain ⟨h_18, hf⟩ := mb_chk_s hf
              refine va_iald hx hb hK hP 3 0 rfl rfl h_18 dX8_narrow_111 ?_
              refine lv_i2l hx hb dX8_narrow_112 rfl ?_
              refine lv_lmul hx hb dX8_narrow_113 ?_
              refine lv_aload_n hx hb dX8_narrow_114 rfl (lv_at hl 0 rfl) ?_
              refine va_get (D := D) (ci := 8) (v := .ref (b0 5)) (C := RX8) (T := TX8) (N := 10) hx hb hts iw_Trials hown hK hP 0 rfl rfl 4 (by decide) fl_24 (fun _ h9 => h9) rfl dX8_narrow_115 ?_
              refine lv_iload hx hb dX8_narrow_118 (lv_at hl 4 rfl) ?_
              obtain ⟨h_19, hf⟩ := mb_chk_s hf
              refine va_iald hx hb hK hP 5 0 rfl rfl h_19 dX8_narrow_120 ?_
              obtain ⟨L0_20, hz, hf⟩ := mb_bd1_s hf
              refine gc_v (ws' := (wC_Trials k b0 P0 L0_20)) (wr := ([] : va_W)) (va_runV (As := [.int (P0 4 x5_6.toNatClampNeg), .long (x3 * ((P0 3 x5_6.toNatClampNeg)).toInt64), .int (P0 5 x5_6.toNatClampNeg)]) (rest := []) ⟨hx, hb, hml, hown, hts⟩ (c_Trials_clip l D k H.size b0 P0 L0_10 (P0 4 x5_6.toNatClampNeg) (x3 * ((P0 3 x5_6.toNatClampNeg)).toInt64) (P0 5 x5_6.toNatClampNeg) L0_20 hz) (cwV 3 hts gX8_narrow_X8_clip rfl rfl rfl (by decide +kernel) ⟨Nat.le_of_ble_eq_true rfl, Nat.le_of_ble_eq_true rfl⟩) (gp_V (ci := 8) (q0 := 0) (q := (RX8, TX8, 10)) hP hD hK hN [0, 1, 2, 3, 4, 5] (by decide +kernel) rfl rfl rfl) rfl rfl hl.1 rfl (lv_room (Nat.le_of_ble_eq_true rfl)) dX8_narrow_121 ⟨Nat.zero_le _, Nat.zero_le _⟩) hP hD hS hA [0, 1, 2, 3, 4, 5] [] rfl rfl (by decide +kernel) (by decide +kernel) [0, 1, 2, 3, 4, 5] (by decide +kernel) rfl (fun H locs hP hD hS => ?_)
              clear hz
              obtain ⟨x5_21, e_, hf⟩ := mb_let_s hf
              refine lv_iinc (v := x5_21) (lv' := [(5, .int x5_21), (0, .ref (b0 0)), (1, .int x1), (2, .int x2), (3, .long x3)]) hx hb dX8_narrow_124 hl (k := 4) rfl (by rw [e_]; rfl) (by decide) rfl (fun ls hl => ?_)
              clear e_
              refine lv_goto (tgt := 15) hx hb dX8_narrow_127 (by decide) ?_
              exact ih_5 x5_21 L0_20 _ _ _ hf hP hD hS (lv_sub hl [1, 2, 3, 4, 0] rfl)
        refine lv_icmp_ne (tgt := 74) hx hb dX8_narrow_32 (by decide) (fun c_30 => ?_) (fun c_30 => ?_)
        · have hf := mb_if_f c_30 hf
          exact j74_12 L0_7 _ _ _ hf hP hD hS (lv_sub hl [0, 1, 2, 3, 4] rfl)
        · have hf := mb_if_t c_30 hf
          refine lv_aload_n hx hb dX8_narrow_35 rfl (lv_at hl 0 rfl) ?_
          refine va_get (D := D) (ci := 8) (v := .ref (b0 2)) (C := RX8) (T := TX8) (N := 10) hx hb hts iw_Trials hown hK hP 0 rfl rfl 1 (by decide) fl_15 (fun _ h9 => h9) rfl dX8_narrow_36 ?_
          refine lv_iload hx hb dX8_narrow_39 (lv_at hl 4 rfl) ?_
          obtain ⟨h_24, hf⟩ := mb_chk_s hf
          refine va_iald hx hb hK hP 2 0 rfl rfl h_24 dX8_narrow_41 ?_
          refine lv_iload_n hx hb dX8_narrow_42 rfl (lv_at hl 2 rfl) ?_
          refine lv_icmp_ne (tgt := 74) hx hb dX8_narrow_43 (by decide) (fun c_29 => ?_) (fun c_29 => ?_)
          · have hf := mb_if_f c_29 hf
            exact j74_12 L0_7 _ _ _ hf hP hD hS (lv_sub hl [0, 1, 2, 3, 4] rfl)
          · have hf := mb_if_t c_29 hf
            refine lv_aload_n hx hb dX8_narrow_46 rfl (lv_at hl 0 rfl) ?_
            refine lv_aload_n hx hb dX8_narrow_47 rfl (lv_at hl 0 rfl) ?_
            refine va_get (D := D) (ci := 8) (v := .ref (b0 3)) (C := RX8) (T := TX8) (N := 10) hx hb hts iw_Trials hown hK hP 0 rfl rfl 2 (by decide) fl_18 (fun _ h9 => h9) rfl dX8_narrow_48 ?_
            refine lv_iload hx hb dX8_narrow_51 (lv_at hl 4 rfl) ?_
            obtain ⟨h_25, hf⟩ := mb_chk_s hf
            refine va_iald hx hb hK hP 3 0 rfl rfl h_25 dX8_narrow_53 ?_
            refine lv_lload_n hx hb dX8_narrow_54 rfl (lv_at hl 3 rfl) ?_
            refine lv_aload_n hx hb dX8_narrow_55 rfl (lv_at hl 0 rfl) ?_
            refine va_get (D := D) (ci := 8) (v := .ref (b0 4)) (C := RX8) (T := TX8) (N := 10) hx hb hts iw_Trials hown hK hP 0 rfl rfl 3 (by decide) fl_21 (fun _ h9 => h9) rfl dX8_narrow_56 ?_
            refine lv_iload hx hb dX8_narrow_59 (lv_at hl 4 rfl) ?_
            obtain ⟨h_26, hf⟩ := mb_chk_s hf
            refine va_iald hx hb hK hP 4 0 rfl rfl h_26 dX8_narrow_61 ?_
            refine lv_i2l hx hb dX8_narrow_62 rfl ?_
            refine lv_lmul hx hb dX8_narrow_63 ?_
            refine lv_aload_n hx hb dX8_narrow_64 rfl (lv_at hl 0 rfl) ?_
            refine va_get (D := D) (ci := 8) (v := .ref (b0 5)) (C := RX8) (T := TX8) (N := 10) hx hb hts iw_Trials hown hK hP 0 rfl rfl 4 (by decide) fl_24 (fun _ h9 => h9) rfl dX8_narrow_65 ?_
            refine lv_iload hx hb dX8_narrow_68 (lv_at hl 4 rfl) ?_
            obtain ⟨h_27, hf⟩ := mb_chk_s hf
            refine va_iald hx hb hK hP 5 0 rfl rfl h_27 dX8_narrow_70 ?_
            obtain ⟨L0_28, hz, hf⟩ := mb_bd1_s hf
            refine gc_v (ws' := (wC_Trials k b0 P0 L0_28)) (wr := ([] : va_W)) (va_runV (As := [.int (P0 3 x5_6.toNatClampNeg), .long (x3 * ((P0 4 x5_6.toNatClampNeg)).toInt64), .int (P0 5 x5_6.toNatClampNeg)]) (rest := []) ⟨hx, hb, hml, hown, hts⟩ (c_Trials_clip l D k H.size b0 P0 L0_7 (P0 3 x5_6.toNatClampNeg) (x3 * ((P0 4 x5_6.toNatClampNeg)).toInt64) (P0 5 x5_6.toNatClampNeg) L0_28 hz) (cwV 3 hts gX8_narrow_X8_clip rfl rfl rfl (by decide +kernel) ⟨Nat.le_of_ble_eq_true rfl, Nat.le_of_ble_eq_true rfl⟩) (gp_V (ci := 8) (q0 := 0) (q := (RX8, TX8, 10)) hP hD hK hN [0, 1, 2, 3, 4, 5] (by decide +kernel) rfl rfl rfl) rfl rfl hl.1 rfl (lv_room (Nat.le_of_ble_eq_true rfl)) dX8_narrow_71 ⟨Nat.zero_le _, Nat.zero_le _⟩) hP hD hS hA [0, 1, 2, 3, 4, 5] [] rfl rfl (by decide +kernel) (by decide +kernel) [0, 1, 2, 3, 4, 5] (by decide +kernel) rfl (fun H locs hP hD hS => ?_)
            clear hz
            exact j74_12 L0_28 _ _ _ hf hP hD hS (lv_sub hl [0, 1, 2, 3, 4] rfl)
  exact lp15_4 mb_fu x5_3 L0_2 _ _ _ hf hP hD hS (lv_sub hl [1, 2, 3, 4, 0] rfl)
