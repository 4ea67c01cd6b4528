def f_Ways_close_68_b (L0_5 : PL) (x3 : Int32) (self_12 : Int32 → PI → Option (PI × PL)) (x5_10 : Int32) (P0_11 : PI) : Option (PI × PL) := (if x3 ≤ x5_10 then some (P0_11, L0_5) else mb_chk x5_10 4 (mb_chk x5_10 4 (mb_let (mb_u2 P0_11 1 x5_10.toNatClampNeg (P0_11 4 x5_10.toNatClampNeg)) (fun (P0_14 : PI) => mb_let (x5_10 + (1 : Int32)) (fun (x5_16 : Int32) => self_12 x5_16 P0_14)))))
def f_Ways_close_68 (L0_5 : PL) (x3 : Int32) : Nat → Int32 → PI → Option (PI × PL)
  | 0, _, _ => none
  | n + 1, x5_10, P0_11 => f_Ways_close_68_b L0_5 x3 (f_Ways_close_68 L0_5 x3 n) x5_10 P0_11
def f_Ways_close (P0 : PI) (L0 : PL) (x1 : Int64) (x3 : Int32) : Option (PI × PL) := (if (lg_cmp x1 (1000000000000 : Int64)) ≤ 0 then mb_jn (fun (y_1 : Int32) => mb_let y_1 (fun (x4_4 : Int32) => (if x4_4 = 0 then some (P0, L0) else mb_let (mb_uoL L0 1 x1) (fun (L0_5 : PL) => mb_let (mb_uo P0 2 x3) (fun (P0_6 : PI) => mb_let (0 : Int32) (fun (x5_7 : Int32) => f_Ways_close_68 L0_5 x3 mb_fu x5_7 P0_6)))))) (fun J47_2 => mb_jn (J47_2 (1 : Int32)) (fun J42_19 => (if (P0 0 2) = 0 then J42_19 else (if 0 < (lg_cmp x1 (L0 0 1)) then J42_19 else mb_jn (J47_2 (0 : Int32)) (fun J46_21 => (if (lg_cmp x1 (L0 0 1)) = 0 then (if (P0 0 2) ≤ x3 then J46_21 else J42_19) else J46_21)))))) else some (P0, L0))
def rm_Ways_close : Room := { frames := 0, cells := 0, slots := 0, locals := 0 }
set_option maxHeartbeats 4000000 in
set_option maxRecDepth 100000 in
theorem c_Ways_close (l : Launch) (D : va_G) (k : Nat → ClassId) (sz : Nat) (b0 : Nat → Nat) (P0 : PI) (L0 : PL) (x1 : Int64) (x3 : Int32) (z : PI × PL) (hf : f_Ways_close P0 L0 x1 x3 = some z) : Met l yX10_close wsX10_close rm_Ways_close (va_Pc [.ref (b0 0), .long x1, .int x3] (gw_pre D vwCl (tyL k) (wC_Ways k b0 P0 L0) sz)) (va_Qv (fun (_ : Unit) => True) (gw_b D vwCl (tyL k) (va_A (wC_Ways k b0 P0 L0) sz) (wC_Ways k b0 z.1 z.2)) (va_A (wC_Ways k b0 P0 L0) sz)) 0 0 (va_A (wC_Ways k b0 P0 L0) sz) := by
  refine gm_v (cc := cX10_close) (maxL := 6) (by decide) rfl (Nat.le_of_ble_eq_true rfl) ?_
  intro p e s m args below meth c A Q ls H locs hx hb hml hown hts hK hN hA hP hD hS hl hret
  have hown : s.vm.findClass RX10 = some m.cls := hown
  have hl : lv_has ls 6 [(0, .ref (b0 0)), (1, .long x1), (3, .int x3)] := hl
  have iw_Ways : ∀ w ∈ u_ws RX10 TX10 5, w ∈ wsX10_close := by decide +kernel
  have fl_11 := hts (.fieldLink RX10 11 "OneMeasure$Ways" "bestRow" "[I") (by decide +kernel)
  have fl_15 := hts (.fieldLink RX10 15 "OneMeasure$Ways" "amount" "J") (by decide +kernel)
  have fl_19 := hts (.fieldLink RX10 19 "OneMeasure$Ways" "length" "I") (by decide +kernel)
  have fl_23 := hts (.fieldLink RX10 23 "OneMeasure$Ways" "row" "[I") (by decide +kernel)
  have lc_50 := hts (.constantLong RX10 50 (1000000000000)) (by decide +kernel)
  unfold f_Ways_close at hf
  refine lv_lload_n hx hb dX10_close_0 rfl (lv_at hl 1 rfl) ?_
  refine lv_ldc2 (v := (1000000000000)) hx hb hown lc_50 dX10_close_1 ?_
  refine W.lcmp hx hb dX10_close_4 ?_
  refine lv_if_le (tgt := 9) hx hb dX10_close_5 (by decide) (fun c_27 => ?_) (fun c_27 => ?_)
  · have hf := mb_if_t c_27 hf
    refine lv_aload_n hx hb dX10_close_9 rfl (lv_at hl 0 rfl) ?_
    refine va_get (D := D) (ci := 10) (v := .int (P0 0 2)) (C := RX10) (T := TX10) (N := 5) hx hb hts iw_Ways hown hK hP 0 rfl rfl 2 (by decide) fl_19 (fun _ h9 => h9) rfl dX10_close_10 ?_
    obtain ⟨J47_2, eJ47_2, hf⟩ := mb_jn_s hf
    have j47_3 : ∀ (y_1 : Int32) (H : Heap) (locs : List Loc) (ls : Array Slot), J47_2 y_1 = some z → va_P D vwCl (wC_Ways k b0 P0 L0) H → va_D A (wC_Ways k b0 P0 L0) → va_S A s.heap H locs → lv_has ls 6 [(0, .ref (b0 0)), (1, .long x1), (3, .int x3)] → W p l e rm_Ways_close s m args below meth c H locs 0 0 Q (F0 m 47 ls [.int y_1]) := by
      intro y_1 H locs ls hf hP hD hS hl
      have hf := mb_j1 eJ47_2 hf
      obtain ⟨x4_4, e_, hf⟩ := mb_let_s hf
      refine mb_topi e_ ?_
      clear e_
      refine lv_istore (lv' := [(4, .int x4_4), (0, .ref (b0 0)), (1, .long x1), (3, .int x3)]) hx hb dX10_close_47 hl (by decide) rfl (fun ls hl => ?_)
      refine lv_iload hx hb dX10_close_49 (lv_at hl 0 rfl) ?_
      refine lv_if_ne (tgt := 55) hx hb dX10_close_51 (by decide) (fun c_18 => ?_) (fun c_18 => ?_)
      · have hf := mb_if_f c_18 hf
        refine lv_aload_n hx hb dX10_close_55 rfl (lv_at hl 1 rfl) ?_
        refine lv_lload_n hx hb dX10_close_56 rfl (lv_at hl 2 rfl) ?_
        obtain ⟨L0_5, e_, hf⟩ := mb_let_s hf
        refine va_put (D := D) (ci := 10) (v := .long x1) (ty := .long) (C := RX10) (T := TX10) (N := 5) hx hb hts iw_Ways tyX10 tyX10_ok nmX10 hown hK hP hD hS 0 rfl rfl 1 (by decide) fl_15 (fun _ h9 => h9) rfl (by decide +kernel) rfl rfl (Nat.le_of_ble_eq_true rfl) dX10_close_57 (fun H locs hP hD hS => ?_)
        have hP : va_P D vwCl (wC_Ways k b0 P0 L0_5) H := by rw [e_]; exact hP
        have hD : va_D A (wC_Ways k b0 P0 L0_5) := by rw [e_]; exact hD
        clear e_
        refine lv_aload_n hx hb dX10_close_60 rfl (lv_at hl 1 rfl) ?_
        refine lv_iload_n hx hb dX10_close_61 rfl (lv_at hl 3 rfl) ?_
        obtain ⟨P0_6, e_, hf⟩ := mb_let_s hf
        refine va_put (D := D) (ci := 10) (v := .int x3) (ty := .int) (C := RX10) (T := TX10) (N := 5) hx hb hts iw_Ways tyX10 tyX10_ok nmX10 hown hK hP hD hS 0 rfl rfl 2 (by decide) fl_19 (fun _ h9 => h9) rfl (by decide +kernel) rfl rfl (Nat.le_of_ble_eq_true rfl) dX10_close_62 (fun H locs hP hD hS => ?_)
        have hP : va_P D vwCl (wC_Ways k b0 P0_6 L0_5) H := by rw [e_]; exact hP
        have hD : va_D A (wC_Ways k b0 P0_6 L0_5) := by rw [e_]; exact hD
        clear e_
        refine lv_iconst (v := 0) hx hb dX10_close_65 (by decide) ?_
        obtain ⟨x5_7, e_, hf⟩ := mb_let_s hf
        refine mb_topi e_ ?_
        clear e_
        refine lv_istore (lv' := [(5, .int x5_7), (4, .int x4_4), (0, .ref (b0 0)), (1, .long x1), (3, .int x3)]) hx hb dX10_close_66 hl (by decide) rfl (fun ls hl => ?_)
        have lp68_8 : ∀ (n : Nat) (x5_10 : Int32) (P0_11 : PI) (H : Heap) (locs : List Loc) (ls : Array Slot), f_Ways_close_68 L0_5 x3 n x5_10 P0_11 = some z → va_P D vwCl (wC_Ways k b0 P0_11 L0_5) H → va_D A (wC_Ways k b0 P0_11 L0_5) → va_S A s.heap H locs → lv_has ls 6 [(0, .ref (b0 0)), (3, .int x3), (5, .int x5_10)] → W p l e rm_Ways_close s m args below meth c H locs 0 0 Q (F0 m 68 ls []) := by
          intro n
          induction n with
          | zero =>
            intro x5_10 P0_11 H locs ls hf
            exact nomatch (show (none : Option (PI × PL)) = some z from hf)
          | succ n ih_9 =>
            intro x5_10 P0_11 H locs ls hf hP hD hS hl
            have hf : f_Ways_close_68_b L0_5 x3 (f_Ways_close_68 L0_5 x3 n) x5_10 P0_11 = some z := hf
            unfold f_Ways_close_68_b at hf
            refine lv_iload hx hb dX10_close_68 (lv_at hl 2 rfl) ?_
            refine lv_iload_n hx hb dX10_close_70 rfl (lv_at hl 1 rfl) ?_
            refine lv_icmp_ge (tgt := 94) hx hb dX10_close_71 (by decide) (fun c_17 => ?_) (fun c_17 => ?_)
            · have hf := mb_if_t c_17 hf
              have hz := Option.some.inj hf
              subst hz
              exact hret _ _ _ _ dX10_close_94 hP hD hS
            · have hf := mb_if_f c_17 hf
              refine lv_aload_n hx hb dX10_close_74 rfl (lv_at hl 0 rfl) ?_
              refine va_get (D := D) (ci := 10) (v := .ref (b0 1)) (C := RX10) (T := TX10) (N := 5) hx hb hts iw_Ways hown hK hP 0 rfl rfl 0 (by decide) fl_11 (fun _ h9 => h9) rfl dX10_close_75 ?_
              refine lv_iload hx hb dX10_close_78 (lv_at hl 2 rfl) ?_
              refine lv_aload_n hx hb dX10_close_80 rfl (lv_at hl 0 rfl) ?_
              refine va_get (D := D) (ci := 10) (v := .ref (b0 4)) (C := RX10) (T := TX10) (N := 5) hx hb hts iw_Ways hown hK hP 0 rfl rfl 3 (by decide) fl_23 (fun _ h9 => h9) rfl dX10_close_81 ?_
              refine lv_iload hx hb dX10_close_84 (lv_at hl 2 rfl) ?_
              obtain ⟨h_13, hf⟩ := mb_chk_s hf
              refine va_iald hx hb hK hP 2 0 rfl rfl h_13 dX10_close_86 ?_
              obtain ⟨h_15, hf⟩ := mb_chk_s hf
              obtain ⟨P0_14, e_, hf⟩ := mb_let_s hf
              refine va_iast hx hb hK hP hD hS 1 0 rfl rfl h_15 dX10_close_87 (fun H locs hP hD hS => ?_)
              have hP : va_P D vwCl (wC_Ways k b0 P0_14 L0_5) H := by rw [e_]; exact hP
              have hD : va_D A (wC_Ways k b0 P0_14 L0_5) := by rw [e_]; exact hD
              clear e_
              obtain ⟨x5_16, e_, hf⟩ := mb_let_s hf
              refine lv_iinc (v := x5_16) (lv' := [(5, .int x5_16), (0, .ref (b0 0)), (3, .int x3)]) hx hb dX10_close_88 hl (k := 2) rfl (by rw [e_]; rfl) (by decide) rfl (fun ls hl => ?_)
              clear e_
              refine lv_goto (tgt := 68) hx hb dX10_close_91 (by decide) ?_
              exact ih_9 x5_16 P0_14 _ _ _ hf hP hD hS (lv_sub hl [1, 2, 0] rfl)
        exact lp68_8 mb_fu x5_7 P0_6 _ _ _ hf hP hD hS (lv_sub hl [2, 4, 0] rfl)
      · have hf := mb_if_t c_18 hf
        have hz := Option.some.inj hf
        subst hz
        exact hret _ _ _ _ dX10_close_54 hP hD hS
    obtain ⟨J42_19, eJ42_19, hf⟩ := mb_jn_s hf
    have j42_20 : ∀ (H : Heap) (locs : List Loc) (ls : Array Slot), J42_19 = some z → va_P D vwCl (wC_Ways k b0 P0 L0) H → va_D A (wC_Ways k b0 P0 L0) → va_S A s.heap H locs → lv_has ls 6 [(0, .ref (b0 0)), (1, .long x1), (3, .int x3)] → W p l e rm_Ways_close s m args below meth c H locs 0 0 Q (F0 m 42 ls []) := by
      intro  H locs ls hf hP hD hS hl
      have hf := mb_j0 eJ42_19 hf
      refine lv_iconst (v := 1) hx hb dX10_close_42 (by decide) ?_
      refine lv_goto (tgt := 47) hx hb dX10_close_43 (by decide) ?_
      exact j47_3 (1 : Int32) _ _ _ hf hP hD hS (lv_sub hl [0, 1, 2] rfl)
    refine lv_if_eq (tgt := 42) hx hb dX10_close_13 (by decide) (fun c_26 => ?_) (fun c_26 => ?_)
    · have hf := mb_if_t c_26 hf
      exact j42_20  _ _ _ hf hP hD hS (lv_sub hl [0, 1, 2] rfl)
    · have hf := mb_if_f c_26 hf
      refine lv_lload_n hx hb dX10_close_16 rfl (lv_at hl 1 rfl) ?_
      refine lv_aload_n hx hb dX10_close_17 rfl (lv_at hl 0 rfl) ?_
      refine va_get (D := D) (ci := 10) (v := .long (L0 0 1)) (C := RX10) (T := TX10) (N := 5) hx hb hts iw_Ways hown hK hP 0 rfl rfl 1 (by decide) fl_15 (fun _ h9 => h9) rfl dX10_close_18 ?_
      refine W.lcmp hx hb dX10_close_21 ?_
      refine lv_if_gt (tgt := 42) hx hb dX10_close_22 (by decide) (fun c_25 => ?_) (fun c_25 => ?_)
      · have hf := mb_if_t c_25 hf
        exact j42_20  _ _ _ hf hP hD hS (lv_sub hl [0, 1, 2] rfl)
      · have hf := mb_if_f c_25 hf
        refine lv_lload_n hx hb dX10_close_25 rfl (lv_at hl 1 rfl) ?_
        refine lv_aload_n hx hb dX10_close_26 rfl (lv_at hl 0 rfl) ?_
        refine va_get (D := D) (ci := 10) (v := .long (L0 0 1)) (C := RX10) (T := TX10) (N := 5) hx hb hts iw_Ways hown hK hP 0 rfl rfl 1 (by decide) fl_15 (fun _ h9 => h9) rfl dX10_close_27 ?_
        refine W.lcmp hx hb dX10_close_30 ?_
        obtain ⟨J46_21, eJ46_21, hf⟩ := mb_jn_s hf
        have j46_22 : ∀ (H : Heap) (locs : List Loc) (ls : Array Slot), J46_21 = some z → va_P D vwCl (wC_Ways k b0 P0 L0) H → va_D A (wC_Ways k b0 P0 L0) → va_S A s.heap H locs → lv_has ls 6 [(0, .ref (b0 0)), (1, .long x1), (3, .int x3)] → W p l e rm_Ways_close s m args below meth c H locs 0 0 Q (F0 m 46 ls []) := by
          intro  H locs ls hf hP hD hS hl
          have hf := mb_j0 eJ46_21 hf
          refine lv_iconst (v := 0) hx hb dX10_close_46 (by decide) ?_
          exact j47_3 (0 : Int32) _ _ _ hf hP hD hS (lv_sub hl [0, 1, 2] rfl)
        refine lv_if_ne (tgt := 46) hx hb dX10_close_31 (by decide) (fun c_24 => ?_) (fun c_24 => ?_)
        · have hf := mb_if_f c_24 hf
          exact j46_22  _ _ _ hf hP hD hS (lv_sub hl [0, 1, 2] rfl)
        · have hf := mb_if_t c_24 hf
          refine lv_iload_n hx hb dX10_close_34 rfl (lv_at hl 2 rfl) ?_
          refine lv_aload_n hx hb dX10_close_35 rfl (lv_at hl 0 rfl) ?_
          refine va_get (D := D) (ci := 10) (v := .int (P0 0 2)) (C := RX10) (T := TX10) (N := 5) hx hb hts iw_Ways hown hK hP 0 rfl rfl 2 (by decide) fl_19 (fun _ h9 => h9) rfl dX10_close_36 ?_
          refine lv_icmp_ge (tgt := 46) hx hb dX10_close_39 (by decide) (fun c_23 => ?_) (fun c_23 => ?_)
          · have hf := mb_if_t c_23 hf
            exact j46_22  _ _ _ hf hP hD hS (lv_sub hl [0, 1, 2] rfl)
          · have hf := mb_if_f c_23 hf
            exact j42_20  _ _ _ hf hP hD hS (lv_sub hl [0, 1, 2] rfl)
  · have hf := mb_if_f c_27 hf
    have hz := Option.some.inj hf
    subst hz
    exact hret _ _ _ _ dX10_close_8 hP hD hS
def f_Ways_walk_63_b (P1 : PI) (x2 : Int32) (x3 : Int64) (x5 : Int32) (x7_4 : Int32) (rc : PI → PL → PI → Int32 → Int64 → Int32 → Option (PI × PL)) (self_16 : Int32 → PI → PL → Option (PI × PL)) (x8_13 : Int32) (P0_14 : PI) (L0_15 : PL) : Option (PI × PL) := (if (16 : Int32) ≤ x8_13 then some (P0_14, L0_15) else (if ((x5 >>> (x8_13 &&& 31)) &&& (1 : Int32)) = 0 then mb_bd1 (f_Tables_has P1 x7_4 x8_13) (fun (r_18 : Int32) => (if r_18 = 0 then mb_let (x8_13 + (1 : Int32)) (fun (x8_28 : Int32) => self_16 x8_28 P0_14 L0_15) else mb_bd1 (f_Tables_turned P1 x7_4 x8_13 x3) (fun (r_19 : Int64) => mb_let r_19 (fun (x9_20 : Int64) => (if (lg_cmp x9_20 (1000000000000 : Int64)) ≤ 0 then mb_chk x2 4 (mb_let (mb_u2 P0_14 4 x2.toNatClampNeg x8_13) (fun (P0_21 : PI) => mb_bd2 (rc P0_21 L0_15 P1 (x2 + (1 : Int32)) x9_20 (x5 ||| ((1 : Int32) <<< (x8_13 &&& 31)))) (fun (P0_23 : PI) (L0_24 : PL) => mb_let (x8_13 + (1 : Int32)) (fun (x8_25 : Int32) => self_16 x8_25 P0_23 L0_24)))) else mb_let (x8_13 + (1 : Int32)) (fun (x8_26 : Int32) => self_16 x8_26 P0_14 L0_15)))))) else mb_let (x8_13 + (1 : Int32)) (fun (x8_17 : Int32) => self_16 x8_17 P0_14 L0_15)))
def f_Ways_walk_63 (P1 : PI) (x2 : Int32) (x3 : Int64) (x5 : Int32) (x7_4 : Int32) (rc : PI → PL → PI → Int32 → Int64 → Int32 → Option (PI × PL)) : Nat → Int32 → PI → PL → Option (PI × PL)
  | 0, _, _, _ => none
  | n + 1, x8_13, P0_14, L0_15 => f_Ways_walk_63_b P1 x2 x3 x5 x7_4 rc (f_Ways_walk_63 P1 x2 x3 x5 x7_4 rc n) x8_13 P0_14 L0_15
def f_Ways_walk_b (rc : PI → PL → PI → Int32 → Int64 → Int32 → Option (PI × PL)) (P0 : PI) (L0 : PL) (P1 : PI) (x2 : Int32) (x3 : Int64) (x5 : Int32) : Option (PI × PL) := (if x2 < (1 : Int32) then some (P0, L0) else (if x2 ≤ (4 : Int32) then mb_chk (0 : Int32) 4 (mb_let (P0 4 (0 : Int32).toNatClampNeg) (fun (x6_2 : Int32) => mb_chk (x2 - (1 : Int32)) 4 (mb_let (P0 4 (x2 - (1 : Int32)).toNatClampNeg) (fun (x7_4 : Int32) => mb_bd1 (f_Tables_has P1 x7_4 x6_2) (fun (r_5 : Int32) => mb_jn (fun (P0_6 : PI) (L0_7 : PL) => (if x2 = (4 : Int32) then some (P0_6, L0_7) else mb_let (0 : Int32) (fun (x8_10 : Int32) => f_Ways_walk_63 P1 x2 x3 x5 x7_4 rc mb_fu x8_10 P0_6 L0_7))) (fun J54_8 => (if r_5 = 0 then J54_8 P0 L0 else mb_bd1 (f_Tables_turned P1 x7_4 x6_2 x3) (fun (r_33 : Int64) => mb_bd2 (f_Ways_close P0 L0 r_33 x2) (fun (P0_34 : PI) (L0_35 : PL) => J54_8 P0_34 L0_35))))))))) else some (P0, L0)))
def f_Ways_walk : Nat → PI → PL → PI → Int32 → Int64 → Int32 → Option (PI × PL)
  | 0, _, _, _, _, _, _ => none
  | d + 1, P0, L0, P1, x2, x3, x5 => f_Ways_walk_b (f_Ways_walk d) P0 L0 P1 x2 x3 x5
def rm_Ways_walk (d : Nat) : Room := { frames := 1 + d, cells := 0, slots := 0, locals := 27 + 30 * d }
set_option maxHeartbeats 4000000 in
set_option maxRecDepth 100000 in
theorem c_Ways_walk (d : Nat) (l : Launch) (D : va_G) (k : Nat → ClassId) : ∀ (sz : Nat) (b0 : Nat → Nat) (b1 : Nat → Nat) (P0 : PI) (L0 : PL) (P1 : PI) (x2 : Int32) (x3 : Int64) (x5 : Int32) (z : PI × PL) (_ : f_Ways_walk d P0 L0 P1 x2 x3 x5 = some z), Met l yX10_walk wsX10_walk (rm_Ways_walk d) (va_Pc [.ref (b0 0), .ref (b1 0), .int x2, .long x3, .int x5] (gw_pre D vwCl (tyL k) (wC_Ways k b0 P0 L0 ++ (wC_Tables k b1 P1)) sz)) (va_Qv (fun (_ : Unit) => True) (gw_b D vwCl (tyL k) (va_A (wC_Ways k b0 P0 L0 ++ (wC_Tables k b1 P1)) sz) (wC_Ways k b0 z.1 z.2 ++ (wC_Tables k b1 P1))) (va_A (wC_Ways k b0 P0 L0 ++ (wC_Tables k b1 P1)) sz)) 0 0 (va_A (wC_Ways k b0 P0 L0 ++ (wC_Tables k b1 P1)) sz) := by
  induction d with
  | zero =>
    intro sz b0 b1 P0 L0 P1 x2 x3 x5 z hf
    exact nomatch (show (none : Option (PI × PL)) = some z from hf)
  | succ d ihd =>
    intro sz b0 b1 P0 L0 P1 x2 x3 x5 z hf
    refine gm_v (cc := cX10_walk) (maxL := 11) (by decide) rfl (Nat.le_of_ble_eq_true rfl) ?_
    intro p e s m args below meth c A Q ls H locs hx hb hml hown hts hK hN hA hP hD hS hl hret
    have hown : s.vm.findClass RX10 = some m.cls := hown
    have hl : lv_has ls 11 [(0, .ref (b0 0)), (1, .ref (b1 0)), (2, .int x2), (3, .long x3), (5, .int x5)] := hl
    have iw_Ways : ∀ w ∈ u_ws RX10 TX10 5, w ∈ wsX10_walk := by decide +kernel
    have fl_23 := hts (.fieldLink RX10 23 "OneMeasure$Ways" "row" "[I") (by decide +kernel)
    have lc_50 := hts (.constantLong RX10 50 (1000000000000)) (by decide +kernel)
    have hf : f_Ways_walk_b (f_Ways_walk d) P0 L0 P1 x2 x3 x5 = some z := hf
    unfold f_Ways_walk_b at hf
    refine lv_iload_n hx hb dX10_walk_0 rfl (lv_at hl 2 rfl) ?_
    refine lv_iconst (v := 1) hx hb dX10_walk_1 (by decide) ?_
    refine lv_icmp_lt (tgt := 10) hx hb dX10_walk_2 (by decide) (fun c_38 => ?_) (fun c_38 => ?_)
    · have hf := mb_if_t c_38 hf
      have hz := Option.some.inj hf
      subst hz
      exact hret _ _ _ _ dX10_walk_10 hP hD hS
    · have hf := mb_if_f c_38 hf
      refine lv_iload_n hx hb dX10_walk_5 rfl (lv_at hl 2 rfl) ?_
      refine lv_iconst (v := 4) hx hb dX10_walk_6 (by decide) ?_
      refine lv_icmp_le (tgt := 11) hx hb dX10_walk_7 (by decide) (fun c_37 => ?_) (fun c_37 => ?_)
      · have hf := mb_if_t c_37 hf
        refine lv_aload_n hx hb dX10_walk_11 rfl (lv_at hl 0 rfl) ?_
        refine va_get (D := D) (ci := 10) (v := .ref (b0 4)) (C := RX10) (T := TX10) (N := 5) hx hb hts iw_Ways hown hK hP 0 rfl rfl 3 (by decide) fl_23 (fun _ h9 => h9) rfl dX10_walk_12 ?_
        refine lv_iconst (v := 0) hx hb dX10_walk_15 (by decide) ?_
        obtain ⟨h_1, hf⟩ := mb_chk_s hf
        refine va_iald hx hb hK hP 2 0 rfl rfl h_1 dX10_walk_16 ?_
        obtain ⟨x6_2, e_, hf⟩ := mb_let_s hf
        refine mb_topi e_ ?_
        clear e_
        refine lv_istore (lv' := [(6, .int x6_2), (0, .ref (b0 0)), (1, .ref (b1 0)), (2, .int x2), (3, .long x3), (5, .int x5)]) hx hb dX10_walk_17 hl (by decide) rfl (fun ls hl => ?_)
        refine lv_aload_n hx hb dX10_walk_19 rfl (lv_at hl 1 rfl) ?_
        refine va_get (D := D) (ci := 10) (v := .ref (b0 4)) (C := RX10) (T := TX10) (N := 5) hx hb hts iw_Ways hown hK hP 0 rfl rfl 3 (by decide) fl_23 (fun _ h9 => h9) rfl dX10_walk_20 ?_
        refine lv_iload_n hx hb dX10_walk_23 rfl (lv_at hl 3 rfl) ?_
        refine lv_iconst (v := 1) hx hb dX10_walk_24 (by decide) ?_
        refine lv_isub hx hb dX10_walk_25 ?_
        obtain ⟨h_3, hf⟩ := mb_chk_s hf
        refine va_iald hx hb hK hP 2 0 rfl rfl h_3 dX10_walk_26 ?_
        obtain ⟨x7_4, e_, hf⟩ := mb_let_s hf
        refine mb_topi e_ ?_
        clear e_
        refine lv_istore (lv' := [(7, .int x7_4), (6, .int x6_2), (0, .ref (b0 0)), (1, .ref (b1 0)), (2, .int x2), (3, .long x3), (5, .int x5)]) hx hb dX10_walk_27 hl (by decide) rfl (fun ls hl => ?_)
        refine lv_aload_n hx hb dX10_walk_29 rfl (lv_at hl 3 rfl) ?_
        refine lv_iload hx hb dX10_walk_30 (lv_at hl 0 rfl) ?_
        refine lv_iload hx hb dX10_walk_32 (lv_at hl 1 rfl) ?_
        obtain ⟨r_5, hz, hf⟩ := mb_bd1_s hf
        refine gc_i (r0 := r_5) (ws' := (wC_Ways k b0 P0 L0 ++ (wC_Tables k b1 P1))) (wr := (wC_Ways k b0 P0 L0)) (va_runV (As := [.int x7_4, .int x6_2]) (rest := []) ⟨hx, hb, hml, hown, hts⟩ (c_Tables_has l D k H.size b1 P1 x7_4 x6_2 r_5 hz) (cwV 2 hts gX10_walk_X6_has rfl rfl rfl (by decide +kernel) ⟨by simp only [rm_Ways_walk, rm_Tables_has]; omega, by simp only [rm_Ways_walk, rm_Tables_has]; omega⟩) (gp_V (ci := 6) (q0 := 0) (q := (RX6, TX6, 4)) hP hD hK hN [3, 4, 5, 6] (by decide +kernel) rfl rfl rfl) rfl rfl hl.1 rfl (lv_room (Nat.le_of_ble_eq_true rfl)) dX10_walk_34 ⟨Nat.zero_le _, Nat.zero_le _⟩) hP hD hS hA [3, 4, 5, 6] [0, 1, 2] rfl rfl (by decide +kernel) (by decide +kernel) [0, 1, 2, 3, 4, 5, 6] (by decide +kernel) rfl (fun H locs hP hD hS => ?_)
        clear hz
        obtain ⟨J54_8, eJ54_8, hf⟩ := mb_jn_s hf
        have j54_9 : ∀ (P0_6 : PI) (L0_7 : PL) (H : Heap) (locs : List Loc) (ls : Array Slot), J54_8 P0_6 L0_7 = some z → va_P D vwCl (wC_Ways k b0 P0_6 L0_7 ++ (wC_Tables k b1 P1)) H → va_D A (wC_Ways k b0 P0_6 L0_7 ++ (wC_Tables k b1 P1)) → va_S A s.heap H locs → lv_has ls 11 [(0, .ref (b0 0)), (1, .ref (b1 0)), (2, .int x2), (3, .long x3), (5, .int x5), (7, .int x7_4)] → W p l e (rm_Ways_walk (d + 1)) s m args below meth c H locs 0 0 Q (F0 m 54 ls []) := by
          intro P0_6 L0_7 H locs ls hf hP hD hS hl
          have hf := mb_j2 eJ54_8 hf
          refine lv_iload_n hx hb dX10_walk_54 rfl (lv_at hl 2 rfl) ?_
          refine lv_iconst (v := 4) hx hb dX10_walk_55 (by decide) ?_
          refine lv_icmp_ne (tgt := 60) hx hb dX10_walk_56 (by decide) (fun c_32 => ?_) (fun c_32 => ?_)
          · have hf := mb_if_f c_32 hf
            refine lv_iconst (v := 0) hx hb dX10_walk_60 (by decide) ?_
            obtain ⟨x8_10, e_, hf⟩ := mb_let_s hf
            refine mb_topi e_ ?_
            clear e_
            refine lv_istore (lv' := [(8, .int x8_10), (0, .ref (b0 0)), (1, .ref (b1 0)), (2, .int x2), (3, .long x3), (5, .int x5), (7, .int x7_4)]) hx hb dX10_walk_61 hl (by decide) rfl (fun ls hl => ?_)
            have lp63_11 : ∀ (n : Nat) (x8_13 : Int32) (P0_14 : PI) (L0_15 : PL) (H : Heap) (locs : List Loc) (ls : Array Slot), f_Ways_walk_63 P1 x2 x3 x5 x7_4 (f_Ways_walk d) n x8_13 P0_14 L0_15 = some z → va_P D vwCl (wC_Ways k b0 P0_14 L0_15 ++ (wC_Tables k b1 P1)) H → va_D A (wC_Ways k b0 P0_14 L0_15 ++ (wC_Tables k b1 P1)) → va_S A s.heap H locs → lv_has ls 11 [(0, .ref (b0 0)), (1, .ref (b1 0)), (2, .int x2), (3, .long x3), (5, .int x5), (7, .int x7_4), (8, .int x8_13)] → W p l e (rm_Ways_walk (d + 1)) s m args below meth c H locs 0 0 Q (F0 m 63 ls []) := by
              intro n
              induction n with
              | zero =>
                intro x8_13 P0_14 L0_15 H locs ls hf
                exact nomatch (show (none : Option (PI × PL)) = some z from hf)
              | succ n ih_12 =>
                intro x8_13 P0_14 L0_15 H locs ls hf hP hD hS hl
                have hf : f_Ways_walk_63_b P1 x2 x3 x5 x7_4 (f_Ways_walk d) (f_Ways_walk_63 P1 x2 x3 x5 x7_4 (f_Ways_walk d) n) x8_13 P0_14 L0_15 = some z := hf
                unfold f_Ways_walk_63_b at hf
                refine lv_iload hx hb dX10_walk_63 (lv_at hl 6 rfl) ?_
                refine lv_bipush (v := 16) hx hb dX10_walk_65 (by decide) ?_
                refine lv_icmp_ge (tgt := 148) hx hb dX10_walk_67 (by decide) (fun c_31 => ?_) (fun c_31 => ?_)
                · have hf := mb_if_t c_31 hf
                  have hz := Option.some.inj hf
                  subst hz
                  exact hret _ _ _ _ dX10_walk_148 hP hD hS
                · have hf := mb_if_f c_31 hf
                  refine lv_iload hx hb dX10_walk_70 (lv_at hl 4 rfl) ?_
                  refine lv_iload hx hb dX10_walk_72 (lv_at hl 6 rfl) ?_
                  refine lv_ishr hx hb dX10_walk_74 ?_
                  refine lv_iconst (v := 1) hx hb dX10_walk_75 (by decide) ?_
                  refine lv_iand hx hb dX10_walk_76 ?_
                  refine lv_if_ne (tgt := 142) hx hb dX10_walk_77 (by decide) (fun c_30 => ?_) (fun c_30 => ?_)
                  · have hf := mb_if_f c_30 hf
                    obtain ⟨x8_17, e_, hf⟩ := mb_let_s hf
                    refine lv_iinc (v := x8_17) (lv' := [(8, .int x8_17), (0, .ref (b0 0)), (1, .ref (b1 0)), (2, .int x2), (3, .long x3), (5, .int x5), (7, .int x7_4)]) hx hb dX10_walk_142 hl (k := 6) rfl (by rw [e_]; rfl) (by decide) rfl (fun ls hl => ?_)
                    clear e_
                    refine lv_goto (tgt := 63) hx hb dX10_walk_145 (by decide) ?_
                    exact ih_12 x8_17 P0_14 L0_15 _ _ _ hf hP hD hS (lv_sub hl [1, 2, 3, 4, 5, 6, 0] rfl)
                  · have hf := mb_if_t c_30 hf
                    refine lv_aload_n hx hb dX10_walk_80 rfl (lv_at hl 1 rfl) ?_
                    refine lv_iload hx hb dX10_walk_81 (lv_at hl 5 rfl) ?_
                    refine lv_iload hx hb dX10_walk_83 (lv_at hl 6 rfl) ?_
                    obtain ⟨r_18, hz, hf⟩ := mb_bd1_s hf
                    refine gc_i (r0 := r_18) (ws' := (wC_Ways k b0 P0_14 L0_15 ++ (wC_Tables k b1 P1))) (wr := (wC_Ways k b0 P0_14 L0_15)) (va_runV (As := [.int x7_4, .int x8_13]) (rest := []) ⟨hx, hb, hml, hown, hts⟩ (c_Tables_has l D k H.size b1 P1 x7_4 x8_13 r_18 hz) (cwV 2 hts gX10_walk_X6_has rfl rfl rfl (by decide +kernel) ⟨by simp only [rm_Ways_walk, rm_Tables_has]; omega, by simp only [rm_Ways_walk, rm_Tables_has]; omega⟩) (gp_V (ci := 6) (q0 := 0) (q := (RX6, TX6, 4)) hP hD hK hN [3, 4, 5, 6] (by decide +kernel) rfl rfl rfl) rfl rfl hl.1 rfl (lv_room (Nat.le_of_ble_eq_true rfl)) dX10_walk_85 ⟨Nat.zero_le _, Nat.zero_le _⟩) hP hD hS hA [3, 4, 5, 6] [0, 1, 2] rfl rfl (by decide +kernel) (by decide +kernel) [0, 1, 2, 3, 4, 5, 6] (by decide +kernel) rfl (fun H locs hP hD hS => ?_)
                    clear hz
                    refine lv_if_ne (tgt := 94) hx hb dX10_walk_88 (by decide) (fun c_29 => ?_) (fun c_29 => ?_)
                    · have hf := mb_if_f c_29 hf
                      refine lv_aload_n hx hb dX10_walk_94 rfl (lv_at hl 1 rfl) ?_
                      refine lv_iload hx hb dX10_walk_95 (lv_at hl 5 rfl) ?_
                      refine lv_iload hx hb dX10_walk_97 (lv_at hl 6 rfl) ?_
                      refine lv_lload_n hx hb dX10_walk_99 rfl (lv_at hl 3 rfl) ?_
                      obtain ⟨r_19, hz, hf⟩ := mb_bd1_s hf
                      refine gc_l (r0 := r_19) (ws' := (wC_Ways k b0 P0_14 L0_15 ++ (wC_Tables k b1 P1))) (wr := (wC_Ways k b0 P0_14 L0_15)) (va_runV (As := [.int x7_4, .int x8_13, .long x3]) (rest := []) ⟨hx, hb, hml, hown, hts⟩ (c_Tables_turned l D k H.size b1 P1 x7_4 x8_13 x3 r_19 hz) (cwV 3 hts gX10_walk_X6_turned rfl rfl rfl (by decide +kernel) ⟨by simp only [rm_Ways_walk, rm_Tables_turned]; omega, by simp only [rm_Ways_walk, rm_Tables_turned]; omega⟩) (gp_V (ci := 6) (q0 := 0) (q := (RX6, TX6, 4)) hP hD hK hN [3, 4, 5, 6] (by decide +kernel) rfl rfl rfl) rfl rfl hl.1 rfl (lv_room (Nat.le_of_ble_eq_true rfl)) dX10_walk_100 ⟨Nat.zero_le _, Nat.zero_le _⟩) hP hD hS hA [3, 4, 5, 6] [0, 1, 2] rfl rfl (by decide +kernel) (by decide +kernel) [0, 1, 2, 3, 4, 5, 6] (by decide +kernel) rfl (fun H locs hP hD hS => ?_)
                      clear hz
                      obtain ⟨x9_20, e_, hf⟩ := mb_let_s hf
                      refine mb_topl e_ ?_
                      clear e_
                      refine lv_lstore (lv' := [(9, .long x9_20), (0, .ref (b0 0)), (1, .ref (b1 0)), (2, .int x2), (3, .long x3), (5, .int x5), (7, .int x7_4), (8, .int x8_13)]) hx hb dX10_walk_103 hl (by decide) rfl (fun ls hl => ?_)
                      refine lv_lload hx hb dX10_walk_105 (lv_at hl 0 rfl) ?_
                      refine lv_ldc2 (v := (1000000000000)) hx hb hown lc_50 dX10_walk_107 ?_
                      refine W.lcmp hx hb dX10_walk_110 ?_
                      refine lv_if_le (tgt := 117) hx hb dX10_walk_111 (by decide) (fun c_27 => ?_) (fun c_27 => ?_)
                      · have hf := mb_if_t c_27 hf
                        refine lv_aload_n hx hb dX10_walk_117 rfl (lv_at hl 1 rfl) ?_
                        refine va_get (D := D) (ci := 10) (v := .ref (b0 4)) (C := RX10) (T := TX10) (N := 5) hx hb hts iw_Ways hown hK hP 0 rfl rfl 3 (by decide) fl_23 (fun _ h9 => h9) rfl dX10_walk_118 ?_
                        refine lv_iload_n hx hb dX10_walk_121 rfl (lv_at hl 3 rfl) ?_
                        refine lv_iload hx hb dX10_walk_122 (lv_at hl 7 rfl) ?_
                        obtain ⟨h_22, hf⟩ := mb_chk_s hf
                        obtain ⟨P0_21, e_, hf⟩ := mb_let_s hf
                        refine va_iast hx hb hK hP hD hS 2 0 rfl rfl h_22 dX10_walk_124 (fun H locs hP hD hS => ?_)
                        have hP : va_P D vwCl (wC_Ways k b0 P0_21 L0_15 ++ (wC_Tables k b1 P1)) H := by rw [e_]; exact hP
                        have hD : va_D A (wC_Ways k b0 P0_21 L0_15 ++ (wC_Tables k b1 P1)) := by rw [e_]; exact hD
                        clear e_
                        refine lv_aload_n hx hb dX10_walk_125 rfl (lv_at hl 1 rfl) ?_
                        refine lv_aload_n hx hb dX10_walk_126 rfl (lv_at hl 2 rfl) ?_
                        refine lv_iload_n hx hb dX10_walk_127 rfl (lv_at hl 3 rfl) ?_
                        refine lv_iconst (v := 1) hx hb dX10_walk_128 (by decide) ?_
                        refine lv_iadd hx hb dX10_walk_129 ?_
                        refine lv_lload hx hb dX10_walk_130 (lv_at hl 0 rfl) ?_
                        refine lv_iload hx hb dX10_walk_132 (lv_at hl 5 rfl) ?_
                        refine lv_iconst (v := 1) hx hb dX10_walk_134 (by decide) ?_
                        refine lv_iload hx hb dX10_walk_135 (lv_at hl 7 rfl) ?_
                        refine lv_ishl hx hb dX10_walk_137 ?_
                        refine lv_ior hx hb dX10_walk_138 ?_
                        obtain ⟨P0_23, L0_24, hz, hf⟩ := mb_bd2_s hf
                        refine gc_v (ws' := (wC_Ways k b0 P0_23 L0_24 ++ (wC_Tables k b1 P1))) (wr := ([] : va_W)) (va_runS (As := [.ref (b0 0), .ref (b1 0), .int (x2 + (1 : Int32)), .long x9_20, .int (x5 ||| ((1 : Int32) <<< (x8_13 &&& 31)))]) (rest := []) ⟨hx, hb, hml, hown, hts⟩ (ihd H.size b0 b1 P0_21 L0_15 P1 (x2 + (1 : Int32)) x9_20 (x5 ||| ((1 : Int32) <<< (x8_13 &&& 31))) (P0_23, L0_24) hz) (cwS 5 hts gX10_walk_X10_walk rfl rfl rfl (by decide +kernel) ⟨by simp only [rm_Ways_walk]; omega, by simp only [rm_Ways_walk]; omega⟩) (gp_S hP hD hK hN [0, 1, 2, 3, 4, 5, 6] (by decide +kernel) rfl) rfl rfl hl.1 rfl (lv_room (Nat.le_of_ble_eq_true rfl)) dX10_walk_139 ⟨Nat.zero_le _, Nat.zero_le _⟩) hP hD hS hA [0, 1, 2, 3, 4, 5, 6] [] rfl rfl (by decide +kernel) (by decide +kernel) [0, 1, 2, 3, 4, 5, 6] (by decide +kernel) rfl (fun H locs hP hD hS => ?_)
                        clear hz
                        obtain ⟨x8_25, e_, hf⟩ := mb_let_s hf
                        refine lv_iinc (v := x8_25) (lv' := [(8, .int x8_25), (9, .long x9_20), (0, .ref (b0 0)), (1, .ref (b1 0)), (2, .int x2), (3, .long x3), (5, .int x5), (7, .int x7_4)]) hx hb dX10_walk_142 hl (k := 7) rfl (by rw [e_]; rfl) (by decide) rfl (fun ls hl => ?_)
                        clear e_
                        refine lv_goto (tgt := 63) hx hb dX10_walk_145 (by decide) ?_
                        exact ih_12 x8_25 P0_23 L0_24 _ _ _ hf hP hD hS (lv_sub hl [2, 3, 4, 5, 6, 7, 0] rfl)
                      · have hf := mb_if_f c_27 hf
                        refine lv_goto (tgt := 142) hx hb dX10_walk_114 (by decide) ?_
                        obtain ⟨x8_26, e_, hf⟩ := mb_let_s hf
                        refine lv_iinc (v := x8_26) (lv' := [(8, .int x8_26), (9, .long x9_20), (0, .ref (b0 0)), (1, .ref (b1 0)), (2, .int x2), (3, .long x3), (5, .int x5), (7, .int x7_4)]) hx hb dX10_walk_142 hl (k := 7) rfl (by rw [e_]; rfl) (by decide) rfl (fun ls hl => ?_)
                        clear e_
                        refine lv_goto (tgt := 63) hx hb dX10_walk_145 (by decide) ?_
                        exact ih_12 x8_26 P0_14 L0_15 _ _ _ hf hP hD hS (lv_sub hl [2, 3, 4, 5, 6, 7, 0] rfl)
                    · have hf := mb_if_t c_29 hf
                      refine lv_goto (tgt := 142) hx hb dX10_walk_91 (by decide) ?_
                      obtain ⟨x8_28, e_, hf⟩ := mb_let_s hf
                      refine lv_iinc (v := x8_28) (lv' := [(8, .int x8_28), (0, .ref (b0 0)), (1, .ref (b1 0)), (2, .int x2), (3, .long x3), (5, .int x5), (7, .int x7_4)]) hx hb dX10_walk_142 hl (k := 6) rfl (by rw [e_]; rfl) (by decide) rfl (fun ls hl => ?_)
                      clear e_
                      refine lv_goto (tgt := 63) hx hb dX10_walk_145 (by decide) ?_
                      exact ih_12 x8_28 P0_14 L0_15 _ _ _ hf hP hD hS (lv_sub hl [1, 2, 3, 4, 5, 6, 0] rfl)
            exact lp63_11 mb_fu x8_10 P0_6 L0_7 _ _ _ hf hP hD hS (lv_sub hl [1, 2, 3, 4, 5, 6, 0] rfl)
          · have hf := mb_if_t c_32 hf
            have hz := Option.some.inj hf
            subst hz
            exact hret _ _ _ _ dX10_walk_59 hP hD hS
        refine lv_if_eq (tgt := 54) hx hb dX10_walk_37 (by decide) (fun c_36 => ?_) (fun c_36 => ?_)
        · have hf := mb_if_t c_36 hf
          exact j54_9 P0 L0 _ _ _ hf hP hD hS (lv_sub hl [2, 3, 4, 5, 6, 0] rfl)
        · have hf := mb_if_f c_36 hf
          refine lv_aload_n hx hb dX10_walk_40 rfl (lv_at hl 2 rfl) ?_
          refine lv_aload_n hx hb dX10_walk_41 rfl (lv_at hl 3 rfl) ?_
          refine lv_iload hx hb dX10_walk_42 (lv_at hl 0 rfl) ?_
          refine lv_iload hx hb dX10_walk_44 (lv_at hl 1 rfl) ?_
          refine lv_lload_n hx hb dX10_walk_46 rfl (lv_at hl 5 rfl) ?_
          obtain ⟨r_33, hz, hf⟩ := mb_bd1_s hf
          refine gc_l (r0 := r_33) (ws' := (wC_Ways k b0 P0 L0 ++ (wC_Tables k b1 P1))) (wr := (wC_Ways k b0 P0 L0)) (va_runV (As := [.int x7_4, .int x6_2, .long x3]) (rest := [.ref (b0 0)]) ⟨hx, hb, hml, hown, hts⟩ (c_Tables_turned l D k H.size b1 P1 x7_4 x6_2 x3 r_33 hz) (cwV 3 hts gX10_walk_X6_turned rfl rfl rfl (by decide +kernel) ⟨by simp only [rm_Ways_walk, rm_Tables_turned]; omega, by simp only [rm_Ways_walk, rm_Tables_turned]; omega⟩) (gp_V (ci := 6) (q0 := 0) (q := (RX6, TX6, 4)) hP hD hK hN [3, 4, 5, 6] (by decide +kernel) rfl rfl rfl) rfl rfl hl.1 rfl (lv_room (Nat.le_of_ble_eq_true rfl)) dX10_walk_47 ⟨Nat.zero_le _, Nat.zero_le _⟩) hP hD hS hA [3, 4, 5, 6] [0, 1, 2] rfl rfl (by decide +kernel) (by decide +kernel) [0, 1, 2, 3, 4, 5, 6] (by decide +kernel) rfl (fun H locs hP hD hS => ?_)
          clear hz
          refine lv_iload_n hx hb dX10_walk_50 rfl (lv_at hl 4 rfl) ?_
          obtain ⟨P0_34, L0_35, hz, hf⟩ := mb_bd2_s hf
          refine gc_v (ws' := (wC_Ways k b0 P0_34 L0_35 ++ (wC_Tables k b1 P1))) (wr := (wC_Tables k b1 P1)) (va_runV (As := [.long r_33, .int x2]) (rest := []) ⟨hx, hb, hml, hown, hts⟩ (c_Ways_close l D k H.size b0 P0 L0 r_33 x2 (P0_34, L0_35) hz) (cwV 2 hts gX10_walk_X10_close rfl rfl rfl (by decide +kernel) ⟨by simp only [rm_Ways_walk, rm_Ways_close]; omega, by simp only [rm_Ways_walk, rm_Ways_close]; omega⟩) (gp_V (ci := 10) (q0 := 0) (q := (RX10, TX10, 5)) hP hD hK hN [0, 1, 2] (by decide +kernel) rfl rfl rfl) rfl rfl hl.1 rfl (lv_room (Nat.le_of_ble_eq_true rfl)) dX10_walk_51 ⟨Nat.zero_le _, Nat.zero_le _⟩) hP hD hS hA [0, 1, 2] [3, 4, 5, 6] rfl rfl (by decide +kernel) (by decide +kernel) [4, 5, 6, 0, 1, 2, 3] (by decide +kernel) rfl (fun H locs hP hD hS => ?_)
          clear hz
          exact j54_9 P0_34 L0_35 _ _ _ hf hP hD hS (lv_sub hl [2, 3, 4, 5, 6, 0] rfl)
      · have hf := mb_if_f c_37 hf
        have hz := Option.some.inj hf
        subst hz
        exact hret _ _ _ _ dX10_walk_10 hP hD hS
def f_Ways_find_20_b (P1 : PI) (K51_6 : PI → PL → Option (PI × PL)) (self_14 : Int32 → PI → PL → Option (PI × PL)) (x2_11 : Int32) (P0_12 : PI) (L0_13 : PL) : Option (PI × PL) := (if (16 : Int32) ≤ x2_11 then K51_6 P0_12 L0_13 else mb_chk (0 : Int32) 4 (mb_let (mb_u2 P0_12 4 (0 : Int32).toNatClampNeg x2_11) (fun (P0_15 : PI) => mb_bd2 (f_Ways_walk mb_dp P0_15 L0_13 P1 (1 : Int32) (1000000 : Int64) ((1 : Int32) <<< (x2_11 &&& 31))) (fun (P0_17 : PI) (L0_18 : PL) => mb_let (x2_11 + (1 : Int32)) (fun (x2_19 : Int32) => self_14 x2_19 P0_17 L0_18)))))
def f_Ways_find_20 (P1 : PI) (K51_6 : PI → PL → Option (PI × PL)) : Nat → Int32 → PI → PL → Option (PI × PL)
  | 0, _, _, _ => none
  | n + 1, x2_11, P0_12, L0_13 => f_Ways_find_20_b P1 K51_6 (f_Ways_find_20 P1 K51_6 n) x2_11 P0_12 L0_13
def f_Ways_find (P0 : PI) (L0 : PL) (P1 : PI) : Option (PI × PL) := (if (P0 0 4) = 0 then mb_let (mb_uo P0 2 (0 : Int32)) (fun (P0_1 : PI) => mb_let (mb_uoL L0 1 (0 : Int64)) (fun (L0_2 : PL) => mb_let (0 : Int32) (fun (x2_3 : Int32) => mb_jn (fun (P0_4 : PI) (L0_5 : PL) => mb_let (mb_uo P0_4 4 (1 : Int32)) (fun (P0_8 : PI) => some (P0_8, L0_5))) (fun K51_6 => f_Ways_find_20 P1 K51_6 mb_fu x2_3 P0_1 L0_2)))) else some (P0, L0))
def rm_Ways_find : Room := { frames := 10, cells := 0, slots := 0, locals := 297 }
set_option maxHeartbeats 4000000 in
set_option maxRecDepth 100000 in
theorem c_Ways_find (l : Launch) (D : va_G) (k : Nat → ClassId) (sz : Nat) (b0 : Nat → Nat) (b1 : Nat → Nat) (P0 : PI) (L0 : PL) (P1 : PI) (z : PI × PL) (hf : f_Ways_find P0 L0 P1 = some z) : Met l yX10_find wsX10_find rm_Ways_find (va_Pc [.ref (b0 0), .ref (b1 0)] (gw_pre D vwCl (tyL k) (wC_Ways k b0 P0 L0 ++ (wC_Tables k b1 P1)) sz)) (va_Qv (fun (_ : Unit) => True) (gw_b D vwCl (tyL k) (va_A (wC_Ways k b0 P0 L0 ++ (wC_Tables k b1 P1)) sz) (wC_Ways k b0 z.1 z.2 ++ (wC_Tables k b1 P1))) (va_A (wC_Ways k b0 P0 L0 ++ (wC_Tables k b1 P1)) sz)) 0 0 (va_A (wC_Ways k b0 P0 L0 ++ (wC_Tables k b1 P1)) sz) := by
  refine gm_v (cc := cX10_find) (maxL := 3) (by decide) rfl (Nat.le_of_ble_eq_true rfl) ?_
  intro p e s m args below meth c A Q ls H locs hx hb hml hown hts hK hN hA hP hD hS hl hret
  have hown : s.vm.findClass RX10 = some m.cls := hown
  have hl : lv_has ls 3 [(0, .ref (b0 0)), (1, .ref (b1 0))] := hl
  have iw_Ways : ∀ w ∈ u_ws RX10 TX10 5, w ∈ wsX10_find := by decide +kernel
  have fl_15 := hts (.fieldLink RX10 15 "OneMeasure$Ways" "amount" "J") (by decide +kernel)
  have fl_19 := hts (.fieldLink RX10 19 "OneMeasure$Ways" "length" "I") (by decide +kernel)
  have fl_23 := hts (.fieldLink RX10 23 "OneMeasure$Ways" "row" "[I") (by decide +kernel)
  have fl_26 := hts (.fieldLink RX10 26 "OneMeasure$Ways" "known" "Z") (by decide +kernel)
  have lc_30 := hts (.constantLong RX10 30 (1000000)) (by decide +kernel)
  unfold f_Ways_find at hf
  refine lv_aload_n hx hb dX10_find_0 rfl (lv_at hl 0 rfl) ?_
  refine va_get (D := D) (ci := 10) (v := .int (P0 0 4)) (C := RX10) (T := TX10) (N := 5) hx hb hts iw_Ways hown hK hP 0 rfl rfl 4 (by decide) fl_26 (fun _ h9 => h9) rfl dX10_find_1 ?_
  refine lv_if_eq (tgt := 8) hx hb dX10_find_4 (by decide) (fun c_21 => ?_) (fun c_21 => ?_)
  · have hf := mb_if_t c_21 hf
    refine lv_aload_n hx hb dX10_find_8 rfl (lv_at hl 0 rfl) ?_
    refine lv_iconst (v := 0) hx hb dX10_find_9 (by decide) ?_
    obtain ⟨P0_1, e_, hf⟩ := mb_let_s hf
    refine va_put (D := D) (ci := 10) (v := .int (0 : Int32)) (ty := .int) (C := RX10) (T := TX10) (N := 5) hx hb hts iw_Ways tyX10 tyX10_ok nmX10 hown hK hP hD hS 0 rfl rfl 2 (by decide) fl_19 (fun _ h9 => h9) rfl (by decide +kernel) rfl rfl (Nat.le_of_ble_eq_true rfl) dX10_find_10 (fun H locs hP hD hS => ?_)
    have hP : va_P D vwCl (wC_Ways k b0 P0_1 L0 ++ (wC_Tables k b1 P1)) H := by rw [e_]; exact hP
    have hD : va_D A (wC_Ways k b0 P0_1 L0 ++ (wC_Tables k b1 P1)) := by rw [e_]; exact hD
    clear e_
    refine lv_aload_n hx hb dX10_find_13 rfl (lv_at hl 0 rfl) ?_
    refine lv_lconst (v := 0) hx hb dX10_find_14 (by decide) ?_
    obtain ⟨L0_2, e_, hf⟩ := mb_let_s hf
    refine va_put (D := D) (ci := 10) (v := .long (0 : Int64)) (ty := .long) (C := RX10) (T := TX10) (N := 5) hx hb hts iw_Ways tyX10 tyX10_ok nmX10 hown hK hP hD hS 0 rfl rfl 1 (by decide) fl_15 (fun _ h9 => h9) rfl (by decide +kernel) rfl rfl (Nat.le_of_ble_eq_true rfl) dX10_find_15 (fun H locs hP hD hS => ?_)
    have hP : va_P D vwCl (wC_Ways k b0 P0_1 L0_2 ++ (wC_Tables k b1 P1)) H := by rw [e_]; exact hP
    have hD : va_D A (wC_Ways k b0 P0_1 L0_2 ++ (wC_Tables k b1 P1)) := by rw [e_]; exact hD
    clear e_
    refine lv_iconst (v := 0) hx hb dX10_find_18 (by decide) ?_
    obtain ⟨x2_3, e_, hf⟩ := mb_let_s hf
    refine mb_topi e_ ?_
    clear e_
    refine lv_istore_n (lv' := [(2, .int x2_3), (0, .ref (b0 0)), (1, .ref (b1 0))]) hx hb dX10_find_19 rfl hl (by decide) rfl (fun ls hl => ?_)
    obtain ⟨K51_6, eK51_6, hf⟩ := mb_jn_s hf
    have k51_7 : ∀ (P0_4 : PI) (L0_5 : PL) (H : Heap) (locs : List Loc) (ls : Array Slot), K51_6 P0_4 L0_5 = some z → va_P D vwCl (wC_Ways k b0 P0_4 L0_5 ++ (wC_Tables k b1 P1)) H → va_D A (wC_Ways k b0 P0_4 L0_5 ++ (wC_Tables k b1 P1)) → va_S A s.heap H locs → lv_has ls 3 [(0, .ref (b0 0))] → W p l e rm_Ways_find s m args below meth c H locs 0 0 Q (F0 m 51 ls []) := by
      intro P0_4 L0_5 H locs ls hf hP hD hS hl
      have hf := mb_j2 eK51_6 hf
      refine lv_aload_n hx hb dX10_find_51 rfl (lv_at hl 0 rfl) ?_
      refine lv_iconst (v := 1) hx hb dX10_find_52 (by decide) ?_
      obtain ⟨P0_8, e_, hf⟩ := mb_let_s hf
      refine va_put (D := D) (ci := 10) (v := .int (1 : Int32)) (ty := .boolean) (C := RX10) (T := TX10) (N := 5) hx hb hts iw_Ways tyX10 tyX10_ok nmX10 hown hK hP hD hS 0 rfl rfl 4 (by decide) fl_26 (fun _ h9 => h9) rfl (by decide +kernel) rfl rfl (Nat.le_of_ble_eq_true rfl) dX10_find_53 (fun H locs hP hD hS => ?_)
      have hP : va_P D vwCl (wC_Ways k b0 P0_8 L0_5 ++ (wC_Tables k b1 P1)) H := by rw [e_]; exact hP
      have hD : va_D A (wC_Ways k b0 P0_8 L0_5 ++ (wC_Tables k b1 P1)) := by rw [e_]; exact hD
      clear e_
      have hz := Option.some.inj hf
      subst hz
      exact hret _ _ _ _ dX10_find_56 hP hD hS
    have lp20_9 : ∀ (n : Nat) (x2_11 : Int32) (P0_12 : PI) (L0_13 : PL) (H : Heap) (locs : List Loc) (ls : Array Slot), f_Ways_find_20 P1 K51_6 n x2_11 P0_12 L0_13 = some z → va_P D vwCl (wC_Ways k b0 P0_12 L0_13 ++ (wC_Tables k b1 P1)) H → va_D A (wC_Ways k b0 P0_12 L0_13 ++ (wC_Tables k b1 P1)) → va_S A s.heap H locs → lv_has ls 3 [(0, .ref (b0 0)), (1, .ref (b1 0)), (2, .int x2_11)] → W p l e rm_Ways_find s m args below meth c H locs 0 0 Q (F0 m 20 ls []) := by
      intro n
      induction n with
      | zero =>
        intro x2_11 P0_12 L0_13 H locs ls hf
        exact nomatch (show (none : Option (PI × PL)) = some z from hf)
      | succ n ih_10 =>
        intro x2_11 P0_12 L0_13 H locs ls hf hP hD hS hl
        have hf : f_Ways_find_20_b P1 K51_6 (f_Ways_find_20 P1 K51_6 n) x2_11 P0_12 L0_13 = some z := hf
        unfold f_Ways_find_20_b at hf
        refine lv_iload_n hx hb dX10_find_20 rfl (lv_at hl 2 rfl) ?_
        refine lv_bipush (v := 16) hx hb dX10_find_21 (by decide) ?_
        refine lv_icmp_ge (tgt := 51) hx hb dX10_find_23 (by decide) (fun c_20 => ?_) (fun c_20 => ?_)
        · have hf := mb_if_t c_20 hf
          exact k51_7 P0_12 L0_13 _ _ _ hf hP hD hS (lv_sub hl [0] rfl)
        · have hf := mb_if_f c_20 hf
          refine lv_aload_n hx hb dX10_find_26 rfl (lv_at hl 0 rfl) ?_
          refine va_get (D := D) (ci := 10) (v := .ref (b0 4)) (C := RX10) (T := TX10) (N := 5) hx hb hts iw_Ways hown hK hP 0 rfl rfl 3 (by decide) fl_23 (fun _ h9 => h9) rfl dX10_find_27 ?_
          refine lv_iconst (v := 0) hx hb dX10_find_30 (by decide) ?_
          refine lv_iload_n hx hb dX10_find_31 rfl (lv_at hl 2 rfl) ?_
          obtain ⟨h_16, hf⟩ := mb_chk_s hf
          obtain ⟨P0_15, e_, hf⟩ := mb_let_s hf
          refine va_iast hx hb hK hP hD hS 2 0 rfl rfl h_16 dX10_find_32 (fun H locs hP hD hS => ?_)
          have hP : va_P D vwCl (wC_Ways k b0 P0_15 L0_13 ++ (wC_Tables k b1 P1)) H := by rw [e_]; exact hP
          have hD : va_D A (wC_Ways k b0 P0_15 L0_13 ++ (wC_Tables k b1 P1)) := by rw [e_]; exact hD
          clear e_
          refine lv_aload_n hx hb dX10_find_33 rfl (lv_at hl 0 rfl) ?_
          refine lv_aload_n hx hb dX10_find_34 rfl (lv_at hl 1 rfl) ?_
          refine lv_iconst (v := 1) hx hb dX10_find_35 (by decide) ?_
          refine lv_ldc2 (v := (1000000)) hx hb hown lc_30 dX10_find_36 ?_
          refine lv_iconst (v := 1) hx hb dX10_find_39 (by decide) ?_
          refine lv_iload_n hx hb dX10_find_40 rfl (lv_at hl 2 rfl) ?_
          refine lv_ishl hx hb dX10_find_41 ?_
          obtain ⟨P0_17, L0_18, hz, hf⟩ := mb_bd2_s hf
          refine gc_v (ws' := (wC_Ways k b0 P0_17 L0_18 ++ (wC_Tables k b1 P1))) (wr := ([] : va_W)) (va_runS (As := [.ref (b0 0), .ref (b1 0), .int (1 : Int32), .long (1000000 : Int64), .int ((1 : Int32) <<< (x2_11 &&& 31))]) (rest := []) ⟨hx, hb, hml, hown, hts⟩ (c_Ways_walk mb_dp l D k H.size b0 b1 P0_15 L0_13 P1 (1 : Int32) (1000000 : Int64) ((1 : Int32) <<< (x2_11 &&& 31)) (P0_17, L0_18) hz) (cwS 5 hts gX10_find_X10_walk rfl rfl rfl (by decide +kernel) ⟨Nat.le_of_ble_eq_true rfl, Nat.le_of_ble_eq_true rfl⟩) (gp_S hP hD hK hN [0, 1, 2, 3, 4, 5, 6] (by decide +kernel) rfl) rfl rfl hl.1 rfl (lv_room (Nat.le_of_ble_eq_true rfl)) dX10_find_42 ⟨Nat.zero_le _, Nat.zero_le _⟩) hP hD hS hA [0, 1, 2, 3, 4, 5, 6] [] rfl rfl (by decide +kernel) (by decide +kernel) [0, 1, 2, 3, 4, 5, 6] (by decide +kernel) rfl (fun H locs hP hD hS => ?_)
          clear hz
          obtain ⟨x2_19, e_, hf⟩ := mb_let_s hf
          refine lv_iinc (v := x2_19) (lv' := [(2, .int x2_19), (0, .ref (b0 0)), (1, .ref (b1 0))]) hx hb dX10_find_45 hl (k := 2) rfl (by rw [e_]; rfl) (by decide) rfl (fun ls hl => ?_)
          clear e_
          refine lv_goto (tgt := 20) hx hb dX10_find_48 (by decide) ?_
          exact ih_10 x2_19 P0_17 L0_18 _ _ _ hf hP hD hS (lv_sub hl [1, 2, 0] rfl)
    exact lp20_9 mb_fu x2_3 P0_1 L0_2 _ _ _ hf hP hD hS (lv_sub hl [1, 2, 0] rfl)
  · have hf := mb_if_f c_21 hf
    have hz := Option.some.inj hf
    subst hz
    exact hret _ _ _ _ dX10_find_7 hP hD hS
def f_One_best (P1 : PI) (P2 : PI) (L2 : PL) (x1 : Int32) : Option (Int64 × PI × PL) := (if (-2 : Int32) ≤ x1 then mb_bd2 (f_Ways_find P2 L2 P1) (fun (P2_1 : PI) (L2_2 : PL) => (if (P2_1 0 2) = 0 then some ((-4 : Int64), P2_1, L2_2) else (if x1 = (-1 : Int32) then some ((L2_2 0 1), P2_1, L2_2) else (if x1 = (-2 : Int32) then some (((P2_1 0 2)).toInt64, P2_1, L2_2) else (if (P2_1 0 2) ≤ x1 then some ((-4 : Int64), P2_1, L2_2) else mb_chk x1 4 (some (((P2_1 1 x1.toNatClampNeg)).toInt64, P2_1, L2_2))))))) else some ((-1 : Int64), P2, L2))
def rm_One_best : Room := { frames := 11, cells := 0, slots := 0, locals := 319 }
set_option maxHeartbeats 4000000 in
set_option maxRecDepth 100000 in
theorem c_One_best (l : Launch) (D : va_G) (k : Nat → ClassId) (sz : Nat) (a0 : Nat → Nat → Nat) (P0 : PI) (P1 : PI) (P2 : PI) (L2 : PL) (x1 : Int32) (z : Int64 × PI × PL) (hf : f_One_best P1 P2 L2 x1 = some z) : Met l yX11_best wsX11_best rm_One_best (va_Pc [.ref (a0 0 0), .int x1] (gw_pre D vwCl (tyL k) (wC_One k a0 P0 ++ (wC_Tables k (a0 2) P1 ++ (wC_Ways k (a0 3) P2 L2))) sz)) (va_Ql (fun (r : Int64) (_ : Unit) => r = z.1) (gw_b D vwCl (tyL k) (va_A (wC_One k a0 P0 ++ (wC_Tables k (a0 2) P1 ++ (wC_Ways k (a0 3) P2 L2))) sz) (wC_One k a0 P0 ++ (wC_Tables k (a0 2) P1 ++ (wC_Ways k (a0 3) z.2.1 z.2.2)))) (va_A (wC_One k a0 P0 ++ (wC_Tables k (a0 2) P1 ++ (wC_Ways k (a0 3) P2 L2))) sz)) 0 0 (va_A (wC_One k a0 P0 ++ (wC_Tables k (a0 2) P1 ++ (wC_Ways k (a0 3) P2 L2))) sz) := by
  refine gm_l (cc := cX11_best) (maxL := 2) (by decide) rfl (Nat.le_of_ble_eq_true rfl) ?_
  intro p e s m args below meth c A Q ls H locs hx hb hml hown hts hK hN hA hP hD hS hl hret
  have hown : s.vm.findClass RX11 = some m.cls := hown
  have hl : lv_has ls 2 [(0, .ref (a0 0 0)), (1, .int x1)] := hl
  have iw_One : ∀ w ∈ u_ws RX11 TX11 16, w ∈ wsX11_best := by decide +kernel
  have iw_Ways : ∀ w ∈ u_ws RX10 TX10 5, w ∈ wsX11_best := by decide +kernel
  have fl_19 := hts (.fieldLink RX11 19 "OneMeasure" "tables" "LOneMeasure$Tables;") (by decide +kernel)
  have fl_26 := hts (.fieldLink RX11 26 "OneMeasure" "ways" "LOneMeasure$Ways;") (by decide +kernel)
  have fl_152 := hts (.fieldLink RX11 152 "OneMeasure$Ways" "length" "I") (by decide +kernel)
  have fl_157 := hts (.fieldLink RX11 157 "OneMeasure$Ways" "amount" "J") (by decide +kernel)
  have fl_161 := hts (.fieldLink RX11 161 "OneMeasure$Ways" "bestRow" "[I") (by decide +kernel)
  have lc_133 := hts (.constantLong RX11 133 (-1)) (by decide +kernel)
  have lc_155 := hts (.constantLong RX11 155 (-4)) (by decide +kernel)
  unfold f_One_best at hf
  refine lv_iload_n hx hb dX11_best_0 rfl (lv_at hl 1 rfl) ?_
  refine lv_bipush (v := (-2)) hx hb dX11_best_1 (by decide) ?_
  refine lv_icmp_ge (tgt := 10) hx hb dX11_best_3 (by decide) (fun c_8 => ?_) (fun c_8 => ?_)
  · have hf := mb_if_t c_8 hf
    refine lv_aload_n hx hb dX11_best_10 rfl (lv_at hl 0 rfl) ?_
    refine va_get (D := D) (ci := 11) (v := .ref (a0 3 0)) (C := RX11) (T := TX11) (N := 16) hx hb hts iw_One hown hK hP 0 rfl rfl 2 (by decide) fl_26 (fun _ h9 => h9) rfl dX11_best_11 ?_
    refine lv_aload_n hx hb dX11_best_14 rfl (lv_at hl 0 rfl) ?_
    refine va_get (D := D) (ci := 11) (v := .ref (a0 2 0)) (C := RX11) (T := TX11) (N := 16) hx hb hts iw_One hown hK hP 0 rfl rfl 1 (by decide) fl_19 (fun _ h9 => h9) rfl dX11_best_15 ?_
    obtain ⟨P2_1, L2_2, hz, hf⟩ := mb_bd2_s hf
    refine gc_v (ws' := (wC_One k a0 P0 ++ (wC_Tables k (a0 2) P1 ++ (wC_Ways k (a0 3) P2_1 L2_2)))) (wr := (wC_One k a0 P0)) (va_runV (As := [.ref (a0 2 0)]) (rest := []) ⟨hx, hb, hml, hown, hts⟩ (c_Ways_find l D k H.size (a0 3) (a0 2) P2 L2 P1 (P2_1, L2_2) hz) (cwV 1 hts gX11_best_X10_find rfl rfl rfl (by decide +kernel) ⟨Nat.le_of_ble_eq_true rfl, Nat.le_of_ble_eq_true rfl⟩) (gp_V (ci := 10) (q0 := 0) (q := (RX10, TX10, 5)) hP hD hK hN [8, 9, 10, 4, 5, 6, 7] (by decide +kernel) rfl rfl rfl) rfl rfl hl.1 rfl (lv_room (Nat.le_of_ble_eq_true rfl)) dX11_best_18 ⟨Nat.zero_le _, Nat.zero_le _⟩) hP hD hS hA [8, 9, 10, 4, 5, 6, 7] [0, 1, 2, 3] rfl rfl (by decide +kernel) (by decide +kernel) [0, 1, 2, 3, 7, 8, 9, 10, 4, 5, 6] (by decide +kernel) rfl (fun H locs hP hD hS => ?_)
    clear hz
    refine lv_aload_n hx hb dX11_best_21 rfl (lv_at hl 0 rfl) ?_
    refine va_get (D := D) (ci := 11) (v := .ref (a0 3 0)) (C := RX11) (T := TX11) (N := 16) hx hb hts iw_One hown hK hP 0 rfl rfl 2 (by decide) fl_26 (fun _ h9 => h9) rfl dX11_best_22 ?_
    refine va_get (D := D) (ci := 10) (v := .int (P2_1 0 2)) (C := RX10) (T := TX10) (N := 5) hx hb hts iw_Ways hown hK hP 8 rfl rfl 2 (by decide) fl_152 (fun _ h9 => h9) rfl dX11_best_25 ?_
    refine lv_if_ne (tgt := 35) hx hb dX11_best_28 (by decide) (fun c_7 => ?_) (fun c_7 => ?_)
    · have hf := mb_if_f c_7 hf
      refine lv_iload_n hx hb dX11_best_35 rfl (lv_at hl 1 rfl) ?_
      refine lv_iconst (v := (-1)) hx hb dX11_best_36 (by decide) ?_
      refine lv_icmp_ne (tgt := 48) hx hb dX11_best_37 (by decide) (fun c_6 => ?_) (fun c_6 => ?_)
      · have hf := mb_if_f c_6 hf
        refine lv_iload_n hx hb dX11_best_48 rfl (lv_at hl 1 rfl) ?_
        refine lv_bipush (v := (-2)) hx hb dX11_best_49 (by decide) ?_
        refine lv_icmp_ne (tgt := 63) hx hb dX11_best_51 (by decide) (fun c_5 => ?_) (fun c_5 => ?_)
        · have hf := mb_if_f c_5 hf
          refine lv_iload_n hx hb dX11_best_63 rfl (lv_at hl 1 rfl) ?_
          refine lv_aload_n hx hb dX11_best_64 rfl (lv_at hl 0 rfl) ?_
          refine va_get (D := D) (ci := 11) (v := .ref (a0 3 0)) (C := RX11) (T := TX11) (N := 16) hx hb hts iw_One hown hK hP 0 rfl rfl 2 (by decide) fl_26 (fun _ h9 => h9) rfl dX11_best_65 ?_
          refine va_get (D := D) (ci := 10) (v := .int (P2_1 0 2)) (C := RX10) (T := TX10) (N := 5) hx hb hts iw_Ways hown hK hP 8 rfl rfl 2 (by decide) fl_152 (fun _ h9 => h9) rfl dX11_best_68 ?_
          refine lv_icmp_ge (tgt := 87) hx hb dX11_best_71 (by decide) (fun c_4 => ?_) (fun c_4 => ?_)
          · have hf := mb_if_t c_4 hf
            refine lv_ldc2 (v := (-4)) hx hb hown lc_155 dX11_best_87 ?_
            have hz := Option.some.inj hf
            subst hz
            exact hret _ _ _ _ dX11_best_90 hP hD hS
          · have hf := mb_if_f c_4 hf
            refine lv_aload_n hx hb dX11_best_74 rfl (lv_at hl 0 rfl) ?_
            refine va_get (D := D) (ci := 11) (v := .ref (a0 3 0)) (C := RX11) (T := TX11) (N := 16) hx hb hts iw_One hown hK hP 0 rfl rfl 2 (by decide) fl_26 (fun _ h9 => h9) rfl dX11_best_75 ?_
            refine va_get (D := D) (ci := 10) (v := .ref (a0 3 1)) (C := RX10) (T := TX10) (N := 5) hx hb hts iw_Ways hown hK hP 8 rfl rfl 0 (by decide) fl_161 (fun _ h9 => h9) rfl dX11_best_78 ?_
            refine lv_iload_n hx hb dX11_best_81 rfl (lv_at hl 1 rfl) ?_
            obtain ⟨h_3, hf⟩ := mb_chk_s hf
            refine va_iald hx hb hK hP 9 0 rfl rfl h_3 dX11_best_82 ?_
            refine lv_i2l hx hb dX11_best_83 rfl ?_
            refine lv_goto (tgt := 90) hx hb dX11_best_84 (by decide) ?_
            have hz := Option.some.inj hf
            subst hz
            exact hret _ _ _ _ dX11_best_90 hP hD hS
        · have hf := mb_if_t c_5 hf
          refine lv_aload_n hx hb dX11_best_54 rfl (lv_at hl 0 rfl) ?_
          refine va_get (D := D) (ci := 11) (v := .ref (a0 3 0)) (C := RX11) (T := TX11) (N := 16) hx hb hts iw_One hown hK hP 0 rfl rfl 2 (by decide) fl_26 (fun _ h9 => h9) rfl dX11_best_55 ?_
          refine va_get (D := D) (ci := 10) (v := .int (P2_1 0 2)) (C := RX10) (T := TX10) (N := 5) hx hb hts iw_Ways hown hK hP 8 rfl rfl 2 (by decide) fl_152 (fun _ h9 => h9) rfl dX11_best_58 ?_
          refine lv_i2l hx hb dX11_best_61 rfl ?_
          have hz := Option.some.inj hf
          subst hz
          exact hret _ _ _ _ dX11_best_62 hP hD hS
      · have hf := mb_if_t c_6 hf
        refine lv_aload_n hx hb dX11_best_40 rfl (lv_at hl 0 rfl) ?_
        refine va_get (D := D) (ci := 11) (v := .ref (a0 3 0)) (C := RX11) (T := TX11) (N := 16) hx hb hts iw_One hown hK hP 0 rfl rfl 2 (by decide) fl_26 (fun _ h9 => h9) rfl dX11_best_41 ?_
        refine va_get (D := D) (ci := 10) (v := .long (L2_2 0 1)) (C := RX10) (T := TX10) (N := 5) hx hb hts iw_Ways hown hK hP 8 rfl rfl 1 (by decide) fl_157 (fun _ h9 => h9) rfl dX11_best_44 ?_
        have hz := Option.some.inj hf
        subst hz
        exact hret _ _ _ _ dX11_best_47 hP hD hS
    · have hf := mb_if_t c_7 hf
      refine lv_ldc2 (v := (-4)) hx hb hown lc_155 dX11_best_31 ?_
      have hz := Option.some.inj hf
      subst hz
      exact hret _ _ _ _ dX11_best_34 hP hD hS
  · have hf := mb_if_f c_8 hf
    refine lv_ldc2 (v := (-1)) hx hb hown lc_133 dX11_best_6 ?_
    have hz := Option.some.inj hf
    subst hz
    exact hret _ _ _ _ dX11_best_9 hP hD hS
def f_Ground_add (P0 : PI) (x1 : Int32) (x2 : Int32) (x3 : Int32) : Option (Int32 × PI) := mb_chk (P0 0 3) 12 (mb_let (mb_u2 P0 1 (P0 0 3).toNatClampNeg x1) (fun (P0_1 : PI) => mb_chk (P0_1 0 3) 12 (mb_let (mb_u2 P0_1 2 (P0_1 0 3).toNatClampNeg x2) (fun (P0_3 : PI) => mb_chk (P0_3 0 3) 12 (mb_let (mb_u2 P0_3 3 (P0_3 0 3).toNatClampNeg x3) (fun (P0_5 : PI) => mb_let (mb_uo P0_5 3 ((P0_5 0 3) + (1 : Int32))) (fun (P0_7 : PI) => some ((P0_7 0 3), P0_7))))))))
def rm_Ground_add : Room := { frames := 0, cells := 0, slots := 0, locals := 0 }
set_option maxHeartbeats 4000000 in
set_option maxRecDepth 100000 in
theorem c_Ground_add (l : Launch) (D : va_G) (k : Nat → ClassId) (sz : Nat) (b0 : Nat → Nat) (P0 : PI) (L0 : PL) (x1 : Int32) (x2 : Int32) (x3 : Int32) (z : Int32 × PI) (hf : f_Ground_add P0 x1 x2 x3 = some z) : Met l yX2_add wsX2_add rm_Ground_add (va_Pc [.ref (b0 0), .int x1, .int x2, .int x3] (gw_pre D vwCl (tyL k) (wC_Ground k b0 P0 L0) sz)) (va_Qi (fun (r : Int32) (_ : Unit) => r = z.1) (gw_b D vwCl (tyL k) (va_A (wC_Ground k b0 P0 L0) sz) (wC_Ground k b0 z.2 L0)) (va_A (wC_Ground k b0 P0 L0) sz)) 0 0 (va_A (wC_Ground k b0 P0 L0) sz) := by
  refine gm_i (cc := cX2_add) (maxL := 4) (by decide) rfl (Nat.le_of_ble_eq_true rfl) ?_
  intro p e s m args below meth c A Q ls H locs hx hb hml hown hts hK hN hA hP hD hS hl hret
  have hown : s.vm.findClass RX2 = some m.cls := hown
  have hl : lv_has ls 4 [(0, .ref (b0 0)), (1, .int x1), (2, .int x2), (3, .int x3)] := hl
  have iw_Ground : ∀ w ∈ u_ws RX2 TX2 6, w ∈ wsX2_add := by decide +kernel
  have fl_9 := hts (.fieldLink RX2 9 "OneMeasure$Ground" "party" "[I") (by decide +kernel)
  have fl_13 := hts (.fieldLink RX2 13 "OneMeasure$Ground" "yards" "[I") (by decide +kernel)
  have fl_16 := hts (.fieldLink RX2 16 "OneMeasure$Ground" "angle" "[I") (by decide +kernel)
  have fl_19 := hts (.fieldLink RX2 19 "OneMeasure$Ground" "count" "I") (by decide +kernel)
  unfold f_Ground_add at hf
  refine lv_aload_n hx hb dX2_add_0 rfl (lv_at hl 0 rfl) ?_
  refine va_get (D := D) (ci := 2) (v := .ref (b0 1)) (C := RX2) (T := TX2) (N := 6) hx hb hts iw_Ground hown hK hP 0 rfl rfl 0 (by decide) fl_9 (fun _ h9 => h9) rfl dX2_add_1 ?_
  refine lv_aload_n hx hb dX2_add_4 rfl (lv_at hl 0 rfl) ?_
  refine va_get (D := D) (ci := 2) (v := .int (P0 0 3)) (C := RX2) (T := TX2) (N := 6) hx hb hts iw_Ground hown hK hP 0 rfl rfl 3 (by decide) fl_19 (fun _ h9 => h9) rfl dX2_add_5 ?_
  refine lv_iload_n hx hb dX2_add_8 rfl (lv_at hl 1 rfl) ?_
  obtain ⟨h_2, hf⟩ := mb_chk_s hf
  obtain ⟨P0_1, e_, hf⟩ := mb_let_s hf
  refine va_iast hx hb hK hP hD hS 1 0 rfl rfl h_2 dX2_add_9 (fun H locs hP hD hS => ?_)
  have hP : va_P D vwCl (wC_Ground k b0 P0_1 L0) H := by rw [e_]; exact hP
  have hD : va_D A (wC_Ground k b0 P0_1 L0) := by rw [e_]; exact hD
  clear e_
  refine lv_aload_n hx hb dX2_add_10 rfl (lv_at hl 0 rfl) ?_
  refine va_get (D := D) (ci := 2) (v := .ref (b0 2)) (C := RX2) (T := TX2) (N := 6) hx hb hts iw_Ground hown hK hP 0 rfl rfl 1 (by decide) fl_13 (fun _ h9 => h9) rfl dX2_add_11 ?_
  refine lv_aload_n hx hb dX2_add_14 rfl (lv_at hl 0 rfl) ?_
  refine va_get (D := D) (ci := 2) (v := .int (P0_1 0 3)) (C := RX2) (T := TX2) (N := 6) hx hb hts iw_Ground hown hK hP 0 rfl rfl 3 (by decide) fl_19 (fun _ h9 => h9) rfl dX2_add_15 ?_
  refine lv_iload_n hx hb dX2_add_18 rfl (lv_at hl 2 rfl) ?_
  obtain ⟨h_4, hf⟩ := mb_chk_s hf
  obtain ⟨P0_3, e_, hf⟩ := mb_let_s hf
  refine va_iast hx hb hK hP hD hS 2 0 rfl rfl h_4 dX2_add_19 (fun H locs hP hD hS => ?_)
  have hP : va_P D vwCl (wC_Ground k b0 P0_3 L0) H := by rw [e_]; exact hP
  have hD : va_D A (wC_Ground k b0 P0_3 L0) := by rw [e_]; exact hD
  clear e_
  refine lv_aload_n hx hb dX2_add_20 rfl (lv_at hl 0 rfl) ?_
  refine va_get (D := D) (ci := 2) (v := .ref (b0 3)) (C := RX2) (T := TX2) (N := 6) hx hb hts iw_Ground hown hK hP 0 rfl rfl 2 (by decide) fl_16 (fun _ h9 => h9) rfl dX2_add_21 ?_
  refine lv_aload_n hx hb dX2_add_24 rfl (lv_at hl 0 rfl) ?_
  refine va_get (D := D) (ci := 2) (v := .int (P0_3 0 3)) (C := RX2) (T := TX2) (N := 6) hx hb hts iw_Ground hown hK hP 0 rfl rfl 3 (by decide) fl_19 (fun _ h9 => h9) rfl dX2_add_25 ?_
  refine lv_iload_n hx hb dX2_add_28 rfl (lv_at hl 3 rfl) ?_
  obtain ⟨h_6, hf⟩ := mb_chk_s hf
  obtain ⟨P0_5, e_, hf⟩ := mb_let_s hf
  refine va_iast hx hb hK hP hD hS 3 0 rfl rfl h_6 dX2_add_29 (fun H locs hP hD hS => ?_)
  have hP : va_P D vwCl (wC_Ground k b0 P0_5 L0) H := by rw [e_]; exact hP
  have hD : va_D A (wC_Ground k b0 P0_5 L0) := by rw [e_]; exact hD
  clear e_
  refine lv_aload_n hx hb dX2_add_30 rfl (lv_at hl 0 rfl) ?_
  refine lv_dup hx hb dX2_add_31 rfl ?_
  refine va_get (D := D) (ci := 2) (v := .int (P0_5 0 3)) (C := RX2) (T := TX2) (N := 6) hx hb hts iw_Ground hown hK hP 0 rfl rfl 3 (by decide) fl_19 (fun _ h9 => h9) rfl dX2_add_32 ?_
  refine lv_iconst (v := 1) hx hb dX2_add_35 (by decide) ?_
  refine lv_iadd hx hb dX2_add_36 ?_
  obtain ⟨P0_7, e_, hf⟩ := mb_let_s hf
  refine va_put (D := D) (ci := 2) (v := .int ((P0_5 0 3) + (1 : Int32))) (ty := .int) (C := RX2) (T := TX2) (N := 6) hx hb hts iw_Ground tyX2 tyX2_ok nmX2 hown hK hP hD hS 0 rfl rfl 3 (by decide) fl_19 (fun _ h9 => h9) rfl (by decide +kernel) rfl rfl (Nat.le_of_ble_eq_true rfl) dX2_add_37 (fun H locs hP hD hS => ?_)
  have hP : va_P D vwCl (wC_Ground k b0 P0_7 L0) H := by rw [e_]; exact hP
  have hD : va_D A (wC_Ground k b0 P0_7 L0) := by rw [e_]; exact hD
  clear e_
  refine lv_aload_n hx hb dX2_add_40 rfl (lv_at hl 0 rfl) ?_
  refine va_get (D := D) (ci := 2) (v := .int (P0_7 0 3)) (C := RX2) (T := TX2) (N := 6) hx hb hts iw_Ground hown hK hP 0 rfl rfl 3 (by decide) fl_19 (fun _ h9 => h9) rfl dX2_add_41 ?_
  have hz := Option.some.inj hf
  subst hz
  exact hret _ _ _ _ dX2_add_44 hP hD hS
def f_One_chain (P1 : PI) (x1 : Int32) (x2 : Int32) (x3 : Int32) : Option (Int32 × PI) := mb_bd1 (f_One_within x1 (0 : Int32) (1 : Int32)) (fun (r_1 : Int32) => (if r_1 = 0 then some ((-1 : Int32), P1) else mb_bd1 (f_One_within x2 (1 : Int32) (1000000 : Int32)) (fun (r_2 : Int32) => (if r_2 = 0 then some ((-1 : Int32), P1) else mb_bd1 (f_One_within x3 (1 : Int32) (1000 : Int32)) (fun (r_3 : Int32) => (if r_3 = 0 then some ((-1 : Int32), P1) else (if (P1 0 3) < (12 : Int32) then mb_bd2 (f_Ground_add P1 x1 x2 x3) (fun (r_4 : Int32) (P1_5 : PI) => some (r_4, P1_5)) else some ((-3 : Int32), P1))))))))
def rm_One_chain : Room := { frames := 1, cells := 0, slots := 0, locals := 23 }
set_option maxHeartbeats 4000000 in
set_option maxRecDepth 100000 in
theorem c_One_chain (l : Launch) (D : va_G) (k : Nat → ClassId) (sz : Nat) (a0 : Nat → Nat → Nat) (P0 : PI) (P1 : PI) (L1 : PL) (x1 : Int32) (x2 : Int32) (x3 : Int32) (z : Int32 × PI) (hf : f_One_chain P1 x1 x2 x3 = some z) : Met l yX11_chain wsX11_chain rm_One_chain (va_Pc [.ref (a0 0 0), .int x1, .int x2, .int x3] (gw_pre D vwCl (tyL k) (wC_One k a0 P0 ++ (wC_Ground k (a0 4) P1 L1)) sz)) (va_Qi (fun (r : Int32) (_ : Unit) => r = z.1) (gw_b D vwCl (tyL k) (va_A (wC_One k a0 P0 ++ (wC_Ground k (a0 4) P1 L1)) sz) (wC_One k a0 P0 ++ (wC_Ground k (a0 4) z.2 L1))) (va_A (wC_One k a0 P0 ++ (wC_Ground k (a0 4) P1 L1)) sz)) 0 0 (va_A (wC_One k a0 P0 ++ (wC_Ground k (a0 4) P1 L1)) sz) := by
  refine gm_i (cc := cX11_chain) (maxL := 4) (by decide) rfl (Nat.le_of_ble_eq_true rfl) ?_
  intro p e s m args below meth c A Q ls H locs hx hb hml hown hts hK hN hA hP hD hS hl hret
  have hown : s.vm.findClass RX11 = some m.cls := hown
  have hl : lv_has ls 4 [(0, .ref (a0 0 0)), (1, .int x1), (2, .int x2), (3, .int x3)] := hl
  have iw_One : ∀ w ∈ u_ws RX11 TX11 16, w ∈ wsX11_chain := by decide +kernel
  have iw_Ground : ∀ w ∈ u_ws RX2 TX2 6, w ∈ wsX11_chain := by decide +kernel
  have fl_33 := hts (.fieldLink RX11 33 "OneMeasure" "ground" "LOneMeasure$Ground;") (by decide +kernel)
  have fl_164 := hts (.fieldLink RX11 164 "OneMeasure$Ground" "count" "I") (by decide +kernel)
  have lc_109 := hts (.constant RX11 109 (1000000)) (by decide +kernel)
  unfold f_One_chain at hf
  refine lv_iload_n hx hb dX11_chain_0 rfl (lv_at hl 1 rfl) ?_
  refine lv_iconst (v := 0) hx hb dX11_chain_1 (by decide) ?_
  refine lv_iconst (v := 1) hx hb dX11_chain_2 (by decide) ?_
  obtain ⟨r_1, hz, hf⟩ := mb_bd1_s hf
  refine gc_i (r0 := r_1) (ws' := (wC_One k a0 P0 ++ (wC_Ground k (a0 4) P1 L1))) (wr := (wC_One k a0 P0 ++ (wC_Ground k (a0 4) P1 L1))) (va_runS (As := [.int x1, .int (0 : Int32), .int (1 : Int32)]) (rest := []) ⟨hx, hb, hml, hown, hts⟩ (c_One_within l D k H.size x1 (0 : Int32) (1 : Int32) r_1 hz) (cwS 3 hts gX11_chain_X11_within rfl rfl rfl (by decide +kernel) ⟨Nat.le_of_ble_eq_true rfl, Nat.le_of_ble_eq_true rfl⟩) (gp_S hP hD hK hN [] (by decide +kernel) rfl) rfl rfl hl.1 rfl (lv_room (Nat.le_of_ble_eq_true rfl)) dX11_chain_3 ⟨Nat.zero_le _, Nat.zero_le _⟩) hP hD hS hA [] [0, 1, 2, 3, 4, 5, 6, 7] rfl rfl (by decide +kernel) (by decide +kernel) [0, 1, 2, 3, 4, 5, 6, 7] (by decide +kernel) rfl (fun H locs hP hD hS => ?_)
  clear hz
  refine lv_if_eq (tgt := 30) hx hb dX11_chain_6 (by decide) (fun c_9 => ?_) (fun c_9 => ?_)
  · have hf := mb_if_t c_9 hf
    refine lv_iconst (v := (-1)) hx hb dX11_chain_30 (by decide) ?_
    have hz := Option.some.inj hf
    subst hz
    exact hret _ _ _ _ dX11_chain_31 hP hD hS
  · have hf := mb_if_f c_9 hf
    refine lv_iload_n hx hb dX11_chain_9 rfl (lv_at hl 2 rfl) ?_
    refine lv_iconst (v := 1) hx hb dX11_chain_10 (by decide) ?_
    refine lv_ldc (v := (1000000)) hx hb hown lc_109 dX11_chain_11 ?_
    obtain ⟨r_2, hz, hf⟩ := mb_bd1_s hf
    refine gc_i (r0 := r_2) (ws' := (wC_One k a0 P0 ++ (wC_Ground k (a0 4) P1 L1))) (wr := (wC_One k a0 P0 ++ (wC_Ground k (a0 4) P1 L1))) (va_runS (As := [.int x2, .int (1 : Int32), .int (1000000 : Int32)]) (rest := []) ⟨hx, hb, hml, hown, hts⟩ (c_One_within l D k H.size x2 (1 : Int32) (1000000 : Int32) r_2 hz) (cwS 3 hts gX11_chain_X11_within rfl rfl rfl (by decide +kernel) ⟨Nat.le_of_ble_eq_true rfl, Nat.le_of_ble_eq_true rfl⟩) (gp_S hP hD hK hN [] (by decide +kernel) rfl) rfl rfl hl.1 rfl (lv_room (Nat.le_of_ble_eq_true rfl)) dX11_chain_13 ⟨Nat.zero_le _, Nat.zero_le _⟩) hP hD hS hA [] [0, 1, 2, 3, 4, 5, 6, 7] rfl rfl (by decide +kernel) (by decide +kernel) [0, 1, 2, 3, 4, 5, 6, 7] (by decide +kernel) rfl (fun H locs hP hD hS => ?_)
    clear hz
    refine lv_if_eq (tgt := 30) hx hb dX11_chain_16 (by decide) (fun c_8 => ?_) (fun c_8 => ?_)
    · have hf := mb_if_t c_8 hf
      refine lv_iconst (v := (-1)) hx hb dX11_chain_30 (by decide) ?_
      have hz := Option.some.inj hf
      subst hz
      exact hret _ _ _ _ dX11_chain_31 hP hD hS
    · have hf := mb_if_f c_8 hf
      refine lv_iload_n hx hb dX11_chain_19 rfl (lv_at hl 3 rfl) ?_
      refine lv_iconst (v := 1) hx hb dX11_chain_20 (by decide) ?_
      refine lv_sipush (v := 1000) hx hb dX11_chain_21 (by decide) ?_
      obtain ⟨r_3, hz, hf⟩ := mb_bd1_s hf
      refine gc_i (r0 := r_3) (ws' := (wC_One k a0 P0 ++ (wC_Ground k (a0 4) P1 L1))) (wr := (wC_One k a0 P0 ++ (wC_Ground k (a0 4) P1 L1))) (va_runS (As := [.int x3, .int (1 : Int32), .int (1000 : Int32)]) (rest := []) ⟨hx, hb, hml, hown, hts⟩ (c_One_within l D k H.size x3 (1 : Int32) (1000 : Int32) r_3 hz) (cwS 3 hts gX11_chain_X11_within rfl rfl rfl (by decide +kernel) ⟨Nat.le_of_ble_eq_true rfl, Nat.le_of_ble_eq_true rfl⟩) (gp_S hP hD hK hN [] (by decide +kernel) rfl) rfl rfl hl.1 rfl (lv_room (Nat.le_of_ble_eq_true rfl)) dX11_chain_24 ⟨Nat.zero_le _, Nat.zero_le _⟩) hP hD hS hA [] [0, 1, 2, 3, 4, 5, 6, 7] rfl rfl (by decide +kernel) (by decide +kernel) [0, 1, 2, 3, 4, 5, 6, 7] (by decide +kernel) rfl (fun H locs hP hD hS => ?_)
      clear hz
      refine lv_if_ne (tgt := 32) hx hb dX11_chain_27 (by decide) (fun c_7 => ?_) (fun c_7 => ?_)
      · have hf := mb_if_f c_7 hf
        refine lv_aload_n hx hb dX11_chain_32 rfl (lv_at hl 0 rfl) ?_
        refine va_get (D := D) (ci := 11) (v := .ref (a0 4 0)) (C := RX11) (T := TX11) (N := 16) hx hb hts iw_One hown hK hP 0 rfl rfl 3 (by decide) fl_33 (fun _ h9 => h9) rfl dX11_chain_33 ?_
        refine va_get (D := D) (ci := 2) (v := .int (P1 0 3)) (C := RX2) (T := TX2) (N := 6) hx hb hts iw_Ground hown hK hP 4 rfl rfl 3 (by decide) fl_164 (fun _ h9 => h9) rfl dX11_chain_36 ?_
        refine lv_bipush (v := 12) hx hb dX11_chain_39 (by decide) ?_
        refine lv_icmp_lt (tgt := 47) hx hb dX11_chain_41 (by decide) (fun c_6 => ?_) (fun c_6 => ?_)
        · have hf := mb_if_t c_6 hf
          refine lv_aload_n hx hb dX11_chain_47 rfl (lv_at hl 0 rfl) ?_
          refine va_get (D := D) (ci := 11) (v := .ref (a0 4 0)) (C := RX11) (T := TX11) (N := 16) hx hb hts iw_One hown hK hP 0 rfl rfl 3 (by decide) fl_33 (fun _ h9 => h9) rfl dX11_chain_48 ?_
          refine lv_iload_n hx hb dX11_chain_51 rfl (lv_at hl 1 rfl) ?_
          refine lv_iload_n hx hb dX11_chain_52 rfl (lv_at hl 2 rfl) ?_
          refine lv_iload_n hx hb dX11_chain_53 rfl (lv_at hl 3 rfl) ?_
          obtain ⟨r_4, P1_5, hz, hf⟩ := mb_bd2_s hf
          refine gc_i (r0 := r_4) (ws' := (wC_One k a0 P0 ++ (wC_Ground k (a0 4) P1_5 L1))) (wr := (wC_One k a0 P0)) (va_runV (As := [.int x1, .int x2, .int x3]) (rest := []) ⟨hx, hb, hml, hown, hts⟩ (c_Ground_add l D k H.size (a0 4) P1 L1 x1 x2 x3 (r_4, P1_5) hz) (cwV 3 hts gX11_chain_X2_add rfl rfl rfl (by decide +kernel) ⟨Nat.le_of_ble_eq_true rfl, Nat.le_of_ble_eq_true rfl⟩) (gp_V (ci := 2) (q0 := 0) (q := (RX2, TX2, 6)) hP hD hK hN [4, 5, 6, 7] (by decide +kernel) rfl rfl rfl) rfl rfl hl.1 rfl (lv_room (Nat.le_of_ble_eq_true rfl)) dX11_chain_54 ⟨Nat.zero_le _, Nat.zero_le _⟩) hP hD hS hA [4, 5, 6, 7] [0, 1, 2, 3] rfl rfl (by decide +kernel) (by decide +kernel) [0, 1, 2, 3, 4, 5, 6, 7] (by decide +kernel) rfl (fun H locs hP hD hS => ?_)
          clear hz
          have hz := Option.some.inj hf
          subst hz
          exact hret _ _ _ _ dX11_chain_57 hP hD hS
        · have hf := mb_if_f c_6 hf
          refine lv_bipush (v := (-3)) hx hb dX11_chain_44 (by decide) ?_
          have hz := Option.some.inj hf
          subst hz
          exact hret _ _ _ _ dX11_chain_46 hP hD hS
      · have hf := mb_if_t c_7 hf
        refine lv_iconst (v := (-1)) hx hb dX11_chain_30 (by decide) ?_
        have hz := Option.some.inj hf
        subst hz
        exact hret _ _ _ _ dX11_chain_31 hP hD hS
def f_Ground_cross (P0 : PI) (x1 : Int32) (x2 : Int32) : Option (Int64) := mb_chk x1 12 (mb_chk x2 12 (some (((P0 2 x1.toNatClampNeg)).toInt64 * ((P0 3 x2.toNatClampNeg)).toInt64)))
def rm_Ground_cross : Room := { frames := 0, cells := 0, slots := 0, locals := 0 }
set_option maxHeartbeats 4000000 in
set_option maxRecDepth 100000 in
theorem c_Ground_cross (l : Launch) (D : va_G) (k : Nat → ClassId) (sz : Nat) (b0 : Nat → Nat) (P0 : PI) (L0 : PL) (x1 : Int32) (x2 : Int32) (z : Int64) (hf : f_Ground_cross P0 x1 x2 = some z) : Met l yX2_cross wsX2_cross rm_Ground_cross (va_Pc [.ref (b0 0), .int x1, .int x2] (gw_pre D vwCl (tyL k) (wC_Ground k b0 P0 L0) sz)) (va_Ql (fun (r : Int64) (_ : Unit) => r = z) (gw_b D vwCl (tyL k) (va_A (wC_Ground k b0 P0 L0) sz) (wC_Ground k b0 P0 L0)) (va_A (wC_Ground k b0 P0 L0) sz)) 0 0 (va_A (wC_Ground k b0 P0 L0) sz) := by
  refine gm_l (cc := cX2_cross) (maxL := 3) (by decide) rfl (Nat.le_of_ble_eq_true rfl) ?_
  intro p e s m args below meth c A Q ls H locs hx hb hml hown hts hK hN hA hP hD hS hl hret
  have hown : s.vm.findClass RX2 = some m.cls := hown
  have hl : lv_has ls 3 [(0, .ref (b0 0)), (1, .int x1), (2, .int x2)] := hl
  have iw_Ground : ∀ w ∈ u_ws RX2 TX2 6, w ∈ wsX2_cross := by decide +kernel
  have fl_13 := hts (.fieldLink RX2 13 "OneMeasure$Ground" "yards" "[I") (by decide +kernel)
  have fl_16 := hts (.fieldLink RX2 16 "OneMeasure$Ground" "angle" "[I") (by decide +kernel)
  unfold f_Ground_cross at hf
  refine lv_aload_n hx hb dX2_cross_0 rfl (lv_at hl 0 rfl) ?_
  refine va_get (D := D) (ci := 2) (v := .ref (b0 2)) (C := RX2) (T := TX2) (N := 6) hx hb hts iw_Ground hown hK hP 0 rfl rfl 1 (by decide) fl_13 (fun _ h9 => h9) rfl dX2_cross_1 ?_
  refine lv_iload_n hx hb dX2_cross_4 rfl (lv_at hl 1 rfl) ?_
  obtain ⟨h_1, hf⟩ := mb_chk_s hf
  refine va_iald hx hb hK hP 2 0 rfl rfl h_1 dX2_cross_5 ?_
  refine lv_i2l hx hb dX2_cross_6 rfl ?_
  refine lv_aload_n hx hb dX2_cross_7 rfl (lv_at hl 0 rfl) ?_
  refine va_get (D := D) (ci := 2) (v := .ref (b0 3)) (C := RX2) (T := TX2) (N := 6) hx hb hts iw_Ground hown hK hP 0 rfl rfl 2 (by decide) fl_16 (fun _ h9 => h9) rfl dX2_cross_8 ?_
  refine lv_iload_n hx hb dX2_cross_11 rfl (lv_at hl 2 rfl) ?_
  obtain ⟨h_2, hf⟩ := mb_chk_s hf
  refine va_iald hx hb hK hP 3 0 rfl rfl h_2 dX2_cross_12 ?_
  refine lv_i2l hx hb dX2_cross_13 rfl ?_
  refine lv_lmul hx hb dX2_cross_14 ?_
  have hz := Option.some.inj hf
  subst hz
  exact hret _ _ _ _ dX2_cross_15 hP hD hS
def f_Ground_commonDivisor_9_b (self_9 : Int64 → Int64 → Int32 → Option (Int64)) (x4_6 : Int64) (x6_7 : Int64) (x8_8 : Int32) : Option (Int64) := (if (100 : Int32) ≤ x8_8 then some x4_6 else (if (lg_cmp x6_7 (0 : Int64)) ≤ 0 then some x4_6 else mb_dvl x6_7 (mb_let (x4_6 - x4_6 / x6_7 * x6_7) (fun (x9_11 : Int64) => mb_let x6_7 (fun (x4_12 : Int64) => mb_let x9_11 (fun (x6_13 : Int64) => mb_let (x8_8 + (1 : Int32)) (fun (x8_14 : Int32) => self_9 x4_12 x6_13 x8_14)))))))
def f_Ground_commonDivisor_9 : Nat → Int64 → Int64 → Int32 → Option (Int64)
  | 0, _, _, _ => none
  | n + 1, x4_6, x6_7, x8_8 => f_Ground_commonDivisor_9_b  (f_Ground_commonDivisor_9  n) x4_6 x6_7 x8_8
def f_Ground_commonDivisor (x0 : Int64) (x2 : Int64) : Option (Int64) := mb_let x0 (fun (x4_1 : Int64) => mb_let x2 (fun (x6_2 : Int64) => mb_let (0 : Int32) (fun (x8_3 : Int32) => f_Ground_commonDivisor_9  mb_fu x4_1 x6_2 x8_3)))
def rm_Ground_commonDivisor : Room := { frames := 0, cells := 0, slots := 0, locals := 0 }
set_option maxHeartbeats 4000000 in
set_option maxRecDepth 100000 in
theorem c_Ground_commonDivisor (l : Launch) (D : va_G) (k : Nat → ClassId) (sz : Nat) (x0 : Int64) (x2 : Int64) (z : Int64) (hf : f_Ground_commonDivisor x0 x2 = some z) : Met l yX2_commonDivisor wsX2_commonDivisor rm_Ground_commonDivisor (va_Pc [.long x0, .long x2] (gw_pre D vwCl (tyL k) ([] : va_W) sz)) (va_Ql (fun (r : Int64) (_ : Unit) => r = z) (gw_b D vwCl (tyL k) (va_A ([] : va_W) sz) ([] : va_W)) (va_A ([] : va_W) sz)) 0 0 (va_A ([] : va_W) sz) := by
  refine gm_l (cc := cX2_commonDivisor) (maxL := 11) (by decide) rfl (Nat.le_of_ble_eq_true rfl) ?_
  intro p e s m args below meth c A Q ls H locs hx hb hml hown hts hK hN hA hP hD hS hl hret
  have hown : s.vm.findClass RX2 = some m.cls := hown
  have hl : lv_has ls 11 [(0, .long x0), (2, .long x2)] := hl
  unfold f_Ground_commonDivisor at hf
  refine lv_lload_n hx hb dX2_commonDivisor_0 rfl (lv_at hl 0 rfl) ?_
  obtain ⟨x4_1, e_, hf⟩ := mb_let_s hf
  refine mb_topl e_ ?_
  clear e_
  refine lv_lstore (lv' := [(4, .long x4_1), (0, .long x0), (2, .long x2)]) hx hb dX2_commonDivisor_1 hl (by decide) rfl (fun ls hl => ?_)
  refine lv_lload_n hx hb dX2_commonDivisor_3 rfl (lv_at hl 2 rfl) ?_
  obtain ⟨x6_2, e_, hf⟩ := mb_let_s hf
  refine mb_topl e_ ?_
  clear e_
  refine lv_lstore (lv' := [(6, .long x6_2), (4, .long x4_1), (0, .long x0), (2, .long x2)]) hx hb dX2_commonDivisor_4 hl (by decide) rfl (fun ls hl => ?_)
  refine lv_iconst (v := 0) hx hb dX2_commonDivisor_6 (by decide) ?_
  obtain ⟨x8_3, e_, hf⟩ := mb_let_s hf
  refine mb_topi e_ ?_
  clear e_
  refine lv_istore (lv' := [(8, .int x8_3), (6, .long x6_2), (4, .long x4_1), (0, .long x0), (2, .long x2)]) hx hb dX2_commonDivisor_7 hl (by decide) rfl (fun ls hl => ?_)
  have lp9_4 : ∀ (n : Nat) (x4_6 : Int64) (x6_7 : Int64) (x8_8 : Int32) (H : Heap) (locs : List Loc) (ls : Array Slot), f_Ground_commonDivisor_9  n x4_6 x6_7 x8_8 = some z → va_P D vwCl ([] : va_W) H → va_D A ([] : va_W) → va_S A s.heap H locs → lv_has ls 11 [(4, .long x4_6), (6, .long x6_7), (8, .int x8_8)] → W p l e rm_Ground_commonDivisor s m args below meth c H locs 0 0 Q (F0 m 9 ls []) := by
    intro n
    induction n with
    | zero =>
      intro x4_6 x6_7 x8_8 H locs ls hf
      exact nomatch (show (none : Option (Int64)) = some z from hf)
    | succ n ih_5 =>
      intro x4_6 x6_7 x8_8 H locs ls hf hP hD hS hl
      have hf : f_Ground_commonDivisor_9_b  (f_Ground_commonDivisor_9  n) x4_6 x6_7 x8_8 = some z := hf
      unfold f_Ground_commonDivisor_9_b at hf
      refine lv_iload hx hb dX2_commonDivisor_9 (lv_at hl 2 rfl) ?_
      refine lv_bipush (v := 100) hx hb dX2_commonDivisor_11 (by decide) ?_
      refine lv_icmp_ge (tgt := 44) hx hb dX2_commonDivisor_13 (by decide) (fun c_16 => ?_) (fun c_16 => ?_)
      · have hf := mb_if_t c_16 hf
        refine lv_lload hx hb dX2_commonDivisor_44 (lv_at hl 0 rfl) ?_
        have hz := Option.some.inj hf
        subst hz
        exact hret _ _ _ _ dX2_commonDivisor_46 hP hD hS
      · have hf := mb_if_f c_16 hf
        refine lv_lload hx hb dX2_commonDivisor_16 (lv_at hl 1 rfl) ?_
        refine lv_lconst (v := 0) hx hb dX2_commonDivisor_18 (by decide) ?_
        refine W.lcmp hx hb dX2_commonDivisor_19 ?_
        refine lv_if_le (tgt := 44) hx hb dX2_commonDivisor_20 (by decide) (fun c_15 => ?_) (fun c_15 => ?_)
        · have hf := mb_if_t c_15 hf
          refine lv_lload hx hb dX2_commonDivisor_44 (lv_at hl 0 rfl) ?_
          have hz := Option.some.inj hf
          subst hz
          exact hret _ _ _ _ dX2_commonDivisor_46 hP hD hS
        · have hf := mb_if_f c_15 hf
          refine lv_lload hx hb dX2_commonDivisor_23 (lv_at hl 0 rfl) ?_
          refine lv_lload hx hb dX2_commonDivisor_25 (lv_at hl 1 rfl) ?_
          obtain ⟨h_10, hf⟩ := mb_dvl_s hf
          refine lv_lrem hx hb dX2_commonDivisor_27 h_10 ?_
          obtain ⟨x9_11, e_, hf⟩ := mb_let_s hf
          refine mb_topl e_ ?_
          clear e_
          refine lv_lstore (lv' := [(9, .long x9_11), (4, .long x4_6), (6, .long x6_7), (8, .int x8_8)]) hx hb dX2_commonDivisor_28 hl (by decide) rfl (fun ls hl => ?_)
          refine lv_lload hx hb dX2_commonDivisor_30 (lv_at hl 2 rfl) ?_
          obtain ⟨x4_12, e_, hf⟩ := mb_let_s hf
          refine mb_topl e_ ?_
          clear e_
          refine lv_lstore (lv' := [(4, .long x4_12), (9, .long x9_11), (6, .long x6_7), (8, .int x8_8)]) hx hb dX2_commonDivisor_32 hl (by decide) rfl (fun ls hl => ?_)
          refine lv_lload hx hb dX2_commonDivisor_34 (lv_at hl 1 rfl) ?_
          obtain ⟨x6_13, e_, hf⟩ := mb_let_s hf
          refine mb_topl e_ ?_
          clear e_
          refine lv_lstore (lv' := [(6, .long x6_13), (4, .long x4_12), (9, .long x9_11), (8, .int x8_8)]) hx hb dX2_commonDivisor_36 hl (by decide) rfl (fun ls hl => ?_)
          obtain ⟨x8_14, e_, hf⟩ := mb_let_s hf
          refine lv_iinc (v := x8_14) (lv' := [(8, .int x8_14), (6, .long x6_13), (4, .long x4_12), (9, .long x9_11)]) hx hb dX2_commonDivisor_38 hl (k := 3) rfl (by rw [e_]; rfl) (by decide) rfl (fun ls hl => ?_)
          clear e_
          refine lv_goto (tgt := 9) hx hb dX2_commonDivisor_41 (by decide) ?_
          exact ih_5 x4_12 x6_13 x8_14 _ _ _ hf hP hD hS (lv_sub hl [2, 1, 0] rfl)
  exact lp9_4 mb_fu x4_1 x6_2 x8_3 _ _ _ hf hP hD hS (lv_sub hl [2, 1, 0] rfl)
def f_Ground_reduce (L0 : PL) (x1 : Int64) (x3 : Int64) : Option (PL) := mb_bd1 (f_Ground_commonDivisor x1 x3) (fun (r_1 : Int64) => mb_let r_1 (fun (x5_2 : Int64) => (if 0 ≤ (lg_cmp x5_2 (1 : Int64)) then mb_dvl x5_2 (mb_let (mb_uoL L0 4 (x1 / x5_2)) (fun (L0_4 : PL) => mb_dvl x5_2 (mb_let (mb_uoL L0_4 5 (x3 / x5_2)) (fun (L0_6 : PL) => some L0_6)))) else some L0)))
def rm_Ground_reduce : Room := { frames := 1, cells := 0, slots := 0, locals := 30 }
set_option maxHeartbeats 4000000 in
set_option maxRecDepth 100000 in
theorem c_Ground_reduce (l : Launch) (D : va_G) (k : Nat → ClassId) (sz : Nat) (b0 : Nat → Nat) (P0 : PI) (L0 : PL) (x1 : Int64) (x3 : Int64) (z : PL) (hf : f_Ground_reduce L0 x1 x3 = some z) : Met l yX2_reduce wsX2_reduce rm_Ground_reduce (va_Pc [.ref (b0 0), .long x1, .long x3] (gw_pre D vwCl (tyL k) (wC_Ground k b0 P0 L0) sz)) (va_Qv (fun (_ : Unit) => True) (gw_b D vwCl (tyL k) (va_A (wC_Ground k b0 P0 L0) sz) (wC_Ground k b0 P0 z)) (va_A (wC_Ground k b0 P0 L0) sz)) 0 0 (va_A (wC_Ground k b0 P0 L0) sz) := by
  refine gm_v (cc := cX2_reduce) (maxL := 7) (by decide) rfl (Nat.le_of_ble_eq_true rfl) ?_
  intro p e s m args below meth c A Q ls H locs hx hb hml hown hts hK hN hA hP hD hS hl hret
  have hown : s.vm.findClass RX2 = some m.cls := hown
  have hl : lv_has ls 7 [(0, .ref (b0 0)), (1, .long x1), (3, .long x3)] := hl
  have iw_Ground : ∀ w ∈ u_ws RX2 TX2 6, w ∈ wsX2_reduce := by decide +kernel
  have fl_23 := hts (.fieldLink RX2 23 "OneMeasure$Ground" "above" "J") (by decide +kernel)
  have fl_27 := hts (.fieldLink RX2 27 "OneMeasure$Ground" "below" "J") (by decide +kernel)
  unfold f_Ground_reduce at hf
  refine lv_lload_n hx hb dX2_reduce_0 rfl (lv_at hl 1 rfl) ?_
  refine lv_lload_n hx hb dX2_reduce_1 rfl (lv_at hl 2 rfl) ?_
  obtain ⟨r_1, hz, hf⟩ := mb_bd1_s hf
  refine gc_l (r0 := r_1) (ws' := (wC_Ground k b0 P0 L0)) (wr := (wC_Ground k b0 P0 L0)) (va_runS (As := [.long x1, .long x3]) (rest := []) ⟨hx, hb, hml, hown, hts⟩ (c_Ground_commonDivisor l D k H.size x1 x3 r_1 hz) (cwS 2 hts gX2_reduce_X2_commonDivisor rfl rfl rfl (by decide +kernel) ⟨Nat.le_of_ble_eq_true rfl, Nat.le_of_ble_eq_true rfl⟩) (gp_S hP hD hK hN [] (by decide +kernel) rfl) rfl rfl hl.1 rfl (lv_room (Nat.le_of_ble_eq_true rfl)) dX2_reduce_2 ⟨Nat.zero_le _, Nat.zero_le _⟩) hP hD hS hA [] [0, 1, 2, 3] rfl rfl (by decide +kernel) (by decide +kernel) [0, 1, 2, 3] (by decide +kernel) rfl (fun H locs hP hD hS => ?_)
  clear hz
  obtain ⟨x5_2, e_, hf⟩ := mb_let_s hf
  refine mb_topl e_ ?_
  clear e_
  refine lv_lstore (lv' := [(5, .long x5_2), (0, .ref (b0 0)), (1, .long x1), (3, .long x3)]) hx hb dX2_reduce_5 hl (by decide) rfl (fun ls hl => ?_)
  refine lv_lload hx hb dX2_reduce_7 (lv_at hl 0 rfl) ?_
  refine lv_lconst (v := 1) hx hb dX2_reduce_9 (by decide) ?_
  refine W.lcmp hx hb dX2_reduce_10 ?_
  refine lv_if_ge (tgt := 15) hx hb dX2_reduce_11 (by decide) (fun c_7 => ?_) (fun c_7 => ?_)
  · have hf := mb_if_t c_7 hf
    refine lv_aload_n hx hb dX2_reduce_15 rfl (lv_at hl 1 rfl) ?_
    refine lv_lload_n hx hb dX2_reduce_16 rfl (lv_at hl 2 rfl) ?_
    refine lv_lload hx hb dX2_reduce_17 (lv_at hl 0 rfl) ?_
    obtain ⟨h_3, hf⟩ := mb_dvl_s hf
    refine lv_ldiv hx hb dX2_reduce_19 h_3 ?_
    obtain ⟨L0_4, e_, hf⟩ := mb_let_s hf
    refine va_put (D := D) (ci := 2) (v := .long (x1 / x5_2)) (ty := .long) (C := RX2) (T := TX2) (N := 6) hx hb hts iw_Ground tyX2 tyX2_ok nmX2 hown hK hP hD hS 0 rfl rfl 4 (by decide) fl_23 (fun _ h9 => h9) rfl (by decide +kernel) rfl rfl (Nat.le_of_ble_eq_true rfl) dX2_reduce_20 (fun H locs hP hD hS => ?_)
    have hP : va_P D vwCl (wC_Ground k b0 P0 L0_4) H := by rw [e_]; exact hP
    have hD : va_D A (wC_Ground k b0 P0 L0_4) := by rw [e_]; exact hD
    clear e_
    refine lv_aload_n hx hb dX2_reduce_23 rfl (lv_at hl 1 rfl) ?_
    refine lv_lload_n hx hb dX2_reduce_24 rfl (lv_at hl 3 rfl) ?_
    refine lv_lload hx hb dX2_reduce_25 (lv_at hl 0 rfl) ?_
    obtain ⟨h_5, hf⟩ := mb_dvl_s hf
    refine lv_ldiv hx hb dX2_reduce_27 h_5 ?_
    obtain ⟨L0_6, e_, hf⟩ := mb_let_s hf
    refine va_put (D := D) (ci := 2) (v := .long (x3 / x5_2)) (ty := .long) (C := RX2) (T := TX2) (N := 6) hx hb hts iw_Ground tyX2 tyX2_ok nmX2 hown hK hP hD hS 0 rfl rfl 5 (by decide) fl_27 (fun _ h9 => h9) rfl (by decide +kernel) rfl rfl (Nat.le_of_ble_eq_true rfl) dX2_reduce_28 (fun H locs hP hD hS => ?_)
    have hP : va_P D vwCl (wC_Ground k b0 P0 L0_6) H := by rw [e_]; exact hP
    have hD : va_D A (wC_Ground k b0 P0 L0_6) := by rw [e_]; exact hD
    clear e_
    have hz := Option.some.inj hf
    subst hz
    exact hret _ _ _ _ dX2_reduce_31 hP hD hS
  · have hf := mb_if_f c_7 hf
    have hz := Option.some.inj hf
    subst hz
    exact hret _ _ _ _ dX2_reduce_14 hP hD hS
