def f_Ref_count_67_b (P0 : PI) (self_7 : Int32 → Int32 → Option (Int32)) (x2_5 : Int32) (x3_6 : Int32) : Option (Int32) := (if (256 : Int32) ≤ x3_6 then some x2_5 else mb_chk ((3 : Int32) * x3_6) 768 (mb_jn (fun (y_9 : Int32) (y_10 : Int32) => mb_let (y_10 + y_9) (fun (x2_13 : Int32) => mb_let (x3_6 + (1 : Int32)) (fun (x3_14 : Int32) => self_7 x2_13 x3_14))) (fun J91_11 => (if (P0 5 ((3 : Int32) * x3_6).toNatClampNeg) ≤ 0 then J91_11 (0 : Int32) x2_5 else J91_11 (1 : Int32) x2_5))))
def f_Ref_count_67 (P0 : PI) : Nat → Int32 → Int32 → Option (Int32)
  | 0, _, _ => none
  | n + 1, x2_5, x3_6 => f_Ref_count_67_b P0 (f_Ref_count_67 P0 n) x2_5 x3_6
def f_Ref_count_144_b (P0 : PI) (self_25 : Int32 → Int32 → Option (Int32)) (x2_23 : Int32) (x3_24 : Int32) : Option (Int32) := mb_chk (0 : Int32) 3 ((if (P0 18 (0 : Int32).toNatClampNeg) ≤ x3_24 then some x2_23 else mb_chk (((8 : Int32) * x3_24) + (7 : Int32)) 288 (mb_jn (fun (y_28 : Int32) (y_29 : Int32) => mb_let (y_29 + y_28) (fun (x2_32 : Int32) => mb_let (x3_24 + (1 : Int32)) (fun (x3_33 : Int32) => self_25 x2_32 x3_33))) (fun J175_30 => (if 0 ≤ (P0 19 (((8 : Int32) * x3_24) + (7 : Int32)).toNatClampNeg) then J175_30 (1 : Int32) x2_23 else J175_30 (0 : Int32) x2_23)))))
def f_Ref_count_144 (P0 : PI) : Nat → Int32 → Int32 → Option (Int32)
  | 0, _, _ => none
  | n + 1, x2_23, x3_24 => f_Ref_count_144_b P0 (f_Ref_count_144 P0 n) x2_23 x3_24
def f_Ref_count (P0 : PI) (x1 : Int32) : Option (Int32) := mb_let (0 : Int32) (fun (x2_1 : Int32) => (if x1 = (0 : Int32) then some (P0 0 0) else (if x1 = (1 : Int32) then mb_let (0 : Int32) (fun (x3_2 : Int32) => f_Ref_count_67 P0 mb_fu x2_1 x3_2) else (if x1 = (2 : Int32) then some (P0 0 5) else (if x1 = (3 : Int32) then some (P0 0 9) else (if x1 = (4 : Int32) then some (P0 0 11) else (if x1 = (5 : Int32) then mb_chk (1 : Int32) 2 (some (P0 14 (1 : Int32).toNatClampNeg)) else (if x1 = (6 : Int32) then some (P0 0 15) else (if x1 = (7 : Int32) then mb_chk (0 : Int32) 3 (some (P0 18 (0 : Int32).toNatClampNeg)) else (if x1 = (8 : Int32) then mb_chk (0 : Int32) 3 (some (P0 20 (0 : Int32).toNatClampNeg)) else (if x1 = (9 : Int32) then mb_let (0 : Int32) (fun (x3_20 : Int32) => f_Ref_count_144 P0 mb_fu x2_1 x3_20) else (if x1 = (10 : Int32) then some (P0 0 23) else some (-1 : Int32)))))))))))))
def rm_Ref_count : Room := { frames := 0, cells := 0, slots := 0, locals := 0 }
set_option maxHeartbeats 4000000 in
set_option maxRecDepth 100000 in
theorem c_Ref_count (l : Launch) (D : va_G) (k : Nat → ClassId) (sz : Nat) (b0 : Nat → Nat) (P0 : PI) (L0 : PL) (x1 : Int32) (z : Int32) (hf : f_Ref_count P0 x1 = some z) : Met l yX12_count wsX12_count rm_Ref_count (va_Pc [.ref (b0 0), .int x1] (gw_pre D vwCl (tyL k) (wC_Ref k b0 P0 L0) sz)) (va_Qi (fun (r : Int32) (_ : Unit) => r = z) (gw_b D vwCl (tyL k) (va_A (wC_Ref k b0 P0 L0) sz) (wC_Ref k b0 P0 L0)) (va_A (wC_Ref k b0 P0 L0) sz)) 0 0 (va_A (wC_Ref k b0 P0 L0) sz) := by
  refine gm_i (cc := cX12_count) (maxL := 4) (by decide) rfl (Nat.le_of_ble_eq_true rfl) ?_
  intro p e s m args below meth c A Q ls H locs hx hb hml hown hts hK hN hA hP hD hS hl hret
  have hown : s.vm.findClass RX12 = some m.cls := hown
  have hl : lv_has ls 4 [(0, .ref (b0 0)), (1, .int x1)] := hl
  have iw_Ref : ∀ w ∈ u_ws RX12 TX12 42, w ∈ wsX12_count := by decide +kernel
  have fl_19 := hts (.fieldLink RX12 19 "OneMeasureModel" "tables" "[I") (by decide +kernel)
  have fl_38 := hts (.fieldLink RX12 38 "OneMeasureModel" "itemMany" "[I") (by decide +kernel)
  have fl_47 := hts (.fieldLink RX12 47 "OneMeasureModel" "rodMany" "[I") (by decide +kernel)
  have fl_50 := hts (.fieldLink RX12 50 "OneMeasureModel" "rods" "[I") (by decide +kernel)
  have fl_53 := hts (.fieldLink RX12 53 "OneMeasureModel" "week" "[I") (by decide +kernel)
  have fl_90 := hts (.fieldLink RX12 90 "OneMeasureModel" "unitMany" "I") (by decide +kernel)
  have fl_154 := hts (.fieldLink RX12 154 "OneMeasureModel" "chainMany" "I") (by decide +kernel)
  have fl_165 := hts (.fieldLink RX12 165 "OneMeasureModel" "trialMany" "I") (by decide +kernel)
  have fl_182 := hts (.fieldLink RX12 182 "OneMeasureModel" "length" "I") (by decide +kernel)
  have fl_232 := hts (.fieldLink RX12 232 "OneMeasureModel" "paperMany" "I") (by decide +kernel)
  have fl_300 := hts (.fieldLink RX12 300 "OneMeasureModel" "keptMany" "I") (by decide +kernel)
  unfold f_Ref_count at hf
  refine lv_iconst (v := 0) hx hb dX12_count_0 (by decide) ?_
  obtain ⟨x2_1, e_, hf⟩ := mb_let_s hf
  refine mb_topi e_ ?_
  clear e_
  refine lv_istore_n (lv' := [(2, .int x2_1), (0, .ref (b0 0)), (1, .int x1)]) hx hb dX12_count_1 rfl hl (by decide) rfl (fun ls hl => ?_)
  refine lv_iload_n hx hb dX12_count_2 rfl (lv_at hl 2 rfl) ?_
  by_cases c_36 : x1 = (0 : Int32)
  · have hf := mb_if_t c_36 hf
    refine lv_tableIn (tgt := 60) hx hb dX12_count_3 (by rw [c_36]; decide) (by rw [c_36]; decide) (by rw [c_36]; rfl) (by decide) ?_
    refine lv_aload_n hx hb dX12_count_60 rfl (lv_at hl 1 rfl) ?_
    refine va_get (D := D) (ci := 12) (v := .int (P0 0 0)) (C := RX12) (T := TX12) (N := 42) hx hb hts iw_Ref hown hK hP 0 rfl rfl 0 (by decide) fl_90 (fun _ h9 => h9) rfl dX12_count_61 ?_
    have hz := Option.some.inj hf
    subst hz
    exact hret _ _ _ _ dX12_count_64 hP hD hS
  · have hf := mb_if_f c_36 hf
    by_cases c_37 : x1 = (1 : Int32)
    · have hf := mb_if_t c_37 hf
      refine lv_tableIn (tgt := 65) hx hb dX12_count_3 (by rw [c_37]; decide) (by rw [c_37]; decide) (by rw [c_37]; rfl) (by decide) ?_
      refine lv_iconst (v := 0) hx hb dX12_count_65 (by decide) ?_
      obtain ⟨x3_2, e_, hf⟩ := mb_let_s hf
      refine mb_topi e_ ?_
      clear e_
      refine lv_istore_n (lv' := [(3, .int x3_2), (2, .int x2_1), (0, .ref (b0 0)), (1, .int x1)]) hx hb dX12_count_66 rfl hl (by decide) rfl (fun ls hl => ?_)
      have lp67_3 : ∀ (n : Nat) (x2_5 : Int32) (x3_6 : Int32) (H : Heap) (locs : List Loc) (ls : Array Slot), f_Ref_count_67 P0 n x2_5 x3_6 = some z → va_P D vwCl (wC_Ref k b0 P0 L0) H → va_D A (wC_Ref k b0 P0 L0) → va_S A s.heap H locs → lv_has ls 4 [(0, .ref (b0 0)), (2, .int x2_5), (3, .int x3_6)] → W p l e rm_Ref_count s m args below meth c H locs 0 0 Q (F0 m 67 ls []) := by
        intro n
        induction n with
        | zero =>
          intro x2_5 x3_6 H locs ls hf
          exact nomatch (show (none : Option (Int32)) = some z from hf)
        | succ n ih_4 =>
          intro x2_5 x3_6 H locs ls hf hP hD hS hl
          have hf : f_Ref_count_67_b P0 (f_Ref_count_67 P0 n) x2_5 x3_6 = some z := hf
          unfold f_Ref_count_67_b at hf
          refine lv_iload_n hx hb dX12_count_67 rfl (lv_at hl 2 rfl) ?_
          refine lv_sipush (v := 256) hx hb dX12_count_68 (by decide) ?_
          refine lv_icmp_ge (tgt := 99) hx hb dX12_count_71 (by decide) (fun c_16 => ?_) (fun c_16 => ?_)
          · have hf := mb_if_t c_16 hf
            refine lv_iload_n hx hb dX12_count_99 rfl (lv_at hl 1 rfl) ?_
            have hz := Option.some.inj hf
            subst hz
            exact hret _ _ _ _ dX12_count_100 hP hD hS
          · have hf := mb_if_f c_16 hf
            refine lv_iload_n hx hb dX12_count_74 rfl (lv_at hl 1 rfl) ?_
            refine lv_aload_n hx hb dX12_count_75 rfl (lv_at hl 0 rfl) ?_
            refine va_get (D := D) (ci := 12) (v := .ref (b0 5)) (C := RX12) (T := TX12) (N := 42) hx hb hts iw_Ref hown hK hP 0 rfl rfl 4 (by decide) fl_19 (fun _ h9 => h9) rfl dX12_count_76 ?_
            refine lv_iconst (v := 3) hx hb dX12_count_79 (by decide) ?_
            refine lv_iload_n hx hb dX12_count_80 rfl (lv_at hl 2 rfl) ?_
            refine lv_imul hx hb dX12_count_81 ?_
            obtain ⟨h_8, hf⟩ := mb_chk_s hf
            refine va_iald hx hb hK hP 4 0 rfl rfl h_8 dX12_count_82 ?_
            obtain ⟨J91_11, eJ91_11, hf⟩ := mb_jn_s hf
            have j91_12 : ∀ (y_9 : Int32) (y_10 : Int32) (H : Heap) (locs : List Loc) (ls : Array Slot), J91_11 y_9 y_10 = some z → va_P D vwCl (wC_Ref k b0 P0 L0) H → va_D A (wC_Ref k b0 P0 L0) → va_S A s.heap H locs → lv_has ls 4 [(0, .ref (b0 0)), (3, .int x3_6)] → W p l e rm_Ref_count s m args below meth c H locs 0 0 Q (F0 m 91 ls [.int y_9, .int y_10]) := by
              intro y_9 y_10 H locs ls hf hP hD hS hl
              have hf := mb_j2 eJ91_11 hf
              refine lv_iadd hx hb dX12_count_91 ?_
              obtain ⟨x2_13, e_, hf⟩ := mb_let_s hf
              refine mb_topi e_ ?_
              clear e_
              refine lv_istore_n (lv' := [(2, .int x2_13), (0, .ref (b0 0)), (3, .int x3_6)]) hx hb dX12_count_92 rfl hl (by decide) rfl (fun ls hl => ?_)
              obtain ⟨x3_14, e_, hf⟩ := mb_let_s hf
              refine lv_iinc (v := x3_14) (lv' := [(3, .int x3_14), (2, .int x2_13), (0, .ref (b0 0))]) hx hb dX12_count_93 hl (k := 2) rfl (by rw [e_]; rfl) (by decide) rfl (fun ls hl => ?_)
              clear e_
              refine lv_goto (tgt := 67) hx hb dX12_count_96 (by decide) ?_
              exact ih_4 x2_13 x3_14 _ _ _ hf hP hD hS (lv_sub hl [2, 1, 0] rfl)
            refine lv_if_le (tgt := 90) hx hb dX12_count_83 (by decide) (fun c_15 => ?_) (fun c_15 => ?_)
            · have hf := mb_if_t c_15 hf
              refine lv_iconst (v := 0) hx hb dX12_count_90 (by decide) ?_
              exact j91_12 (0 : Int32) x2_5 _ _ _ hf hP hD hS (lv_sub hl [0, 2] rfl)
            · have hf := mb_if_f c_15 hf
              refine lv_iconst (v := 1) hx hb dX12_count_86 (by decide) ?_
              refine lv_goto (tgt := 91) hx hb dX12_count_87 (by decide) ?_
              exact j91_12 (1 : Int32) x2_5 _ _ _ hf hP hD hS (lv_sub hl [0, 2] rfl)
      exact lp67_3 mb_fu x2_1 x3_2 _ _ _ hf hP hD hS (lv_sub hl [2, 1, 0] rfl)
    · have hf := mb_if_f c_37 hf
      by_cases c_38 : x1 = (2 : Int32)
      · have hf := mb_if_t c_38 hf
        refine lv_tableIn (tgt := 101) hx hb dX12_count_3 (by rw [c_38]; decide) (by rw [c_38]; decide) (by rw [c_38]; rfl) (by decide) ?_
        refine lv_aload_n hx hb dX12_count_101 rfl (lv_at hl 1 rfl) ?_
        refine va_get (D := D) (ci := 12) (v := .int (P0 0 5)) (C := RX12) (T := TX12) (N := 42) hx hb hts iw_Ref hown hK hP 0 rfl rfl 5 (by decide) fl_154 (fun _ h9 => h9) rfl dX12_count_102 ?_
        have hz := Option.some.inj hf
        subst hz
        exact hret _ _ _ _ dX12_count_105 hP hD hS
      · have hf := mb_if_f c_38 hf
        by_cases c_39 : x1 = (3 : Int32)
        · have hf := mb_if_t c_39 hf
          refine lv_tableIn (tgt := 106) hx hb dX12_count_3 (by rw [c_39]; decide) (by rw [c_39]; decide) (by rw [c_39]; rfl) (by decide) ?_
          refine lv_aload_n hx hb dX12_count_106 rfl (lv_at hl 1 rfl) ?_
          refine va_get (D := D) (ci := 12) (v := .int (P0 0 9)) (C := RX12) (T := TX12) (N := 42) hx hb hts iw_Ref hown hK hP 0 rfl rfl 9 (by decide) fl_165 (fun _ h9 => h9) rfl dX12_count_107 ?_
          have hz := Option.some.inj hf
          subst hz
          exact hret _ _ _ _ dX12_count_110 hP hD hS
        · have hf := mb_if_f c_39 hf
          by_cases c_40 : x1 = (4 : Int32)
          · have hf := mb_if_t c_40 hf
            refine lv_tableIn (tgt := 111) hx hb dX12_count_3 (by rw [c_40]; decide) (by rw [c_40]; decide) (by rw [c_40]; rfl) (by decide) ?_
            refine lv_aload_n hx hb dX12_count_111 rfl (lv_at hl 1 rfl) ?_
            refine va_get (D := D) (ci := 12) (v := .int (P0 0 11)) (C := RX12) (T := TX12) (N := 42) hx hb hts iw_Ref hown hK hP 0 rfl rfl 11 (by decide) fl_182 (fun _ h9 => h9) rfl dX12_count_112 ?_
            have hz := Option.some.inj hf
            subst hz
            exact hret _ _ _ _ dX12_count_115 hP hD hS
          · have hf := mb_if_f c_40 hf
            by_cases c_41 : x1 = (5 : Int32)
            · have hf := mb_if_t c_41 hf
              refine lv_tableIn (tgt := 116) hx hb dX12_count_3 (by rw [c_41]; decide) (by rw [c_41]; decide) (by rw [c_41]; rfl) (by decide) ?_
              refine lv_aload_n hx hb dX12_count_116 rfl (lv_at hl 1 rfl) ?_
              refine va_get (D := D) (ci := 12) (v := .ref (b0 14)) (C := RX12) (T := TX12) (N := 42) hx hb hts iw_Ref hown hK hP 0 rfl rfl 13 (by decide) fl_38 (fun _ h9 => h9) rfl dX12_count_117 ?_
              refine lv_iconst (v := 1) hx hb dX12_count_120 (by decide) ?_
              obtain ⟨h_17, hf⟩ := mb_chk_s hf
              refine va_iald hx hb hK hP 10 0 rfl rfl h_17 dX12_count_121 ?_
              have hz := Option.some.inj hf
              subst hz
              exact hret _ _ _ _ dX12_count_122 hP hD hS
            · have hf := mb_if_f c_41 hf
              by_cases c_42 : x1 = (6 : Int32)
              · have hf := mb_if_t c_42 hf
                refine lv_tableIn (tgt := 123) hx hb dX12_count_3 (by rw [c_42]; decide) (by rw [c_42]; decide) (by rw [c_42]; rfl) (by decide) ?_
                refine lv_aload_n hx hb dX12_count_123 rfl (lv_at hl 1 rfl) ?_
                refine va_get (D := D) (ci := 12) (v := .int (P0 0 15)) (C := RX12) (T := TX12) (N := 42) hx hb hts iw_Ref hown hK hP 0 rfl rfl 15 (by decide) fl_232 (fun _ h9 => h9) rfl dX12_count_124 ?_
                have hz := Option.some.inj hf
                subst hz
                exact hret _ _ _ _ dX12_count_127 hP hD hS
              · have hf := mb_if_f c_42 hf
                by_cases c_43 : x1 = (7 : Int32)
                · have hf := mb_if_t c_43 hf
                  refine lv_tableIn (tgt := 128) hx hb dX12_count_3 (by rw [c_43]; decide) (by rw [c_43]; decide) (by rw [c_43]; rfl) (by decide) ?_
                  refine lv_aload_n hx hb dX12_count_128 rfl (lv_at hl 1 rfl) ?_
                  refine va_get (D := D) (ci := 12) (v := .ref (b0 18)) (C := RX12) (T := TX12) (N := 42) hx hb hts iw_Ref hown hK hP 0 rfl rfl 17 (by decide) fl_47 (fun _ h9 => h9) rfl dX12_count_129 ?_
                  refine lv_iconst (v := 0) hx hb dX12_count_132 (by decide) ?_
                  obtain ⟨h_18, hf⟩ := mb_chk_s hf
                  refine va_iald hx hb hK hP 13 0 rfl rfl h_18 dX12_count_133 ?_
                  have hz := Option.some.inj hf
                  subst hz
                  exact hret _ _ _ _ dX12_count_134 hP hD hS
                · have hf := mb_if_f c_43 hf
                  by_cases c_44 : x1 = (8 : Int32)
                  · have hf := mb_if_t c_44 hf
                    refine lv_tableIn (tgt := 135) hx hb dX12_count_3 (by rw [c_44]; decide) (by rw [c_44]; decide) (by rw [c_44]; rfl) (by decide) ?_
                    refine lv_aload_n hx hb dX12_count_135 rfl (lv_at hl 1 rfl) ?_
                    refine va_get (D := D) (ci := 12) (v := .ref (b0 20)) (C := RX12) (T := TX12) (N := 42) hx hb hts iw_Ref hown hK hP 0 rfl rfl 19 (by decide) fl_53 (fun _ h9 => h9) rfl dX12_count_136 ?_
                    refine lv_iconst (v := 0) hx hb dX12_count_139 (by decide) ?_
                    obtain ⟨h_19, hf⟩ := mb_chk_s hf
                    refine va_iald hx hb hK hP 15 0 rfl rfl h_19 dX12_count_140 ?_
                    have hz := Option.some.inj hf
                    subst hz
                    exact hret _ _ _ _ dX12_count_141 hP hD hS
                  · have hf := mb_if_f c_44 hf
                    by_cases c_45 : x1 = (9 : Int32)
                    · have hf := mb_if_t c_45 hf
                      refine lv_tableIn (tgt := 142) hx hb dX12_count_3 (by rw [c_45]; decide) (by rw [c_45]; decide) (by rw [c_45]; rfl) (by decide) ?_
                      refine lv_iconst (v := 0) hx hb dX12_count_142 (by decide) ?_
                      obtain ⟨x3_20, e_, hf⟩ := mb_let_s hf
                      refine mb_topi e_ ?_
                      clear e_
                      refine lv_istore_n (lv' := [(3, .int x3_20), (2, .int x2_1), (0, .ref (b0 0)), (1, .int x1)]) hx hb dX12_count_143 rfl hl (by decide) rfl (fun ls hl => ?_)
                      have lp144_21 : ∀ (n : Nat) (x2_23 : Int32) (x3_24 : Int32) (H : Heap) (locs : List Loc) (ls : Array Slot), f_Ref_count_144 P0 n x2_23 x3_24 = some z → va_P D vwCl (wC_Ref k b0 P0 L0) H → va_D A (wC_Ref k b0 P0 L0) → va_S A s.heap H locs → lv_has ls 4 [(0, .ref (b0 0)), (2, .int x2_23), (3, .int x3_24)] → W p l e rm_Ref_count s m args below meth c H locs 0 0 Q (F0 m 144 ls []) := by
                        intro n
                        induction n with
                        | zero =>
                          intro x2_23 x3_24 H locs ls hf
                          exact nomatch (show (none : Option (Int32)) = some z from hf)
                        | succ n ih_22 =>
                          intro x2_23 x3_24 H locs ls hf hP hD hS hl
                          have hf : f_Ref_count_144_b P0 (f_Ref_count_144 P0 n) x2_23 x3_24 = some z := hf
                          unfold f_Ref_count_144_b at hf
                          refine lv_iload_n hx hb dX12_count_144 rfl (lv_at hl 2 rfl) ?_
                          refine lv_aload_n hx hb dX12_count_145 rfl (lv_at hl 0 rfl) ?_
                          refine va_get (D := D) (ci := 12) (v := .ref (b0 18)) (C := RX12) (T := TX12) (N := 42) hx hb hts iw_Ref hown hK hP 0 rfl rfl 17 (by decide) fl_47 (fun _ h9 => h9) rfl dX12_count_146 ?_
                          refine lv_iconst (v := 0) hx hb dX12_count_149 (by decide) ?_
                          obtain ⟨h_26, hf⟩ := mb_chk_s hf
                          refine va_iald hx hb hK hP 13 0 rfl rfl h_26 dX12_count_150 ?_
                          refine lv_icmp_ge (tgt := 183) hx hb dX12_count_151 (by decide) (fun c_35 => ?_) (fun c_35 => ?_)
                          · have hf := mb_if_t c_35 hf
                            refine lv_iload_n hx hb dX12_count_183 rfl (lv_at hl 1 rfl) ?_
                            have hz := Option.some.inj hf
                            subst hz
                            exact hret _ _ _ _ dX12_count_184 hP hD hS
                          · have hf := mb_if_f c_35 hf
                            refine lv_iload_n hx hb dX12_count_154 rfl (lv_at hl 1 rfl) ?_
                            refine lv_aload_n hx hb dX12_count_155 rfl (lv_at hl 0 rfl) ?_
                            refine va_get (D := D) (ci := 12) (v := .ref (b0 19)) (C := RX12) (T := TX12) (N := 42) hx hb hts iw_Ref hown hK hP 0 rfl rfl 18 (by decide) fl_50 (fun _ h9 => h9) rfl dX12_count_156 ?_
                            refine lv_bipush (v := 8) hx hb dX12_count_159 (by decide) ?_
                            refine lv_iload_n hx hb dX12_count_161 rfl (lv_at hl 2 rfl) ?_
                            refine lv_imul hx hb dX12_count_162 ?_
                            refine lv_bipush (v := 7) hx hb dX12_count_163 (by decide) ?_
                            refine lv_iadd hx hb dX12_count_165 ?_
                            obtain ⟨h_27, hf⟩ := mb_chk_s hf
                            refine va_iald hx hb hK hP 14 0 rfl rfl h_27 dX12_count_166 ?_
                            obtain ⟨J175_30, eJ175_30, hf⟩ := mb_jn_s hf
                            have j175_31 : ∀ (y_28 : Int32) (y_29 : Int32) (H : Heap) (locs : List Loc) (ls : Array Slot), J175_30 y_28 y_29 = some z → va_P D vwCl (wC_Ref k b0 P0 L0) H → va_D A (wC_Ref k b0 P0 L0) → va_S A s.heap H locs → lv_has ls 4 [(0, .ref (b0 0)), (3, .int x3_24)] → W p l e rm_Ref_count s m args below meth c H locs 0 0 Q (F0 m 175 ls [.int y_28, .int y_29]) := by
                              intro y_28 y_29 H locs ls hf hP hD hS hl
                              have hf := mb_j2 eJ175_30 hf
                              refine lv_iadd hx hb dX12_count_175 ?_
                              obtain ⟨x2_32, e_, hf⟩ := mb_let_s hf
                              refine mb_topi e_ ?_
                              clear e_
                              refine lv_istore_n (lv' := [(2, .int x2_32), (0, .ref (b0 0)), (3, .int x3_24)]) hx hb dX12_count_176 rfl hl (by decide) rfl (fun ls hl => ?_)
                              obtain ⟨x3_33, e_, hf⟩ := mb_let_s hf
                              refine lv_iinc (v := x3_33) (lv' := [(3, .int x3_33), (2, .int x2_32), (0, .ref (b0 0))]) hx hb dX12_count_177 hl (k := 2) rfl (by rw [e_]; rfl) (by decide) rfl (fun ls hl => ?_)
                              clear e_
                              refine lv_goto (tgt := 144) hx hb dX12_count_180 (by decide) ?_
                              exact ih_22 x2_32 x3_33 _ _ _ hf hP hD hS (lv_sub hl [2, 1, 0] rfl)
                            refine lv_if_ge (tgt := 174) hx hb dX12_count_167 (by decide) (fun c_34 => ?_) (fun c_34 => ?_)
                            · have hf := mb_if_t c_34 hf
                              refine lv_iconst (v := 1) hx hb dX12_count_174 (by decide) ?_
                              exact j175_31 (1 : Int32) x2_23 _ _ _ hf hP hD hS (lv_sub hl [0, 2] rfl)
                            · have hf := mb_if_f c_34 hf
                              refine lv_iconst (v := 0) hx hb dX12_count_170 (by decide) ?_
                              refine lv_goto (tgt := 175) hx hb dX12_count_171 (by decide) ?_
                              exact j175_31 (0 : Int32) x2_23 _ _ _ hf hP hD hS (lv_sub hl [0, 2] rfl)
                      exact lp144_21 mb_fu x2_1 x3_20 _ _ _ hf hP hD hS (lv_sub hl [2, 1, 0] rfl)
                    · have hf := mb_if_f c_45 hf
                      by_cases c_46 : x1 = (10 : Int32)
                      · have hf := mb_if_t c_46 hf
                        refine lv_tableIn (tgt := 185) hx hb dX12_count_3 (by rw [c_46]; decide) (by rw [c_46]; decide) (by rw [c_46]; rfl) (by decide) ?_
                        refine lv_aload_n hx hb dX12_count_185 rfl (lv_at hl 1 rfl) ?_
                        refine va_get (D := D) (ci := 12) (v := .int (P0 0 23)) (C := RX12) (T := TX12) (N := 42) hx hb hts iw_Ref hown hK hP 0 rfl rfl 23 (by decide) fl_300 (fun _ h9 => h9) rfl dX12_count_186 ?_
                        have hz := Option.some.inj hf
                        subst hz
                        exact hret _ _ _ _ dX12_count_189 hP hD hS
                      · have hf := mb_if_f c_46 hf
                        refine lv_tableOut (tgt := 190) hx hb dX12_count_3 (by have q0 : ¬ (x1 : Int32).toInt = 0 := mb_ni c_36 (by decide); have q1 : ¬ (x1 : Int32).toInt = 1 := mb_ni c_37 (by decide); have q2 : ¬ (x1 : Int32).toInt = 2 := mb_ni c_38 (by decide); have q3 : ¬ (x1 : Int32).toInt = 3 := mb_ni c_39 (by decide); have q4 : ¬ (x1 : Int32).toInt = 4 := mb_ni c_40 (by decide); have q5 : ¬ (x1 : Int32).toInt = 5 := mb_ni c_41 (by decide); have q6 : ¬ (x1 : Int32).toInt = 6 := mb_ni c_42 (by decide); have q7 : ¬ (x1 : Int32).toInt = 7 := mb_ni c_43 (by decide); have q8 : ¬ (x1 : Int32).toInt = 8 := mb_ni c_44 (by decide); have q9 : ¬ (x1 : Int32).toInt = 9 := mb_ni c_45 (by decide); have q10 : ¬ (x1 : Int32).toInt = 10 := mb_ni c_46 (by decide); omega) (by decide) ?_
                        refine lv_iconst (v := (-1)) hx hb dX12_count_190 (by decide) ?_
                        have hz := Option.some.inj hf
                        subst hz
                        exact hret _ _ _ _ dX12_count_191 hP hD hS
