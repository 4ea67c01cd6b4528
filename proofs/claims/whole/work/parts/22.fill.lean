/-! Arrays.fill of a lone row (names YF, WF, CF, DF_.. are put in from the names' file) -/
theorem mb_fill_0 {α : Type} (v : α) (f : Nat → α) : mb_fill 0 v f = f := by
  funext j
  show (if j < 0 then v else f j) = f j
  rw [if_neg (Nat.not_lt_zero j)]
theorem mb_fill_succ (n : Nat) (v : Int64) (f : Nat → Int64) : vp_updL (mb_fill n v f) n v = mb_fill (n + 1) v f := by
  funext j
  show (if j = n then v else if j < n then v else f j) = if j < n + 1 then v else f j
  by_cases h1 : j = n
  · rw [if_pos h1, if_pos (by omega)]
  · rw [if_neg h1]
    by_cases h2 : j < n
    · rw [if_pos h2, if_pos (by omega)]
    · rw [if_neg h2, if_neg (by omega)]
theorem mb_fill_succI (n : Nat) (v : Int32) (f : Nat → Int32) : upd (mb_fill n v f) n v = mb_fill (n + 1) v f := by
  funext j
  show (if j = n then v else if j < n then v else f j) = if j < n + 1 then v else f j
  by_cases h1 : j = n
  · rw [if_pos h1, if_pos (by omega)]
  · rw [if_neg h1]
    by_cases h2 : j < n
    · rw [if_pos h2, if_pos (by omega)]
    · rw [if_neg h2, if_neg (by omega)]
def rm_fill : Room := { frames := 0, cells := 0, slots := 0, locals := 0 }
set_option maxHeartbeats 4000000 in
set_option maxRecDepth 100000 in
theorem c_fillJ (l : Launch) (D : va_G) (k : Nat → ClassId) (sz q n : Nat) (f : Nat → Int64) (v : Int64) (hn31 : n < 2 ^ 31) : Met l yJ7_fill_d0a16 wsJ7_fill_d0a16 rm_fill (va_Pc [.ref q, .long v] (gw_pre D vwCl (tyL k) [(q, .inl (k 1, n, .inr (.inl f)))] sz)) (va_Qv (fun (_ : Unit) => True) (gw_b D vwCl (tyL k) (va_A [(q, .inl (k 1, n, .inr (.inl f)))] sz) [(q, .inl (k 1, n, .inr (.inl (mb_fill n v f))))]) (va_A [(q, .inl (k 1, n, .inr (.inl f)))] sz)) 0 0 (va_A [(q, .inl (k 1, n, .inr (.inl f)))] sz) := by
  refine gm_v (cc := cJ7_fill_d0a16) (maxL := 5) (by decide) rfl (Nat.le_of_ble_eq_true rfl) ?_
  intro p e s m args below meth c A Q ls H locs hx hb hml hown hts hK hN hA hP hD hS hl hret
  have hl : lv_has ls 5 [(0, .ref q), (1, .long v)] := hl
  refine lv_iconst (v := 0) hx hb dJ7_fill_d0a16_0 (by decide) ?_
  refine lv_istore_n (lv' := [(3, .int 0), (0, .ref q), (1, .long v)]) hx hb dJ7_fill_d0a16_1 rfl hl (by decide) rfl (fun ls hl => ?_)
  refine lv_aload_n hx hb dJ7_fill_d0a16_2 rfl (lv_at hl 1 rfl) ?_
  refine va_alen (v := nI n) hx hb hK hP 0 1 rfl rfl rfl dJ7_fill_d0a16_3 ?_
  refine lv_istore (lv' := [(4, .int (nI n)), (3, .int 0), (0, .ref q), (1, .long v)]) hx hb dJ7_fill_d0a16_4 hl (by decide) rfl (fun ls hl => ?_)
  have lp : ∀ (t i : Nat) (x : Int32) (H : Heap) (locs : List Loc) (ls : Array Slot), i ≤ n → n ≤ i + t → x = nI i → va_P D vwCl [(q, .inl (k 1, n, .inr (.inl (mb_fill i v f))))] H → va_D A [(q, .inl (k 1, n, .inr (.inl (mb_fill i v f))))] → va_S A s.heap H locs → lv_has ls 5 [(0, .ref q), (1, .long v), (3, .int x), (4, .int (nI n))] → W p l e rm_fill s m args below meth c H locs 0 0 Q (F0 m 6 ls []) := by
    intro t
    induction t with
    | zero =>
      intro i x H locs ls hi hin ex hP hD hS hl
      have e1 : i = n := by omega
      subst e1
      subst ex
      refine lv_iload_n hx hb dJ7_fill_d0a16_6 rfl (lv_at hl 2 rfl) ?_
      refine lv_iload hx hb dJ7_fill_d0a16_7 (lv_at hl 3 rfl) ?_
      refine lv_icmp_ge (tgt := 22) hx hb dJ7_fill_d0a16_9 (by decide) (fun _ => ?_) (fun c_1 => absurd (nI_le (Nat.le_refl i) hn31) c_1)
      exact hret _ _ _ _ dJ7_fill_d0a16_22 hP hD hS
    | succ t ih =>
      intro i x H locs ls hi hin ex hP hD hS hl
      subst ex
      refine lv_iload_n hx hb dJ7_fill_d0a16_6 rfl (lv_at hl 2 rfl) ?_
      refine lv_iload hx hb dJ7_fill_d0a16_7 (lv_at hl 3 rfl) ?_
      by_cases hlt : i < n
      · refine lv_icmp_ge (tgt := 22) hx hb dJ7_fill_d0a16_9 (by decide) (fun c_1 => absurd c_1 (nI_ge hlt hn31)) (fun _ => ?_)
        refine lv_aload_n hx hb dJ7_fill_d0a16_12 rfl (lv_at hl 0 rfl) ?_
        refine lv_iload_n hx hb dJ7_fill_d0a16_13 rfl (lv_at hl 2 rfl) ?_
        refine lv_lload_n hx hb dJ7_fill_d0a16_14 rfl (lv_at hl 1 rfl) ?_
        refine va_last hx hb hK hP hD hS 0 1 rfl rfl (vp_in_nI hlt hn31) dJ7_fill_d0a16_15 (fun H locs hP hD hS => ?_)
        have e2 : vp_updL (mb_fill i v f) (nI i).toNatClampNeg v = mb_fill (i + 1) v f := by rw [nI_clamp (by omega), mb_fill_succ]
        have hP : va_P D vwCl [(q, .inl (k 1, n, .inr (.inl (mb_fill (i + 1) v f))))] H := by rw [← e2]; exact hP
        have hD : va_D A [(q, .inl (k 1, n, .inr (.inl (mb_fill (i + 1) v f))))] := by rw [← e2]; exact hD
        refine lv_iinc (v := nI (i + 1)) (lv' := [(3, .int (nI (i + 1))), (0, .ref q), (1, .long v), (4, .int (nI n))]) hx hb dJ7_fill_d0a16_16 hl (k := 2) rfl (nI_1 i) (by decide) rfl (fun ls hl => ?_)
        refine lv_goto (tgt := 6) hx hb dJ7_fill_d0a16_19 (by decide) ?_
        exact ih (i + 1) _ _ _ _ (by omega) (by omega) rfl hP hD hS (lv_sub hl [1, 2, 0, 3] rfl)
      · refine lv_icmp_ge (tgt := 22) hx hb dJ7_fill_d0a16_9 (by decide) (fun _ => ?_) (fun c_1 => absurd (nI_le (by omega) (by omega)) c_1)
        have e1 : i = n := by omega
        subst e1
        exact hret _ _ _ _ dJ7_fill_d0a16_22 hP hD hS
  exact lp n 0 0 _ _ _ (Nat.zero_le n) (by omega) nI_0.symm (by rw [mb_fill_0]; exact hP) (by rw [mb_fill_0]; exact hD) hS (lv_sub hl [2, 3, 1, 0] rfl)
set_option maxHeartbeats 4000000 in
set_option maxRecDepth 100000 in
theorem c_fillI (l : Launch) (D : va_G) (k : Nat → ClassId) (sz q n : Nat) (f : Nat → Int32) (v : Int32) (hn31 : n < 2 ^ 31) : Met l yJ7_fill_53178 wsJ7_fill_53178 rm_fill (va_Pc [.ref q, .int v] (gw_pre D vwCl (tyL k) [(q, .inl (k 0, n, .inl f))] sz)) (va_Qv (fun (_ : Unit) => True) (gw_b D vwCl (tyL k) (va_A [(q, .inl (k 0, n, .inl f))] sz) [(q, .inl (k 0, n, .inl (mb_fill n v f)))]) (va_A [(q, .inl (k 0, n, .inl f))] sz)) 0 0 (va_A [(q, .inl (k 0, n, .inl f))] sz) := by
  refine gm_v (cc := cJ7_fill_53178) (maxL := 4) (by decide) rfl (Nat.le_of_ble_eq_true rfl) ?_
  intro p e s m args below meth c A Q ls H locs hx hb hml hown hts hK hN hA hP hD hS hl hret
  have hl : lv_has ls 4 [(0, .ref q), (1, .int v)] := hl
  refine lv_iconst (v := 0) hx hb dJ7_fill_53178_0 (by decide) ?_
  refine lv_istore_n (lv' := [(2, .int 0), (0, .ref q), (1, .int v)]) hx hb dJ7_fill_53178_1 rfl hl (by decide) rfl (fun ls hl => ?_)
  refine lv_aload_n hx hb dJ7_fill_53178_2 rfl (lv_at hl 1 rfl) ?_
  refine va_alen (v := nI n) hx hb hK hP 0 0 rfl rfl rfl dJ7_fill_53178_3 ?_
  refine lv_istore_n (lv' := [(3, .int (nI n)), (2, .int 0), (0, .ref q), (1, .int v)]) hx hb dJ7_fill_53178_4 rfl hl (by decide) rfl (fun ls hl => ?_)
  have lp : ∀ (t i : Nat) (x : Int32) (H : Heap) (locs : List Loc) (ls : Array Slot), i ≤ n → n ≤ i + t → x = nI i → va_P D vwCl [(q, .inl (k 0, n, .inl (mb_fill i v f)))] H → va_D A [(q, .inl (k 0, n, .inl (mb_fill i v f)))] → va_S A s.heap H locs → lv_has ls 4 [(0, .ref q), (1, .int v), (2, .int x), (3, .int (nI n))] → W p l e rm_fill s m args below meth c H locs 0 0 Q (F0 m 5 ls []) := by
    intro t
    induction t with
    | zero =>
      intro i x H locs ls hi hin ex hP hD hS hl
      have e1 : i = n := by omega
      subst e1
      subst ex
      refine lv_iload_n hx hb dJ7_fill_53178_5 rfl (lv_at hl 2 rfl) ?_
      refine lv_iload_n hx hb dJ7_fill_53178_6 rfl (lv_at hl 3 rfl) ?_
      refine lv_icmp_ge (tgt := 20) hx hb dJ7_fill_53178_7 (by decide) (fun _ => ?_) (fun c_1 => absurd (nI_le (Nat.le_refl i) hn31) c_1)
      exact hret _ _ _ _ dJ7_fill_53178_20 hP hD hS
    | succ t ih =>
      intro i x H locs ls hi hin ex hP hD hS hl
      subst ex
      refine lv_iload_n hx hb dJ7_fill_53178_5 rfl (lv_at hl 2 rfl) ?_
      refine lv_iload_n hx hb dJ7_fill_53178_6 rfl (lv_at hl 3 rfl) ?_
      by_cases hlt : i < n
      · refine lv_icmp_ge (tgt := 20) hx hb dJ7_fill_53178_7 (by decide) (fun c_1 => absurd c_1 (nI_ge hlt hn31)) (fun _ => ?_)
        refine lv_aload_n hx hb dJ7_fill_53178_10 rfl (lv_at hl 0 rfl) ?_
        refine lv_iload_n hx hb dJ7_fill_53178_11 rfl (lv_at hl 2 rfl) ?_
        refine lv_iload_n hx hb dJ7_fill_53178_12 rfl (lv_at hl 1 rfl) ?_
        refine va_iast hx hb hK hP hD hS 0 0 rfl rfl (vp_in_nI hlt hn31) dJ7_fill_53178_13 (fun H locs hP hD hS => ?_)
        have e2 : upd (mb_fill i v f) (nI i).toNatClampNeg v = mb_fill (i + 1) v f := by rw [nI_clamp (by omega), mb_fill_succI]
        have hP : va_P D vwCl [(q, .inl (k 0, n, .inl (mb_fill (i + 1) v f)))] H := by rw [← e2]; exact hP
        have hD : va_D A [(q, .inl (k 0, n, .inl (mb_fill (i + 1) v f)))] := by rw [← e2]; exact hD
        refine lv_iinc (v := nI (i + 1)) (lv' := [(2, .int (nI (i + 1))), (0, .ref q), (1, .int v), (3, .int (nI n))]) hx hb dJ7_fill_53178_14 hl (k := 2) rfl (nI_1 i) (by decide) rfl (fun ls hl => ?_)
        refine lv_goto (tgt := 5) hx hb dJ7_fill_53178_17 (by decide) ?_
        exact ih (i + 1) _ _ _ _ (by omega) (by omega) rfl hP hD hS (lv_sub hl [1, 2, 0, 3] rfl)
      · refine lv_icmp_ge (tgt := 20) hx hb dJ7_fill_53178_7 (by decide) (fun _ => ?_) (fun c_1 => absurd (nI_le (by omega) (by omega)) c_1)
        have e1 : i = n := by omega
        subst e1
        exact hret _ _ _ _ dJ7_fill_53178_20 hP hD hS
  exact lp n 0 0 _ _ _ (Nat.zero_le n) (by omega) nI_0.symm (by rw [mb_fill_0]; exact hP) (by rw [mb_fill_0]; exact hD) hS (lv_sub hl [2, 3, 1, 0] rfl)
