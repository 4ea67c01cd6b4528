set_option maxHeartbeats 4000000 in
set_option maxRecDepth 100000 in
/-- the law's loop, over any relation of the pictures that every call keeps, with like answers -/
theorem law_loop {p : Program} {l : Launch} {e : Env} {s : State} {m : MethodId} {below : List Frame} {meth : Method} {c : Code} {D : va_G} {k : Nat → ClassId} {a : Nat → Nat → Nat} {b : Nat → Nat} {sb L : Nat} {xs : Nat → Int32} (hL : L ≤ 3072) (C0 : lw_At p s m meth c sb L xs) (hK : va_K D vwCl (tyL k) s) (hN : gw_N s) (R : rl_T) (hR : sp_all R) :
    ∀ (n i : Nat) (x3 : Int32), i ≤ L → L + 1 ≤ i + n → x3 = nI i → ∀ (P0 : PI) (P1 : PI) (P2 : PI) (P3 : PI) (L3 : PL) (P4 : PI) (L4 : PL) (P5 : PI) (L5 : PL) (P6 : PI) (P7 : PI) (P8 : PI) (L8 : PL) (P9 : PI) (L9 : PL) (P10 : PI) (L10 : PL) (P11 : PI) (P20 : PI) (L20 : PL) (P21 : PI) (L21 : PL) (P22 : PI) (P23 : PI) (PR : PI) (LR : PL), R P0 P1 P2 P3 L3 P4 L4 P5 L5 P6 P7 P8 L8 P9 L9 P10 L10 P11 P20 L20 P21 L21 P22 P23 PR LR → ∀ (H : Heap) (locs : List Loc), va_P D vwCl (wL k a b P0 P1 P2 P3 L3 P4 L4 P5 L5 P6 P7 P8 L8 P9 L9 P10 L10 P11 P20 L20 P21 L21 P22 P23 PR LR) H → va_D (fun q : Nat => s.heap.size ≤ q) (wL k a b P0 P1 P2 P3 L3 P4 L4 P5 L5 P6 P7 P8 L8 P9 L9 P10 L10 P11 P20 L20 P21 L21 P22 P23 PR LR) → va_S (fun q : Nat => s.heap.size ≤ q) s.heap H locs → ∀ (ls : Array Slot), lv_has ls 4 [(0, .ref sb), (1, .ref (a 0 0)), (2, .ref (b 0)), (3, .int x3)] → W p l e room_1 s m #[Value.ref sb] below meth c H locs 121 4602 (lw_Z below #[Value.ref sb] s) (F0 m 18 ls []) := by
  obtain ⟨hs_unit, hs_table, hs_turn, hs_lost, hs_best, hs_chain, hs_earth, hs_trial, hs_span, hs_write, hs_clear, hs_fault, hs_force, hs_let, hs_why, hs_quarrels, hs_means, hs_paper, hs_owed, hs_gained, hs_rod, hs_allowed, hs_plan, hs_weeks, hs_rodTold, hs_cheated, hs_rounds, hs_people, hs_seasons, hs_uses, hs_keep, hs_back, hs_count⟩ := hR
  obtain ⟨hx, hb, hr, hml, hown, hts, hX, hbl, hlocks, hgv⟩ := id C0
  have hA : ∀ q : Nat, s.heap.size ≤ q → (fun q : Nat => s.heap.size ≤ q) q := fun _ h => h
  have hbA : ¬ (fun q : Nat => s.heap.size ≤ q) sb := Nat.not_le.mpr hbl
  intro n
  induction n with
  | zero =>
    intro i x3 h1 h2
    exact absurd h2 (by omega)
  | succ n ih =>
    intro i x3 hi hin ex3 P0 P1 P2 P3 L3 P4 L4 P5 L5 P6 P7 P8 L8 P9 L9 P10 L10 P11 P20 L20 P21 L21 P22 P23 PR LR hR H locs hP hD hS ls hl
    refine lv_iload_n hx hb dL_law_18 rfl (lv_at hl 3 rfl) ?_
    refine lv_aload_n hx hb dL_law_19 rfl (lv_at hl 0 rfl) ?_
    refine va_slen hx hb hX hbl hbA hS dL_law_20 ?_
    refine lv_bipush (v := 6) hx hb dL_law_21 (by decide) ?_
    refine lv_isub hx hb dL_law_23 ?_
    have e6 : (Int32.ofNat L - 6).toInt = (L : Int) - 6 := pk_sub_toInt (a := L) (b := 6) (by omega) (by omega)
    have e3 : x3.toInt = (i : Int) := by rw [ex3]; exact nI_toInt (by omega)
    refine lv_icmp_gt (tgt := 1443) hx hb dL_law_24 (by decide) (fun c_1 => ?_) (fun c_1 => ?_)
    · refine lv_iconst (v := 1) hx hb dL_law_1443 (by decide) ?_
      refine va_forget (fun q hq => hS.2.2 q hq) ?_
      refine W.widen (k := 600000) (n := 7302250) (by decide) (by decide) ?_
      exact lw_ret hx hb hr hlocks dL_law_1444
    · have hlt : i + 6 ≤ L := by
        have q : ¬ (Int32.ofNat L - 6).toInt < x3.toInt := fun h => c_1 (Int32.lt_iff_toInt_lt.mpr h)
        rw [e6, e3] at q
        omega
      have h1 : vp_in (x3 + (1 : Int32)) L := by rw [ex3]; show vp_in (nI i + nI 1) L; rw [nI_add]; exact vp_in_nI (by omega) (by omega)
      have h2 : vp_in (x3 + (2 : Int32)) L := by rw [ex3]; show vp_in (nI i + nI 2) L; rw [nI_add]; exact vp_in_nI (by omega) (by omega)
      have h3 : vp_in (x3 + (3 : Int32)) L := by rw [ex3]; show vp_in (nI i + nI 3) L; rw [nI_add]; exact vp_in_nI (by omega) (by omega)
      have h4 : vp_in (x3 + (4 : Int32)) L := by rw [ex3]; show vp_in (nI i + nI 4) L; rw [nI_add]; exact vp_in_nI (by omega) (by omega)
      have h5 : vp_in (x3 + (5 : Int32)) L := by rw [ex3]; show vp_in (nI i + nI 5) L; rw [nI_add]; exact vp_in_nI (by omega) (by omega)
      have h0 : vp_in x3 L := by rw [ex3]; exact vp_in_nI (by omega) (by omega)
      have nx : ∀ (P0 : PI) (P1 : PI) (P2 : PI) (P3 : PI) (L3 : PL) (P4 : PI) (L4 : PL) (P5 : PI) (L5 : PL) (P6 : PI) (P7 : PI) (P8 : PI) (L8 : PL) (P9 : PI) (L9 : PL) (P10 : PI) (L10 : PL) (P11 : PI) (P20 : PI) (L20 : PL) (P21 : PI) (L21 : PL) (P22 : PI) (P23 : PI) (PR : PI) (LR : PL), R P0 P1 P2 P3 L3 P4 L4 P5 L5 P6 P7 P8 L8 P9 L9 P10 L10 P11 P20 L20 P21 L21 P22 P23 PR LR → ∀ (H : Heap) (locs : List Loc), va_P D vwCl (wL k a b P0 P1 P2 P3 L3 P4 L4 P5 L5 P6 P7 P8 L8 P9 L9 P10 L10 P11 P20 L20 P21 L21 P22 P23 PR LR) H → va_D (fun q : Nat => s.heap.size ≤ q) (wL k a b P0 P1 P2 P3 L3 P4 L4 P5 L5 P6 P7 P8 L8 P9 L9 P10 L10 P11 P20 L20 P21 L21 P22 P23 PR LR) → va_S (fun q : Nat => s.heap.size ≤ q) s.heap H locs → W p l e room_1 s m #[Value.ref sb] below meth c H locs 121 4602 (lw_Z below #[Value.ref sb] s) (F0 m 1437 ls []) := by
        intro P0 P1 P2 P3 L3 P4 L4 P5 L5 P6 P7 P8 L8 P9 L9 P10 L10 P11 P20 L20 P21 L21 P22 P23 PR LR hR H locs hP hD hS
        refine lv_iinc (v := nI (i + 6)) (lv' := [(3, .int (nI (i + 6))), (0, .ref sb), (1, .ref (a 0 0)), (2, .ref (b 0))]) hx hb dL_law_1437 hl (k := 3) rfl (by rw [ex3]; exact nI_add i 6) (by decide) rfl (fun ls hl => ?_)
        refine lv_goto (tgt := 18) hx hb dL_law_1440 (by decide) ?_
        exact ih (i + 6) (nI (i + 6)) hlt (by omega) rfl P0 P1 P2 P3 L3 P4 L4 P5 L5 P6 P7 P8 L8 P9 L9 P10 L10 P11 P20 L20 P21 L21 P22 P23 PR LR hR H locs hP hD hS ls (lv_sub hl [1, 2, 3, 0] rfl)
      refine lv_aload_n hx hb dL_law_27 rfl (lv_at hl 0 rfl) ?_
      refine lv_iload_n hx hb dL_law_28 rfl (lv_at hl 3 rfl) ?_
      refine va_sld hx hb hX hbl hbA hS h0 dL_law_29 ?_
      refine lv_bipush (v := 63) hx hb dL_law_30 (by decide) ?_
      refine lv_iand hx hb dL_law_32 ?_
      obtain ⟨j, hj, ej⟩ := pk_andE (xs x3.toNatClampNeg) (m := 63) 6 (by decide)
      rw [ej]
      by_cases j0 : j = 0
      · subst j0
        refine lv_tableIn (tgt := 180) hx hb dL_law_33 (by decide) (by decide) rfl (by decide) ?_
        obtain ⟨r, UP1, VPR, e1, e2, hR2⟩ := hs_unit P0 P1 P2 P3 L3 P4 L4 P5 L5 P6 P7 P8 L8 P9 L9 P10 L10 P11 P20 L20 P21 L21 P22 P23 PR LR hR (xs (x3 + (1 : Int32)).toNatClampNeg) (xs (x3 + (2 : Int32)).toNatClampNeg) (xs (x3 + (3 : Int32)).toNatClampNeg)
        exact lr_unit C0 hK hN H locs ls x3 P0 P1 P2 P3 L3 P4 L4 P5 L5 P6 P7 P8 L8 P9 L9 P10 L10 P11 P20 L20 P21 L21 P22 P23 PR LR h1 h2 h3 hP hD hS hl r UP1 VPR e1 e2 (nx P0 UP1 P2 P3 L3 P4 L4 P5 L5 P6 P7 P8 L8 P9 L9 P10 L10 P11 P20 L20 P21 L21 P22 P23 VPR LR hR2)
      by_cases j1 : j = 1
      · subst j1
        refine lv_tableIn (tgt := 223) hx hb dL_law_33 (by decide) (by decide) rfl (by decide) ?_
        obtain ⟨r, UP2, UP3, VPR, e1, e2, hR2⟩ := hs_table P0 P1 P2 P3 L3 P4 L4 P5 L5 P6 P7 P8 L8 P9 L9 P10 L10 P11 P20 L20 P21 L21 P22 P23 PR LR hR (xs (x3 + (1 : Int32)).toNatClampNeg) (xs (x3 + (2 : Int32)).toNatClampNeg) (xs (x3 + (3 : Int32)).toNatClampNeg) (xs (x3 + (4 : Int32)).toNatClampNeg) (xs (x3 + (5 : Int32)).toNatClampNeg)
        exact lr_table C0 hK hN H locs ls x3 P0 P1 P2 P3 L3 P4 L4 P5 L5 P6 P7 P8 L8 P9 L9 P10 L10 P11 P20 L20 P21 L21 P22 P23 PR LR h1 h2 h3 h4 h5 hP hD hS hl r UP2 UP3 VPR e1 e2 (nx P0 P1 UP2 UP3 L3 P4 L4 P5 L5 P6 P7 P8 L8 P9 L9 P10 L10 P11 P20 L20 P21 L21 P22 P23 VPR LR hR2)
      by_cases j2 : j = 2
      · subst j2
        refine lv_tableIn (tgt := 286) hx hb dL_law_33 (by decide) (by decide) rfl (by decide) ?_
        obtain ⟨r, e1, e2, hR2⟩ := hs_turn P0 P1 P2 P3 L3 P4 L4 P5 L5 P6 P7 P8 L8 P9 L9 P10 L10 P11 P20 L20 P21 L21 P22 P23 PR LR hR (xs (x3 + (1 : Int32)).toNatClampNeg) (xs (x3 + (2 : Int32)).toNatClampNeg) (xs (x3 + (3 : Int32)).toNatClampNeg)
        exact lr_turn C0 hK hN H locs ls x3 P0 P1 P2 P3 L3 P4 L4 P5 L5 P6 P7 P8 L8 P9 L9 P10 L10 P11 P20 L20 P21 L21 P22 P23 PR LR h1 h2 h3 hP hD hS hl r  e1 e2 (nx P0 P1 P2 P3 L3 P4 L4 P5 L5 P6 P7 P8 L8 P9 L9 P10 L10 P11 P20 L20 P21 L21 P22 P23 PR LR hR2)
      by_cases j3 : j = 3
      · subst j3
        refine lv_tableIn (tgt := 330) hx hb dL_law_33 (by decide) (by decide) rfl (by decide) ?_
        obtain ⟨r, e1, e2, hR2⟩ := hs_lost P0 P1 P2 P3 L3 P4 L4 P5 L5 P6 P7 P8 L8 P9 L9 P10 L10 P11 P20 L20 P21 L21 P22 P23 PR LR hR (xs (x3 + (1 : Int32)).toNatClampNeg) (xs (x3 + (2 : Int32)).toNatClampNeg) (xs (x3 + (3 : Int32)).toNatClampNeg)
        exact lr_lost C0 hK hN H locs ls x3 P0 P1 P2 P3 L3 P4 L4 P5 L5 P6 P7 P8 L8 P9 L9 P10 L10 P11 P20 L20 P21 L21 P22 P23 PR LR h1 h2 h3 hP hD hS hl r  e1 e2 (nx P0 P1 P2 P3 L3 P4 L4 P5 L5 P6 P7 P8 L8 P9 L9 P10 L10 P11 P20 L20 P21 L21 P22 P23 PR LR hR2)
      by_cases j4 : j = 4
      · subst j4
        refine lv_tableIn (tgt := 374) hx hb dL_law_33 (by decide) (by decide) rfl (by decide) ?_
        obtain ⟨r, UP3, UL3, VPR, VLR, e1, e2, hR2⟩ := hs_best P0 P1 P2 P3 L3 P4 L4 P5 L5 P6 P7 P8 L8 P9 L9 P10 L10 P11 P20 L20 P21 L21 P22 P23 PR LR hR (xs (x3 + (1 : Int32)).toNatClampNeg)
        exact lr_best C0 hK hN H locs ls x3 P0 P1 P2 P3 L3 P4 L4 P5 L5 P6 P7 P8 L8 P9 L9 P10 L10 P11 P20 L20 P21 L21 P22 P23 PR LR h1 hP hD hS hl r UP3 UL3 VPR VLR e1 e2 (nx P0 P1 P2 UP3 UL3 P4 L4 P5 L5 P6 P7 P8 L8 P9 L9 P10 L10 P11 P20 L20 P21 L21 P22 P23 VPR VLR hR2)
      by_cases j5 : j = 5
      · subst j5
        refine lv_tableIn (tgt := 398) hx hb dL_law_33 (by decide) (by decide) rfl (by decide) ?_
        obtain ⟨r, UP4, VPR, VLR, e1, e2, hR2⟩ := hs_chain P0 P1 P2 P3 L3 P4 L4 P5 L5 P6 P7 P8 L8 P9 L9 P10 L10 P11 P20 L20 P21 L21 P22 P23 PR LR hR (xs (x3 + (1 : Int32)).toNatClampNeg) (xs (x3 + (2 : Int32)).toNatClampNeg) (xs (x3 + (3 : Int32)).toNatClampNeg)
        exact lr_chain C0 hK hN H locs ls x3 P0 P1 P2 P3 L3 P4 L4 P5 L5 P6 P7 P8 L8 P9 L9 P10 L10 P11 P20 L20 P21 L21 P22 P23 PR LR h1 h2 h3 hP hD hS hl r UP4 VPR VLR e1 e2 (nx P0 P1 P2 P3 L3 UP4 L4 P5 L5 P6 P7 P8 L8 P9 L9 P10 L10 P11 P20 L20 P21 L21 P22 P23 VPR VLR hR2)
      by_cases j6 : j = 6
      · subst j6
        refine lv_tableIn (tgt := 441) hx hb dL_law_33 (by decide) (by decide) rfl (by decide) ?_
        obtain ⟨r, UL4, e1, e2, hR2⟩ := hs_earth P0 P1 P2 P3 L3 P4 L4 P5 L5 P6 P7 P8 L8 P9 L9 P10 L10 P11 P20 L20 P21 L21 P22 P23 PR LR hR (xs (x3 + (1 : Int32)).toNatClampNeg) (xs (x3 + (2 : Int32)).toNatClampNeg)
        exact lr_earth C0 hK hN H locs ls x3 P0 P1 P2 P3 L3 P4 L4 P5 L5 P6 P7 P8 L8 P9 L9 P10 L10 P11 P20 L20 P21 L21 P22 P23 PR LR h1 h2 hP hD hS hl r UL4 e1 e2 (nx P0 P1 P2 P3 L3 P4 UL4 P5 L5 P6 P7 P8 L8 P9 L9 P10 L10 P11 P20 L20 P21 L21 P22 P23 PR LR hR2)
      by_cases j7 : j = 7
      · subst j7
        refine lv_tableIn (tgt := 475) hx hb dL_law_33 (by decide) (by decide) rfl (by decide) ?_
        obtain ⟨r, UP5, VPR, e1, e2, hR2⟩ := hs_trial P0 P1 P2 P3 L3 P4 L4 P5 L5 P6 P7 P8 L8 P9 L9 P10 L10 P11 P20 L20 P21 L21 P22 P23 PR LR hR (xs (x3 + (1 : Int32)).toNatClampNeg) (xs (x3 + (2 : Int32)).toNatClampNeg) (xs (x3 + (3 : Int32)).toNatClampNeg) (xs (x3 + (4 : Int32)).toNatClampNeg) (xs (x3 + (5 : Int32)).toNatClampNeg)
        exact lr_trial C0 hK hN H locs ls x3 P0 P1 P2 P3 L3 P4 L4 P5 L5 P6 P7 P8 L8 P9 L9 P10 L10 P11 P20 L20 P21 L21 P22 P23 PR LR h1 h2 h3 h4 h5 hP hD hS hl r UP5 VPR e1 e2 (nx P0 P1 P2 P3 L3 P4 L4 UP5 L5 P6 P7 P8 L8 P9 L9 P10 L10 P11 P20 L20 P21 L21 P22 P23 VPR LR hR2)
      by_cases j8 : j = 8
      · subst j8
        refine lv_tableIn (tgt := 538) hx hb dL_law_33 (by decide) (by decide) rfl (by decide) ?_
        obtain ⟨r, UP5, UL5, VLR, e1, e2, hR2⟩ := hs_span P0 P1 P2 P3 L3 P4 L4 P5 L5 P6 P7 P8 L8 P9 L9 P10 L10 P11 P20 L20 P21 L21 P22 P23 PR LR hR (xs (x3 + (1 : Int32)).toNatClampNeg) (xs (x3 + (2 : Int32)).toNatClampNeg) (xs (x3 + (3 : Int32)).toNatClampNeg) (xs (x3 + (4 : Int32)).toNatClampNeg)
        exact lr_span C0 hK hN H locs ls x3 P0 P1 P2 P3 L3 P4 L4 P5 L5 P6 P7 P8 L8 P9 L9 P10 L10 P11 P20 L20 P21 L21 P22 P23 PR LR h1 h2 h3 h4 hP hD hS hl r UP5 UL5 VLR e1 e2 (nx P0 P1 P2 P3 L3 P4 L4 UP5 UL5 P6 P7 P8 L8 P9 L9 P10 L10 P11 P20 L20 P21 L21 P22 P23 PR VLR hR2)
      by_cases j9 : j = 9
      · subst j9
        refine lv_tableIn (tgt := 591) hx hb dL_law_33 (by decide) (by decide) rfl (by decide) ?_
        obtain ⟨r, UP6, VPR, e1, e2, hR2⟩ := hs_write P0 P1 P2 P3 L3 P4 L4 P5 L5 P6 P7 P8 L8 P9 L9 P10 L10 P11 P20 L20 P21 L21 P22 P23 PR LR hR (xs (x3 + (1 : Int32)).toNatClampNeg) (xs (x3 + (2 : Int32)).toNatClampNeg) (xs (x3 + (3 : Int32)).toNatClampNeg)
        exact lr_write C0 hK hN H locs ls x3 P0 P1 P2 P3 L3 P4 L4 P5 L5 P6 P7 P8 L8 P9 L9 P10 L10 P11 P20 L20 P21 L21 P22 P23 PR LR h1 h2 h3 hP hD hS hl r UP6 VPR e1 e2 (nx P0 P1 P2 P3 L3 P4 L4 P5 L5 UP6 P7 P8 L8 P9 L9 P10 L10 P11 P20 L20 P21 L21 P22 P23 VPR LR hR2)
      by_cases j10 : j = 10
      · subst j10
        refine lv_tableIn (tgt := 654) hx hb dL_law_33 (by decide) (by decide) rfl (by decide) ?_
        obtain ⟨r, UP6, VPR, e1, e2, hR2⟩ := hs_clear P0 P1 P2 P3 L3 P4 L4 P5 L5 P6 P7 P8 L8 P9 L9 P10 L10 P11 P20 L20 P21 L21 P22 P23 PR LR hR 
        exact lr_clear C0 hK hN H locs ls x3 P0 P1 P2 P3 L3 P4 L4 P5 L5 P6 P7 P8 L8 P9 L9 P10 L10 P11 P20 L20 P21 L21 P22 P23 PR LR  hP hD hS hl r UP6 VPR e1 e2 (nx P0 P1 P2 P3 L3 P4 L4 P5 L5 UP6 P7 P8 L8 P9 L9 P10 L10 P11 P20 L20 P21 L21 P22 P23 VPR LR hR2)
      by_cases j11 : j = 11
      · subst j11
        refine lv_tableIn (tgt := 667) hx hb dL_law_33 (by decide) (by decide) rfl (by decide) ?_
        obtain ⟨r, UP6, VPR, e1, e2, hR2⟩ := hs_fault P0 P1 P2 P3 L3 P4 L4 P5 L5 P6 P7 P8 L8 P9 L9 P10 L10 P11 P20 L20 P21 L21 P22 P23 PR LR hR 
        exact lr_fault C0 hK hN H locs ls x3 P0 P1 P2 P3 L3 P4 L4 P5 L5 P6 P7 P8 L8 P9 L9 P10 L10 P11 P20 L20 P21 L21 P22 P23 PR LR  hP hD hS hl r UP6 VPR e1 e2 (nx P0 P1 P2 P3 L3 P4 L4 P5 L5 UP6 P7 P8 L8 P9 L9 P10 L10 P11 P20 L20 P21 L21 P22 P23 VPR LR hR2)
      by_cases j12 : j = 12
      · subst j12
        refine lv_tableIn (tgt := 680) hx hb dL_law_33 (by decide) (by decide) rfl (by decide) ?_
        obtain ⟨r, UP6, UP7, VPR, e1, e2, hR2⟩ := hs_force P0 P1 P2 P3 L3 P4 L4 P5 L5 P6 P7 P8 L8 P9 L9 P10 L10 P11 P20 L20 P21 L21 P22 P23 PR LR hR 
        exact lr_force C0 hK hN H locs ls x3 P0 P1 P2 P3 L3 P4 L4 P5 L5 P6 P7 P8 L8 P9 L9 P10 L10 P11 P20 L20 P21 L21 P22 P23 PR LR  hP hD hS hl r UP6 UP7 VPR e1 e2 (nx P0 P1 P2 P3 L3 P4 L4 P5 L5 UP6 UP7 P8 L8 P9 L9 P10 L10 P11 P20 L20 P21 L21 P22 P23 VPR LR hR2)
      by_cases j13 : j = 13
      · subst j13
        refine lv_tableIn (tgt := 693) hx hb dL_law_33 (by decide) (by decide) rfl (by decide) ?_
        obtain ⟨r, e1, e2, hR2⟩ := hs_let P0 P1 P2 P3 L3 P4 L4 P5 L5 P6 P7 P8 L8 P9 L9 P10 L10 P11 P20 L20 P21 L21 P22 P23 PR LR hR (xs (x3 + (1 : Int32)).toNatClampNeg) (xs (x3 + (2 : Int32)).toNatClampNeg) (xs (x3 + (3 : Int32)).toNatClampNeg)
        exact lr_let C0 hK hN H locs ls x3 P0 P1 P2 P3 L3 P4 L4 P5 L5 P6 P7 P8 L8 P9 L9 P10 L10 P11 P20 L20 P21 L21 P22 P23 PR LR h1 h2 h3 hP hD hS hl r  e1 e2 (nx P0 P1 P2 P3 L3 P4 L4 P5 L5 P6 P7 P8 L8 P9 L9 P10 L10 P11 P20 L20 P21 L21 P22 P23 PR LR hR2)
      by_cases j14 : j = 14
      · subst j14
        refine lv_tableIn (tgt := 736) hx hb dL_law_33 (by decide) (by decide) rfl (by decide) ?_
        obtain ⟨r, e1, e2, hR2⟩ := hs_why P0 P1 P2 P3 L3 P4 L4 P5 L5 P6 P7 P8 L8 P9 L9 P10 L10 P11 P20 L20 P21 L21 P22 P23 PR LR hR (xs (x3 + (1 : Int32)).toNatClampNeg) (xs (x3 + (2 : Int32)).toNatClampNeg) (xs (x3 + (3 : Int32)).toNatClampNeg)
        exact lr_why C0 hK hN H locs ls x3 P0 P1 P2 P3 L3 P4 L4 P5 L5 P6 P7 P8 L8 P9 L9 P10 L10 P11 P20 L20 P21 L21 P22 P23 PR LR h1 h2 h3 hP hD hS hl r  e1 e2 (nx P0 P1 P2 P3 L3 P4 L4 P5 L5 P6 P7 P8 L8 P9 L9 P10 L10 P11 P20 L20 P21 L21 P22 P23 PR LR hR2)
      by_cases j15 : j = 15
      · subst j15
        refine lv_tableIn (tgt := 779) hx hb dL_law_33 (by decide) (by decide) rfl (by decide) ?_
        obtain ⟨r, UP7, e1, e2, hR2⟩ := hs_quarrels P0 P1 P2 P3 L3 P4 L4 P5 L5 P6 P7 P8 L8 P9 L9 P10 L10 P11 P20 L20 P21 L21 P22 P23 PR LR hR (xs (x3 + (1 : Int32)).toNatClampNeg) (xs (x3 + (2 : Int32)).toNatClampNeg) (xs (x3 + (3 : Int32)).toNatClampNeg)
        exact lr_quarrels C0 hK hN H locs ls x3 P0 P1 P2 P3 L3 P4 L4 P5 L5 P6 P7 P8 L8 P9 L9 P10 L10 P11 P20 L20 P21 L21 P22 P23 PR LR h1 h2 h3 hP hD hS hl r UP7 e1 e2 (nx P0 P1 P2 P3 L3 P4 L4 P5 L5 P6 UP7 P8 L8 P9 L9 P10 L10 P11 P20 L20 P21 L21 P22 P23 PR LR hR2)
      by_cases j16 : j = 16
      · subst j16
        refine lv_tableIn (tgt := 822) hx hb dL_law_33 (by decide) (by decide) rfl (by decide) ?_
        obtain ⟨r, e1, e2, hR2⟩ := hs_means P0 P1 P2 P3 L3 P4 L4 P5 L5 P6 P7 P8 L8 P9 L9 P10 L10 P11 P20 L20 P21 L21 P22 P23 PR LR hR (xs (x3 + (1 : Int32)).toNatClampNeg) (xs (x3 + (2 : Int32)).toNatClampNeg) (xs (x3 + (3 : Int32)).toNatClampNeg) (xs (x3 + (4 : Int32)).toNatClampNeg)
        exact lr_means C0 hK hN H locs ls x3 P0 P1 P2 P3 L3 P4 L4 P5 L5 P6 P7 P8 L8 P9 L9 P10 L10 P11 P20 L20 P21 L21 P22 P23 PR LR h1 h2 h3 h4 hP hD hS hl r  e1 e2 (nx P0 P1 P2 P3 L3 P4 L4 P5 L5 P6 P7 P8 L8 P9 L9 P10 L10 P11 P20 L20 P21 L21 P22 P23 PR LR hR2)
      by_cases j17 : j = 17
      · subst j17
        refine lv_tableIn (tgt := 875) hx hb dL_law_33 (by decide) (by decide) rfl (by decide) ?_
        obtain ⟨r, UP8, VPR, e1, e2, hR2⟩ := hs_paper P0 P1 P2 P3 L3 P4 L4 P5 L5 P6 P7 P8 L8 P9 L9 P10 L10 P11 P20 L20 P21 L21 P22 P23 PR LR hR (xs (x3 + (1 : Int32)).toNatClampNeg) (xs (x3 + (2 : Int32)).toNatClampNeg) (xs (x3 + (3 : Int32)).toNatClampNeg) (xs (x3 + (4 : Int32)).toNatClampNeg) (xs (x3 + (5 : Int32)).toNatClampNeg)
        exact lr_paper C0 hK hN H locs ls x3 P0 P1 P2 P3 L3 P4 L4 P5 L5 P6 P7 P8 L8 P9 L9 P10 L10 P11 P20 L20 P21 L21 P22 P23 PR LR h1 h2 h3 h4 h5 hP hD hS hl r UP8 VPR e1 e2 (nx P0 P1 P2 P3 L3 P4 L4 P5 L5 P6 P7 UP8 L8 P9 L9 P10 L10 P11 P20 L20 P21 L21 P22 P23 VPR LR hR2)
      by_cases j18 : j = 18
      · subst j18
        refine lv_tableIn (tgt := 938) hx hb dL_law_33 (by decide) (by decide) rfl (by decide) ?_
        obtain ⟨r, UP8, UL8, VLR, e1, e2, hR2⟩ := hs_owed P0 P1 P2 P3 L3 P4 L4 P5 L5 P6 P7 P8 L8 P9 L9 P10 L10 P11 P20 L20 P21 L21 P22 P23 PR LR hR (xs (x3 + (1 : Int32)).toNatClampNeg) (xs (x3 + (2 : Int32)).toNatClampNeg) (xs (x3 + (3 : Int32)).toNatClampNeg)
        exact lr_owed C0 hK hN H locs ls x3 P0 P1 P2 P3 L3 P4 L4 P5 L5 P6 P7 P8 L8 P9 L9 P10 L10 P11 P20 L20 P21 L21 P22 P23 PR LR h1 h2 h3 hP hD hS hl r UP8 UL8 VLR e1 e2 (nx P0 P1 P2 P3 L3 P4 L4 P5 L5 P6 P7 UP8 UL8 P9 L9 P10 L10 P11 P20 L20 P21 L21 P22 P23 PR VLR hR2)
      by_cases j19 : j = 19
      · subst j19
        refine lv_tableIn (tgt := 982) hx hb dL_law_33 (by decide) (by decide) rfl (by decide) ?_
        obtain ⟨r, UP8, UL8, VLR, e1, e2, hR2⟩ := hs_gained P0 P1 P2 P3 L3 P4 L4 P5 L5 P6 P7 P8 L8 P9 L9 P10 L10 P11 P20 L20 P21 L21 P22 P23 PR LR hR (xs (x3 + (1 : Int32)).toNatClampNeg) (xs (x3 + (2 : Int32)).toNatClampNeg)
        exact lr_gained C0 hK hN H locs ls x3 P0 P1 P2 P3 L3 P4 L4 P5 L5 P6 P7 P8 L8 P9 L9 P10 L10 P11 P20 L20 P21 L21 P22 P23 PR LR h1 h2 hP hD hS hl r UP8 UL8 VLR e1 e2 (nx P0 P1 P2 P3 L3 P4 L4 P5 L5 P6 P7 UP8 UL8 P9 L9 P10 L10 P11 P20 L20 P21 L21 P22 P23 PR VLR hR2)
      by_cases j20 : j = 20
      · subst j20
        refine lv_tableIn (tgt := 1016) hx hb dL_law_33 (by decide) (by decide) rfl (by decide) ?_
        obtain ⟨r, UP9, VPR, e1, e2, hR2⟩ := hs_rod P0 P1 P2 P3 L3 P4 L4 P5 L5 P6 P7 P8 L8 P9 L9 P10 L10 P11 P20 L20 P21 L21 P22 P23 PR LR hR (xs (x3 + (1 : Int32)).toNatClampNeg) (xs (x3 + (2 : Int32)).toNatClampNeg) (xs (x3 + (3 : Int32)).toNatClampNeg) (xs (x3 + (4 : Int32)).toNatClampNeg) (xs (x3 + (5 : Int32)).toNatClampNeg)
        exact lr_rod C0 hK hN H locs ls x3 P0 P1 P2 P3 L3 P4 L4 P5 L5 P6 P7 P8 L8 P9 L9 P10 L10 P11 P20 L20 P21 L21 P22 P23 PR LR h1 h2 h3 h4 h5 hP hD hS hl r UP9 VPR e1 e2 (nx P0 P1 P2 P3 L3 P4 L4 P5 L5 P6 P7 P8 L8 UP9 L9 P10 L10 P11 P20 L20 P21 L21 P22 P23 VPR LR hR2)
      by_cases j21 : j = 21
      · subst j21
        refine lv_tableIn (tgt := 1079) hx hb dL_law_33 (by decide) (by decide) rfl (by decide) ?_
        obtain ⟨r, UP0, VPR, e1, e2, hR2⟩ := hs_allowed P0 P1 P2 P3 L3 P4 L4 P5 L5 P6 P7 P8 L8 P9 L9 P10 L10 P11 P20 L20 P21 L21 P22 P23 PR LR hR (xs (x3 + (1 : Int32)).toNatClampNeg)
        exact lr_allowed C0 hK hN H locs ls x3 P0 P1 P2 P3 L3 P4 L4 P5 L5 P6 P7 P8 L8 P9 L9 P10 L10 P11 P20 L20 P21 L21 P22 P23 PR LR h1 hP hD hS hl r UP0 VPR e1 e2 (nx UP0 P1 P2 P3 L3 P4 L4 P5 L5 P6 P7 P8 L8 P9 L9 P10 L10 P11 P20 L20 P21 L21 P22 P23 VPR LR hR2)
      by_cases j22 : j = 22
      · subst j22
        refine lv_tableIn (tgt := 1102) hx hb dL_law_33 (by decide) (by decide) rfl (by decide) ?_
        obtain ⟨r, UP0, VPR, e1, e2, hR2⟩ := hs_plan P0 P1 P2 P3 L3 P4 L4 P5 L5 P6 P7 P8 L8 P9 L9 P10 L10 P11 P20 L20 P21 L21 P22 P23 PR LR hR (xs (x3 + (1 : Int32)).toNatClampNeg) (xs (x3 + (2 : Int32)).toNatClampNeg)
        exact lr_plan C0 hK hN H locs ls x3 P0 P1 P2 P3 L3 P4 L4 P5 L5 P6 P7 P8 L8 P9 L9 P10 L10 P11 P20 L20 P21 L21 P22 P23 PR LR h1 h2 hP hD hS hl r UP0 VPR e1 e2 (nx UP0 P1 P2 P3 L3 P4 L4 P5 L5 P6 P7 P8 L8 P9 L9 P10 L10 P11 P20 L20 P21 L21 P22 P23 VPR LR hR2)
      by_cases j23 : j = 23
      · subst j23
        refine lv_tableIn (tgt := 1135) hx hb dL_law_33 (by decide) (by decide) rfl (by decide) ?_
        obtain ⟨r, UP0, UP9, UL9, VPR, VLR, e1, e2, hR2⟩ := hs_weeks P0 P1 P2 P3 L3 P4 L4 P5 L5 P6 P7 P8 L8 P9 L9 P10 L10 P11 P20 L20 P21 L21 P22 P23 PR LR hR (xs (x3 + (1 : Int32)).toNatClampNeg)
        exact lr_weeks C0 hK hN H locs ls x3 P0 P1 P2 P3 L3 P4 L4 P5 L5 P6 P7 P8 L8 P9 L9 P10 L10 P11 P20 L20 P21 L21 P22 P23 PR LR h1 hP hD hS hl r UP0 UP9 UL9 VPR VLR e1 e2 (nx UP0 P1 P2 P3 L3 P4 L4 P5 L5 P6 P7 P8 L8 UP9 UL9 P10 L10 P11 P20 L20 P21 L21 P22 P23 VPR VLR hR2)
      by_cases j24 : j = 24
      · subst j24
        refine lv_tableIn (tgt := 1158) hx hb dL_law_33 (by decide) (by decide) rfl (by decide) ?_
        obtain ⟨r, e1, e2, hR2⟩ := hs_rodTold P0 P1 P2 P3 L3 P4 L4 P5 L5 P6 P7 P8 L8 P9 L9 P10 L10 P11 P20 L20 P21 L21 P22 P23 PR LR hR (xs (x3 + (1 : Int32)).toNatClampNeg) (xs (x3 + (2 : Int32)).toNatClampNeg)
        exact lr_rodTold C0 hK hN H locs ls x3 P0 P1 P2 P3 L3 P4 L4 P5 L5 P6 P7 P8 L8 P9 L9 P10 L10 P11 P20 L20 P21 L21 P22 P23 PR LR h1 h2 hP hD hS hl r  e1 e2 (nx P0 P1 P2 P3 L3 P4 L4 P5 L5 P6 P7 P8 L8 P9 L9 P10 L10 P11 P20 L20 P21 L21 P22 P23 PR LR hR2)
      by_cases j25 : j = 25
      · subst j25
        refine lv_tableIn (tgt := 1191) hx hb dL_law_33 (by decide) (by decide) rfl (by decide) ?_
        obtain ⟨r, e1, e2, hR2⟩ := hs_cheated P0 P1 P2 P3 L3 P4 L4 P5 L5 P6 P7 P8 L8 P9 L9 P10 L10 P11 P20 L20 P21 L21 P22 P23 PR LR hR (xs (x3 + (1 : Int32)).toNatClampNeg) (xs (x3 + (2 : Int32)).toNatClampNeg)
        exact lr_cheated C0 hK hN H locs ls x3 P0 P1 P2 P3 L3 P4 L4 P5 L5 P6 P7 P8 L8 P9 L9 P10 L10 P11 P20 L20 P21 L21 P22 P23 PR LR h1 h2 hP hD hS hl r  e1 e2 (nx P0 P1 P2 P3 L3 P4 L4 P5 L5 P6 P7 P8 L8 P9 L9 P10 L10 P11 P20 L20 P21 L21 P22 P23 PR LR hR2)
      by_cases j26 : j = 26
      · subst j26
        refine lv_tableIn (tgt := 1225) hx hb dL_law_33 (by decide) (by decide) rfl (by decide) ?_
        obtain ⟨r, UP10, UL10, VPR, e1, e2, hR2⟩ := hs_rounds P0 P1 P2 P3 L3 P4 L4 P5 L5 P6 P7 P8 L8 P9 L9 P10 L10 P11 P20 L20 P21 L21 P22 P23 PR LR hR (xs (x3 + (1 : Int32)).toNatClampNeg) (xs (x3 + (2 : Int32)).toNatClampNeg) (xs (x3 + (3 : Int32)).toNatClampNeg)
        exact lr_rounds C0 hK hN H locs ls x3 P0 P1 P2 P3 L3 P4 L4 P5 L5 P6 P7 P8 L8 P9 L9 P10 L10 P11 P20 L20 P21 L21 P22 P23 PR LR h1 h2 h3 hP hD hS hl r UP10 UL10 VPR e1 e2 (nx P0 P1 P2 P3 L3 P4 L4 P5 L5 P6 P7 P8 L8 P9 L9 UP10 UL10 P11 P20 L20 P21 L21 P22 P23 VPR LR hR2)
      by_cases j27 : j = 27
      · subst j27
        refine lv_tableIn (tgt := 1269) hx hb dL_law_33 (by decide) (by decide) rfl (by decide) ?_
        obtain ⟨r, UP11, VPR, e1, e2, hR2⟩ := hs_people P0 P1 P2 P3 L3 P4 L4 P5 L5 P6 P7 P8 L8 P9 L9 P10 L10 P11 P20 L20 P21 L21 P22 P23 PR LR hR (xs (x3 + (1 : Int32)).toNatClampNeg) (xs (x3 + (2 : Int32)).toNatClampNeg) (xs (x3 + (3 : Int32)).toNatClampNeg) (xs (x3 + (4 : Int32)).toNatClampNeg) (xs (x3 + (5 : Int32)).toNatClampNeg)
        exact lr_people C0 hK hN H locs ls x3 P0 P1 P2 P3 L3 P4 L4 P5 L5 P6 P7 P8 L8 P9 L9 P10 L10 P11 P20 L20 P21 L21 P22 P23 PR LR h1 h2 h3 h4 h5 hP hD hS hl r UP11 VPR e1 e2 (nx P0 P1 P2 P3 L3 P4 L4 P5 L5 P6 P7 P8 L8 P9 L9 P10 L10 UP11 P20 L20 P21 L21 P22 P23 VPR LR hR2)
      by_cases j28 : j = 28
      · subst j28
        refine lv_tableIn (tgt := 1332) hx hb dL_law_33 (by decide) (by decide) rfl (by decide) ?_
        obtain ⟨r, UP11, VPR, e1, e2, hR2⟩ := hs_seasons P0 P1 P2 P3 L3 P4 L4 P5 L5 P6 P7 P8 L8 P9 L9 P10 L10 P11 P20 L20 P21 L21 P22 P23 PR LR hR (xs (x3 + (1 : Int32)).toNatClampNeg)
        exact lr_seasons C0 hK hN H locs ls x3 P0 P1 P2 P3 L3 P4 L4 P5 L5 P6 P7 P8 L8 P9 L9 P10 L10 P11 P20 L20 P21 L21 P22 P23 PR LR h1 hP hD hS hl r UP11 VPR e1 e2 (nx P0 P1 P2 P3 L3 P4 L4 P5 L5 P6 P7 P8 L8 P9 L9 P10 L10 UP11 P20 L20 P21 L21 P22 P23 VPR LR hR2)
      by_cases j29 : j = 29
      · subst j29
        refine lv_tableIn (tgt := 1355) hx hb dL_law_33 (by decide) (by decide) rfl (by decide) ?_
        obtain ⟨r, VPR, e1, e2, hR2⟩ := hs_uses P0 P1 P2 P3 L3 P4 L4 P5 L5 P6 P7 P8 L8 P9 L9 P10 L10 P11 P20 L20 P21 L21 P22 P23 PR LR hR (xs (x3 + (1 : Int32)).toNatClampNeg) (xs (x3 + (2 : Int32)).toNatClampNeg)
        exact lr_uses C0 hK hN H locs ls x3 P0 P1 P2 P3 L3 P4 L4 P5 L5 P6 P7 P8 L8 P9 L9 P10 L10 P11 P20 L20 P21 L21 P22 P23 PR LR h1 h2 hP hD hS hl r VPR e1 e2 (nx P0 P1 P2 P3 L3 P4 L4 P5 L5 P6 P7 P8 L8 P9 L9 P10 L10 P11 P20 L20 P21 L21 P22 P23 VPR LR hR2)
      by_cases j30 : j = 30
      · subst j30
        refine lv_tableIn (tgt := 1388) hx hb dL_law_33 (by decide) (by decide) rfl (by decide) ?_
        obtain ⟨r, UP0, UP20, UL20, UP21, UL21, UP22, UP23, VPR, VLR, e1, e2, hR2⟩ := hs_keep P0 P1 P2 P3 L3 P4 L4 P5 L5 P6 P7 P8 L8 P9 L9 P10 L10 P11 P20 L20 P21 L21 P22 P23 PR LR hR 
        exact lr_keep C0 hK hN H locs ls x3 P0 P1 P2 P3 L3 P4 L4 P5 L5 P6 P7 P8 L8 P9 L9 P10 L10 P11 P20 L20 P21 L21 P22 P23 PR LR  hP hD hS hl r UP0 UP20 UL20 UP21 UL21 UP22 UP23 VPR VLR e1 e2 (nx UP0 P1 P2 P3 L3 P4 L4 P5 L5 P6 P7 P8 L8 P9 L9 P10 L10 P11 UP20 UL20 UP21 UL21 UP22 UP23 VPR VLR hR2)
      by_cases j31 : j = 31
      · subst j31
        refine lv_tableIn (tgt := 1401) hx hb dL_law_33 (by decide) (by decide) rfl (by decide) ?_
        obtain ⟨r, UP0, UP9, UL9, UP11, VPR, VLR, e1, e2, hR2⟩ := hs_back P0 P1 P2 P3 L3 P4 L4 P5 L5 P6 P7 P8 L8 P9 L9 P10 L10 P11 P20 L20 P21 L21 P22 P23 PR LR hR 
        exact lr_back C0 hK hN H locs ls x3 P0 P1 P2 P3 L3 P4 L4 P5 L5 P6 P7 P8 L8 P9 L9 P10 L10 P11 P20 L20 P21 L21 P22 P23 PR LR  hP hD hS hl r UP0 UP9 UL9 UP11 VPR VLR e1 e2 (nx UP0 P1 P2 P3 L3 P4 L4 P5 L5 P6 P7 P8 L8 UP9 UL9 P10 L10 UP11 P20 L20 P21 L21 P22 P23 VPR VLR hR2)
      by_cases j32 : j = 32
      · subst j32
        refine lv_tableIn (tgt := 1414) hx hb dL_law_33 (by decide) (by decide) rfl (by decide) ?_
        obtain ⟨r, e1, e2, hR2⟩ := hs_count P0 P1 P2 P3 L3 P4 L4 P5 L5 P6 P7 P8 L8 P9 L9 P10 L10 P11 P20 L20 P21 L21 P22 P23 PR LR hR (xs (x3 + (1 : Int32)).toNatClampNeg)
        exact lr_count C0 hK hN H locs ls x3 P0 P1 P2 P3 L3 P4 L4 P5 L5 P6 P7 P8 L8 P9 L9 P10 L10 P11 P20 L20 P21 L21 P22 P23 PR LR h1 hP hD hS hl r  e1 e2 (nx P0 P1 P2 P3 L3 P4 L4 P5 L5 P6 P7 P8 L8 P9 L9 P10 L10 P11 P20 L20 P21 L21 P22 P23 PR LR hR2)
      have e7 : (nI j).toInt = (j : Int) := nI_toInt (by omega)
      exact lv_tableOut (tgt := 1437) hx hb dL_law_33 (by rw [e7]; omega) (by decide) (nx P0 P1 P2 P3 L3 P4 L4 P5 L5 P6 P7 P8 L8 P9 L9 P10 L10 P11 P20 L20 P21 L21 P22 P23 PR LR hR H locs hP hD hS)
set_option maxHeartbeats 4000000 in
set_option maxRecDepth 100000 in
/-- the law from its entry, over a relation that holds of new objects and that every call keeps -/
theorem law_start {p : Program} {e : Env} {s : State} {m : MethodId} {below : List Frame} {meth : Method} {c : Code} (l : Launch) {sb L : Nat} {xs : Nat → Int32} (hL : L ≤ 3072) (C0 : lw_At p s m meth c sb L xs) (R : rl_T) (hR : sp_all R) (h0 : R iP_One iP_Units iP_Tables iP_Ways iL_Ways iP_Ground iL_Ground iP_Trials iL_Trials iP_Script iP_Decrees iP_Papers iL_Papers iP_Rods iL_Rods iP_Tours iL_Tours iP_Folk iP_Rods iL_Rods iP_Rods iL_Rods iP_Folk iP_Folk iP_Ref iL_Ref) : W p l e room_1 s m #[Value.ref sb] below meth c s.heap [] 0 0 (lw_Z below #[Value.ref sb] s) (entryFrame m ([Value.ref sb] : List Value).toArray 4) := by
  obtain ⟨hx, hb, hr, hml, hown, hts, hX, hbl, hlocks, hgv⟩ := id C0
  have hA : ∀ q : Nat, s.heap.size ≤ q → (fun q : Nat => s.heap.size ≤ q) q := fun _ h => h
  have hbA : ¬ (fun q : Nat => s.heap.size ≤ q) sb := Nat.not_le.mpr hbl
  have htl : ∀ w ∈ wsL_law, w.before #[Value.ref sb] s = true := fun w hw => hts w (wsL_law_in w hw)
  obtain ⟨c0, iS0, hKn0⟩ := u_known (C := RX0) (T := TX0) (N := 8) (n := 8) hts inX0 (htl (.instantiable RX0 8) (by decide +kernel))
  obtain ⟨c1, iS1, hKn1⟩ := u_known (C := RX1) (T := TX1) (N := 4) (n := 4) hts inX1 (htl (.instantiable RX1 4) (by decide +kernel))
  obtain ⟨c2, iS2, hKn2⟩ := u_known (C := RX2) (T := TX2) (N := 6) (n := 6) hts inX2 (htl (.instantiable RX2 6) (by decide +kernel))
  obtain ⟨c3, iS3, hKn3⟩ := u_known (C := RX3) (T := TX3) (N := 9) (n := 9) hts inX3 (htl (.instantiable RX3 9) (by decide +kernel))
  obtain ⟨c4, iS4, hKn4⟩ := u_known (C := RX4) (T := TX4) (N := 13) (n := 13) hts inX4 (htl (.instantiable RX4 13) (by decide +kernel))
  obtain ⟨c5, iS5, hKn5⟩ := u_known (C := RX5) (T := TX5) (N := 4) (n := 4) hts inX5 (htl (.instantiable RX5 4) (by decide +kernel))
  obtain ⟨c6, iS6, hKn6⟩ := u_known (C := RX6) (T := TX6) (N := 4) (n := 4) hts inX6 (htl (.instantiable RX6 4) (by decide +kernel))
  obtain ⟨c7, iS7, hKn7⟩ := u_known (C := RX7) (T := TX7) (N := 4) (n := 4) hts inX7 (htl (.instantiable RX7 4) (by decide +kernel))
  obtain ⟨c8, iS8, hKn8⟩ := u_known (C := RX8) (T := TX8) (N := 10) (n := 10) hts inX8 (htl (.instantiable RX8 10) (by decide +kernel))
  obtain ⟨c9, iS9, hKn9⟩ := u_known (C := RX9) (T := TX9) (N := 4) (n := 4) hts inX9 (htl (.instantiable RX9 4) (by decide +kernel))
  obtain ⟨c10, iS10, hKn10⟩ := u_known (C := RX10) (T := TX10) (N := 5) (n := 5) hts inX10 (htl (.instantiable RX10 5) (by decide +kernel))
  obtain ⟨c11, iS11, hKn11⟩ := u_known (C := RX11) (T := TX11) (N := 16) (n := 16) hts inX11 (htl (.instantiable RX11 16) (by decide +kernel))
  obtain ⟨c12, iS12, hKn12⟩ := u_known (C := RX12) (T := TX12) (N := 42) (n := 42) hts inX12 (htl (.instantiable RX12 42) (by decide +kernel))
  obtain ⟨cI, kI, pI, aI1, aI2, aI3⟩ := Cond.arrayClass_spec (htl (.arrayClass .int) (by decide +kernel))
  obtain ⟨cJ, kJ, pJ, aJ1, aJ2, aJ3⟩ := Cond.arrayClass_spec (htl (.arrayClass .long) (by decide +kernel))
  have hAR : (Cond.arrayOver (.object "OneMeasure$Rods")).before #[Value.ref sb] s = true := hts _ (by decide +kernel)
  have hAF : (Cond.arrayOver (.object "OneMeasure$Folk")).before #[Value.ref sb] s = true := hts _ (by decide +kernel)
  obtain ⟨pR, cR, kR, aR1, aR2, aR3, aR4, aR5⟩ := Cond.arrayOver_spec hAR
  obtain ⟨pF, cF, kF, aF1, aF2, aF3, aF4, aF5⟩ := Cond.arrayOver_spec hAF
  have hN : gw_N s := ⟨by
    have q : ∀ w ∈ gw_nest.map (fun q => Cond.methodLinkNest q.1 q.2.1 q.2.2.1 q.2.2.2), w ∈ lw_tbl := by decide +kernel
    exact fun x hx => va_Nw.of rfl (hts _ (q _ (List.mem_map_of_mem hx))), va_AO.of hAR, va_AO.of hAF⟩
  obtain ⟨D, hKc⟩ : ∃ D : va_G, ∀ (k : Nat) (q : vw_C), vwCl[k]? = some q → u_Kn s q.1 q.2.1 q.2.2 (D.1 k) (D.2 k) := by
    refine ⟨(fun k => ([c0, c1, c2, c3, c4, c5, c6, c7, c8, c9, c10, c11, c12] : List ClassId).getD k c0, fun k => ([iS0, iS1, iS2, iS3, iS4, iS5, iS6, iS7, iS8, iS9, iS10, iS11, iS12] : List (Nat → Nat)).getD k iS0), ?_⟩
    intro k q hq
    match k, hq with
    | 0, hq => cases hq; exact hKn0
    | 1, hq => cases hq; exact hKn1
    | 2, hq => cases hq; exact hKn2
    | 3, hq => cases hq; exact hKn3
    | 4, hq => cases hq; exact hKn4
    | 5, hq => cases hq; exact hKn5
    | 6, hq => cases hq; exact hKn6
    | 7, hq => cases hq; exact hKn7
    | 8, hq => cases hq; exact hKn8
    | 9, hq => cases hq; exact hKn9
    | 10, hq => cases hq; exact hKn10
    | 11, hq => cases hq; exact hKn11
    | 12, hq => cases hq; exact hKn12
    | k + 13, hq => simp [vwCl] at hq
  obtain ⟨k, hK⟩ : ∃ k : Nat → ClassId, va_K D vwCl (tyL k) s := by
    refine ⟨fun j => ([cI, cJ, cR, cF] : List ClassId).getD j cI, hKc, ?_⟩
    intro j q hq
    match j, hq with
    | 0, hq => cases hq; exact ⟨fun n z => ⟨fun k h => (by cases h), kI, aI2, pI, aI3⟩, aI1⟩
    | 1, hq => cases hq; exact ⟨fun n z => ⟨fun k h => (by cases h), kJ, aJ2, pJ, aJ3⟩, aJ1⟩
    | 2, hq => cases hq; exact ⟨fun n z => ⟨fun k h => (by cases h), kR, aR3, pR, aR4⟩, ⟨kR, pR, aR3, aR4, aR1, aR5⟩⟩
    | 3, hq => cases hq; exact ⟨fun n z => ⟨fun k h => (by cases h), kF, aF3, pF, aF4⟩, ⟨kF, pF, aF3, aF4, aF1, aF5⟩⟩
    | j + 4, hq => simp [tyL] at hq
  have hS : va_S (fun q : Nat => s.heap.size ≤ q) s.heap s.heap [] := va_S.rf
  have hP : va_P D vwCl [] s.heap := fun k q h => by simp at h
  have hD : va_D (fun q : Nat => s.heap.size ≤ q) [] := ⟨fun i j p q h => by simp at h, fun k q h => by simp at h⟩
  have hl := lv_entry ([.ref sb]) (n := 4) (Nat.le_of_ble_eq_true rfl)
  rw [lg_entry_eq]
  generalize (lg_sl ([.ref sb]) ++ List.replicate (4 - (lg_sl ([.ref sb])).length) Slot.unset).toArray = ls at hl ⊢
  have hl : lv_has ls 4 [(0, .ref sb)] := hl
  refine va_new (ci := 11) (fs := [.null, .null, .null, .null, .null, .null, .null, .null, .null, .null, .null, .null, .null, .null, .int 0, .int 0]) (C := RX11) (T := TX11) (N := 16) hx hb hts inX11 tyX11 tyX11_ok hown (htl (.classLink RL 7 RX11) (by decide +kernel)) (htl (.instantiable RX11 16) (by decide +kernel)) (htl (.initialized RX11) (by decide +kernel)) hK hP hD hS hA rfl (fun j hj => by rcases (show j = 0 ∨ j = 1 ∨ j = 2 ∨ j = 3 ∨ j = 4 ∨ j = 5 ∨ j = 6 ∨ j = 7 ∨ j = 8 ∨ j = 9 ∨ j = 10 ∨ j = 11 ∨ j = 12 ∨ j = 13 ∨ j = 14 ∨ j = 15 by omega) with rfl | rfl | rfl | rfl | rfl | rfl | rfl | rfl | rfl | rfl | rfl | rfl | rfl | rfl | rfl | rfl <;> rfl) (Nat.le_of_ble_eq_true rfl) (Nat.le_of_ble_eq_true rfl) dL_law_0 (fun qx H hP hD hS => ?_)
  have hP : va_P D vwCl [(qx, .inr (11, [.null, .null, .null, .null, .null, .null, .null, .null, .null, .null, .null, .null, .null, .null, .int 0, .int 0]))] H := hP
  have hD : va_D (fun q : Nat => s.heap.size ≤ q) [(qx, .inr (11, [.null, .null, .null, .null, .null, .null, .null, .null, .null, .null, .null, .null, .null, .null, .int 0, .int 0]))] := hD
  refine W.widen (k := 1) (n := 16) (by decide) (by decide) ?_
  refine lv_dup hx hb dL_law_3 rfl ?_
  refine gc_c2 (wf := fun a => wR_One k a) (wr := []) (va_runI (As := []) (rest := [.ref qx]) ⟨hx, hb, hml, hown, hts⟩ (c_One_init l D k H.size qx) (cwI 0 hts (lw_good gL_law_X11_init) rfl rfl rfl (htl (.initialized RX11) (by decide +kernel)) (htl (.methodLink RL 9 yX11_init) (by decide +kernel)) (htl (.instanceMethod yX11_init) (by decide +kernel)) rfl (by decide +kernel) ⟨Nat.le_of_ble_eq_true rfl, Nat.le_of_ble_eq_true rfl⟩) (gp_S hP hD hK hN [0] (by decide +kernel) rfl) rfl rfl hl.1 rfl (lv_room (Nat.le_of_ble_eq_true rfl)) dL_law_4 ⟨Nat.le_of_ble_eq_true rfl, Nat.le_of_ble_eq_true rfl⟩) hP hD hS hA [0] [] rfl rfl (by decide +kernel) (by decide +kernel) (fun a H9 locs9 ha hP9 hD9 hS9 => ?_)
  subst ha
  clear hP hD hS
  revert H9 locs9
  intro H locs hP hS
  have hD := hD9
  clear hD9
  refine W.widen (k := 95) (n := 2152) (by decide) (by decide) ?_
  have hP : va_P D vwCl (wR_One k a) H := hP
  have hD : va_D (fun q : Nat => s.heap.size ≤ q) (wR_One k a) := hD
  refine lv_astore_n (lv' := [(1, .ref (a 0 0)), (0, .ref sb)]) hx hb dL_law_7 rfl hl (by decide) rfl (fun ls hl => ?_)
  refine va_new (ci := 12) (fs := [.int 0, .null, .null, .null, .null, .int 0, .null, .null, .null, .int 0, .null, .int 0, .null, .null, .null, .int 0, .null, .null, .null, .null, .null, .null, .null, .int 0, .int 0, .null, .null, .null, .int 0, .long 0, .long 0, .long 0, .int 0, .null, .long 0, .long 0, .int 0, .null, .null, .null, .int 0, .int 0]) (C := RX12) (T := TX12) (N := 42) hx hb hts inX12 tyX12 tyX12_ok hown (htl (.classLink RL 10 RX12) (by decide +kernel)) (htl (.instantiable RX12 42) (by decide +kernel)) (htl (.initialized RX12) (by decide +kernel)) hK hP hD hS hA rfl (fun j hj => by rcases (show j = 0 ∨ j = 1 ∨ j = 2 ∨ j = 3 ∨ j = 4 ∨ j = 5 ∨ j = 6 ∨ j = 7 ∨ j = 8 ∨ j = 9 ∨ j = 10 ∨ j = 11 ∨ j = 12 ∨ j = 13 ∨ j = 14 ∨ j = 15 ∨ j = 16 ∨ j = 17 ∨ j = 18 ∨ j = 19 ∨ j = 20 ∨ j = 21 ∨ j = 22 ∨ j = 23 ∨ j = 24 ∨ j = 25 ∨ j = 26 ∨ j = 27 ∨ j = 28 ∨ j = 29 ∨ j = 30 ∨ j = 31 ∨ j = 32 ∨ j = 33 ∨ j = 34 ∨ j = 35 ∨ j = 36 ∨ j = 37 ∨ j = 38 ∨ j = 39 ∨ j = 40 ∨ j = 41 by omega) with rfl | rfl | rfl | rfl | rfl | rfl | rfl | rfl | rfl | rfl | rfl | rfl | rfl | rfl | rfl | rfl | rfl | rfl | rfl | rfl | rfl | rfl | rfl | rfl | rfl | rfl | rfl | rfl | rfl | rfl | rfl | rfl | rfl | rfl | rfl | rfl | rfl | rfl | rfl | rfl | rfl | rfl <;> rfl) (Nat.le_of_ble_eq_true rfl) (Nat.le_of_ble_eq_true rfl) dL_law_8 (fun qm H hP hD hS => ?_)
  have hP : va_P D vwCl (wR_One k a ++ [(qm, .inr (12, [.int 0, .null, .null, .null, .null, .int 0, .null, .null, .null, .int 0, .null, .int 0, .null, .null, .null, .int 0, .null, .null, .null, .null, .null, .null, .null, .int 0, .int 0, .null, .null, .null, .int 0, .long 0, .long 0, .long 0, .int 0, .null, .long 0, .long 0, .int 0, .null, .null, .null, .int 0, .int 0]))]) H := hP
  have hD : va_D (fun q : Nat => s.heap.size ≤ q) (wR_One k a ++ [(qm, .inr (12, [.int 0, .null, .null, .null, .null, .int 0, .null, .null, .null, .int 0, .null, .int 0, .null, .null, .null, .int 0, .null, .null, .null, .null, .null, .null, .null, .int 0, .int 0, .null, .null, .null, .int 0, .long 0, .long 0, .long 0, .int 0, .null, .long 0, .long 0, .int 0, .null, .null, .null, .int 0, .int 0]))]) := hD
  refine W.widen (k := 96) (n := 2194) (by decide) (by decide) ?_
  refine lv_dup hx hb dL_law_11 rfl ?_
  refine gc_c (wf := fun b => wC_Ref k b iP_Ref iL_Ref) (wr := wR_One k a) (va_runI (As := []) (rest := [.ref qm]) ⟨hx, hb, hml, hown, hts⟩ (c_Ref_init l D k H.size qm) (cwI 0 hts (lw_good gL_law_X12_init) rfl rfl rfl (htl (.initialized RX12) (by decide +kernel)) (htl (.methodLink RL 12 yX12_init) (by decide +kernel)) (htl (.instanceMethod yX12_init) (by decide +kernel)) rfl (by decide +kernel) ⟨Nat.le_of_ble_eq_true rfl, Nat.le_of_ble_eq_true rfl⟩) (gp_S hP hD hK hN [95] (by decide +kernel) rfl) rfl rfl hl.1 rfl (lv_room (Nat.le_of_ble_eq_true rfl)) dL_law_12 ⟨Nat.le_of_ble_eq_true rfl, Nat.le_of_ble_eq_true rfl⟩) hP hD hS hA [95] [0, 1, 2, 3, 4, 5, 6, 7, 8, 9, 10, 11, 12, 13, 14, 15, 16, 17, 18, 19, 20, 21, 22, 23, 24, 25, 26, 27, 28, 29, 30, 31, 32, 33, 34, 35, 36, 37, 38, 39, 40, 41, 42, 43, 44, 45, 46, 47, 48, 49, 50, 51, 52, 53, 54, 55, 56, 57, 58, 59, 60, 61, 62, 63, 64, 65, 66, 67, 68, 69, 70, 71, 72, 73, 74, 75, 76, 77, 78, 79, 80, 81, 82, 83, 84, 85, 86, 87, 88, 89, 90, 91, 92, 93, 94] rfl rfl (by decide +kernel) (by decide +kernel) (fun b H9 locs9 hb0 hP9 hD9 hS9 => ?_)
  subst hb0
  clear hP hD hS
  revert H9 locs9
  intro H locs hP hS
  have hD := hD9
  clear hD9
  refine W.widen (k := 121) (n := 4602) (by decide) (by decide) ?_
  refine lv_astore_n (lv' := [(2, .ref (b 0)), (1, .ref (a 0 0)), (0, .ref sb)]) hx hb dL_law_15 rfl hl (by decide) rfl (fun ls hl => ?_)
  refine lv_iconst (v := 0) hx hb dL_law_16 (by decide) ?_
  refine lv_istore_n (lv' := [(3, .int 0), (2, .ref (b 0)), (1, .ref (a 0 0)), (0, .ref sb)]) hx hb dL_law_17 rfl hl (by decide) rfl (fun ls hl => ?_)
  exact law_loop hL C0 hK hN R hR (L + 1) 0 0 (Nat.zero_le L) (by omega) nI_0.symm iP_One iP_Units iP_Tables iP_Ways iL_Ways iP_Ground iL_Ground iP_Trials iL_Trials iP_Script iP_Decrees iP_Papers iL_Papers iP_Rods iL_Rods iP_Tours iL_Tours iP_Folk iP_Rods iL_Rods iP_Rods iL_Rods iP_Folk iP_Folk iP_Ref iL_Ref h0 H locs (hP.sub [0, 1, 2, 3, 4, 5, 6, 7, 8, 9, 10, 11, 12, 13, 14, 15, 16, 17, 18, 19, 20, 21, 22, 23, 24, 25, 26, 27, 28, 29, 30, 31, 32, 33, 34, 35, 36, 37, 38, 39, 40, 41, 42, 43, 44, 45, 46, 47, 48, 49, 50, 51, 52, 53, 54, 55, 56, 57, 58, 59, 60, 61, 62, 63, 64, 65, 66, 67, 68, 69, 70, 71, 72, 73, 74, 75, 76, 77, 78, 79, 80, 81, 82, 83, 84, 85, 86, 87, 88, 89, 90, 91, 92, 93, 94, 95, 96, 97, 98, 99, 100, 101, 102, 103, 104, 105, 106, 107, 108, 109, 110, 111, 112, 113, 114, 115, 116, 117, 118, 119, 120] rfl) (hD.sub [0, 1, 2, 3, 4, 5, 6, 7, 8, 9, 10, 11, 12, 13, 14, 15, 16, 17, 18, 19, 20, 21, 22, 23, 24, 25, 26, 27, 28, 29, 30, 31, 32, 33, 34, 35, 36, 37, 38, 39, 40, 41, 42, 43, 44, 45, 46, 47, 48, 49, 50, 51, 52, 53, 54, 55, 56, 57, 58, 59, 60, 61, 62, 63, 64, 65, 66, 67, 68, 69, 70, 71, 72, 73, 74, 75, 76, 77, 78, 79, 80, 81, 82, 83, 84, 85, 86, 87, 88, 89, 90, 91, 92, 93, 94, 95, 96, 97, 98, 99, 100, 101, 102, 103, 104, 105, 106, 107, 108, 109, 110, 111, 112, 113, 114, 115, 116, 117, 118, 119, 120] (by decide +kernel) rfl) hS ls (lv_sub hl [3, 2, 1, 0] rfl)
