def wkRel (n c w : Nat) (P9 PR : PI) (L9 LR : PL) : Prop := c ≤ 12 ∧ w ≤ 100 ∧ P9 0 0 = nI c ∧ P9 0 1 = nI w ∧ PR 18 0 = nI c ∧ PR 20 0 = nI w ∧ (∀ j, j < c → rdOk n w P9 PR j (8 * j)) ∧ ∀ d, d < 6 → L9 12 d = LR 21 d ∧ L9 13 d = LR 22 d
theorem wkRel_iff {n : Nat} {P9 PR : PI} {L9 LR : PL} : rRods 0 n P9 PR L9 LR ↔ ∃ c w, wkRel n c w P9 PR L9 LR := by
  unfold rRods wkRel
  simp only [Nat.mul_zero, Nat.zero_add]
/-- what a call leaves of the rods' rows of the reference that are kept -/
def frR (PR V : PI) (LR LV : PL) : Prop := (∀ j, 96 ≤ j → V 19 j = PR 19 j) ∧ (∀ j, 1 ≤ j → V 20 j = PR 20 j) ∧ ∀ j, 6 ≤ j → LV 21 j = LR 21 j ∧ LV 22 j = LR 22 j
theorem frR_tr {A B C : PI} {LA LB LC : PL} (h1 : frR A B LA LB) (h2 : frR B C LB LC) : frR A C LA LC := ⟨fun j hj => (h2.1 j hj).trans (h1.1 j hj), fun j hj => (h2.2.1 j hj).trans (h1.2.1 j hj), fun j hj => ⟨(h2.2.2 j hj).1.trans (h1.2.2 j hj).1, (h2.2.2 j hj).2.trans (h1.2.2 j hj).2⟩⟩
set_option maxHeartbeats 1000000 in
theorem week_c {n cc c w : Nat} {P1 P7 P9 PR : PI} {L9 LR : PL} (hu : rUnits n P1 PR) (hd : rDecN cc P7 PR) (h : wkRel n c w P9 PR L9 LR) (hw : w ≤ 99) (vis : Int32) : ∃ (U : PI) (LU : PL) (V : PI) (LV : PL), f_Rods_passWeek P9 L9 P1 P7 (PR 0 24) vis = some (U, LU) ∧ f_Ref_goWeek PR LR vis = some (V, LV) ∧ wkRel n c (w + 1) U V LU LV ∧ eqx [19, 20] [] PR V ∧ eqL [21, 22] [] LR LV ∧ frR PR V LR LV := by
  obtain ⟨h1, h2, h3, h4, h5, h6, h7, h8⟩ := h
  obtain ⟨U, LU, V, LV, g1, g2, g3, g4, g5, g6, g7, g8, g9, g10⟩ := wk_l (P1 := P1) (P7 := P7) h1 h2 vis (PR 0 24) (fun (P0_2 : PI) (L0_3 : PL) => mb_let (mb_uo P0_2 1 ((P0_2 0 1) + (1 : Int32))) (fun (P0_6 : PI) => some (P0_6, L0_3))) (fun (P0_2 : PI) (L0_3 : PL) => mb_chk (0 : Int32) 3 (mb_chk (0 : Int32) 3 (mb_let (mb_u2 P0_2 20 (0 : Int32).toNatClampNeg ((P0_2 20 (0 : Int32).toNatClampNeg) + (1 : Int32))) (fun (P0_7 : PI) => some (P0_7, L0_3))))) c 0 mb_fu mb_fu P9 L9 PR LR (by omega) (fu_lt (by omega)) (fu_lt (by omega)) hu hd rfl h3 h4 h5 h6 (fun j hj => absurd hj (Nat.not_lt_zero j)) (fun j _ hj => h7 j hj) h8
  rw [Nat.mul_zero] at g2
  rw [nI_0] at g1 g2
  have v20 : V 20 0 = nI w := by rw [g5.1 20 (by decide) (by decide)]; exact h6
  refine ⟨mb_uo U 1 (nI (w + 1)), LU, mb_u2 V 20 0 (nI (w + 1)), LV, ?_, ?_, ⟨h1, by omega, ?_, ?_, ?_, ?_, fun j hj => ?_, g8⟩, eqx_u2 (eqx_mono g5 (by decide) (fun _ h => h)) (by decide) (by decide) _ _, g6, ⟨fun j hj => ?_, fun j hj => ?_, g10⟩⟩
  · unfold f_Rods_passWeek
    rw [letsN, jnsN, g1, letsN, g4, nI_1]
  · unfold f_Ref_goWeek
    rw [letsN, jnsN, g2, zero3, zero3, letsN, cl0, v20, nI_1]
  · rw [uo_ap, if_neg (by decide)]; exact g3
  · rw [uo_ap, if_pos ⟨rfl, rfl⟩]
  · rw [u2_ap, if_neg (by decide), g5.1 18 (by decide) (by decide)]; exact h5
  · rw [u2_ap, if_pos ⟨rfl, rfl⟩]
  · exact rdOk_o (g7 j hj) (fun q h3 _ => by rw [uo_ap, if_neg (fun z => by omega)]) (fun m _ => by rw [u2_ap, if_neg (fun z => absurd z.1 (by decide))])
  · rw [u2_ap, if_neg (fun z => absurd z.1 (by decide))]; exact g9 j hj
  · rw [u2_ap, if_neg (fun z => by omega), g5.1 20 (by decide) (by decide)]
theorem mp_l (K : PI → Option PI) : ∀ (r i n : Nat) (P : PI), i + r = 9 → r < n → ∃ U : PI, f_One_movePlanOn_2 K n (nI i) P = K U ∧ (∀ q, q ≠ 12 → U q = P q) ∧ (∀ j, i ≤ j → j < 9 → U 12 j = P 12 (j + 1)) ∧ ∀ j, (j < i ∨ 9 ≤ j) → U 12 j = P 12 j := by
  intro r
  induction r with
  | zero =>
    intro i n P e hn
    obtain ⟨n, rfl⟩ : ∃ m, n = m + 1 := ⟨n - 1, by omega⟩
    have ei : i = 9 := by omega
    subst ei
    refine ⟨P, ?_, fun _ _ => rfl, fun j h1 h2 => absurd h2 (by omega), fun _ _ => rfl⟩
    show f_One_movePlanOn_2_b _ _ _ _ = _
    unfold f_One_movePlanOn_2_b
    rw [if_pos (by decide)]
  | succ r ih =>
    intro i n P e hn
    obtain ⟨n, rfl⟩ : ∃ m, n = m + 1 := ⟨n - 1, by omega⟩
    obtain ⟨U, a1, a2, a3, a4⟩ := ih (i + 1) n (mb_u2 P 12 i (P 12 (i + 1))) (by omega) (by omega)
    refine ⟨U, ?_, fun q hq => by rw [a2 q hq, u2_ne _ _ _ hq], fun j h1 h2 => ?_, fun j hj => ?_⟩
    · show f_One_movePlanOn_2_b _ (f_One_movePlanOn_2 K n) _ _ = _
      unfold f_One_movePlanOn_2_b
      rw [nI_1, if_neg (nge (y := 10) (b := 10) (by omega) (by decide) rfl), chkN (by omega) (by decide), chkN (by omega) (by decide), nI_clamp (by omega), nI_clamp (by omega), letsN, letsN, a1]
    · by_cases ej : j = i
      · subst ej
        rw [a4 j (by omega), u2_ap, if_pos ⟨rfl, rfl⟩]
      · rw [a3 j (by omega) h2, u2_ap, if_neg (by omega)]
    · rw [a4 j (by omega), u2_ap, if_neg (by omega)]
theorem mpR_l (K : PI → Option (Int32 × PI × PL)) : ∀ (r i n : Nat) (P : PI), i + r = 9 → r < n → ∃ U : PI, f_Ref_weeks_49 K n (nI (i + 1)) P = K U ∧ eqx [26] [] P U ∧ (∀ j, i ≤ j → j < 9 → U 26 j = P 26 (j + 1)) ∧ ∀ j, (j < i ∨ 9 ≤ j) → U 26 j = P 26 j := by
  intro r
  induction r with
  | zero =>
    intro i n P e hn
    obtain ⟨n, rfl⟩ : ∃ m, n = m + 1 := ⟨n - 1, by omega⟩
    have ei : i = 9 := by omega
    subst ei
    refine ⟨P, ?_, eqx_rf _ _ _, fun j h1 h2 => absurd h2 (by omega), fun _ _ => rfl⟩
    show f_Ref_weeks_49_b _ _ _ _ = _
    unfold f_Ref_weeks_49_b
    rw [if_pos (by decide)]
  | succ r ih =>
    intro i n P e hn
    obtain ⟨n, rfl⟩ : ∃ m, n = m + 1 := ⟨n - 1, by omega⟩
    obtain ⟨U, a1, a2, a3, a4⟩ := ih (i + 1) n (mb_u2 P 26 i (P 26 (i + 1))) (by omega) (by omega)
    refine ⟨U, ?_, eqx_tr (eqx_u2 (eqx_rf _ _ _) (by decide) (by decide) _ _) a2, fun j h1 h2 => ?_, fun j hj => ?_⟩
    · show f_Ref_weeks_49_b _ (f_Ref_weeks_49 K n) _ _ = _
      unfold f_Ref_weeks_49_b
      rw [if_neg (nge (y := 10) (b := 10) (by omega) (by decide) rfl), nI_pred, chkN (by omega) (by decide), chkN (by omega) (by decide), nI_clamp (by omega), nI_clamp (by omega), letsN, letsN, nI_1, a1]
    · by_cases ej : j = i
      · subst ej
        rw [a4 j (by omega), u2_ap, if_pos ⟨rfl, rfl⟩]
      · rw [a3 j (by omega) h2, u2_ap, if_neg (by omega)]
    · rw [a4 j (by omega), u2_ap, if_neg (by omega)]
theorem cl9 : (9 : Int32).toNatClampNeg = 9 := by decide
theorem nine10 {α : Type} (x : Option α) : mb_chk (9 : Int32) 10 x = x := chkN (k := 9) (by decide) (by decide) x
theorem zero10 {α : Type} (x : Option α) : mb_chk (0 : Int32) 10 x = x := chkN (k := 0) (by decide) (by decide) x
set_option maxHeartbeats 2000000 in
theorem ws_l {n cc c m : Nat} {P1 P7 : PI} (hm : m ≤ 20) (K : PI → PL → Option (Int32 × PI × PL)) (hK : K = fun (P0_4 : PI) (L0_5 : PL) => mb_chk (0 : Int32) 3 (some ((P0_4 20 (0 : Int32).toNatClampNeg), P0_4, L0_5))) : ∀ (r t w f1 f2 : Nat) (P0 P9 PR : PI) (L9 LR : PL), t + r = m → r < f1 → r < f2 → w + r ≤ 100 → rUnits n P1 PR → rDecN cc P7 PR → rOwn P0 PR → wkRel n c w P9 PR L9 LR → ∃ (U0 U9 : PI) (M9 : PL) (V : PI) (LV : PL), f_One_weeks_31 P1 P7 (nI m) f1 (nI t) P0 P9 L9 = some (nI (w + r), U0, U9, M9) ∧ f_Ref_weeks_32 (nI m) K f2 (nI t) PR LR = some (nI (w + r), V, LV) ∧ rOwn U0 V ∧ wkRel n c (w + r) U9 V M9 LV ∧ eqx [19, 20, 26] [] PR V ∧ eqL [21, 22] [] LR LV ∧ frR PR V LR LV := by
  intro r
  induction r with
  | zero =>
    intro t w f1 f2 P0 P9 PR L9 LR e hf1 hf2 hw hu hd h0 h
    obtain ⟨f1, rfl⟩ : ∃ m, f1 = m + 1 := ⟨f1 - 1, by omega⟩
    obtain ⟨f2, rfl⟩ : ∃ m, f2 = m + 1 := ⟨f2 - 1, by omega⟩
    refine ⟨P0, P9, L9, PR, LR, ?_, ?_, h0, h, eqx_rf _ _ _, eqL_rf _ _ _, ⟨fun _ _ => rfl, fun _ _ => rfl, fun _ _ => ⟨rfl, rfl⟩⟩⟩
    · show f_One_weeks_31_b _ _ _ _ _ _ _ _ = _
      unfold f_One_weeks_31_b
      rw [if_pos (nI_le (by omega) (by omega)), h.2.2.2.1]
      rfl
    · show f_Ref_weeks_32_b _ _ _ _ _ _ = _
      unfold f_Ref_weeks_32_b
      rw [if_pos (nI_le (by omega) (by omega)), hK]
      show mb_chk (0 : Int32) 3 _ = _
      rw [zero3, cl0, h.2.2.2.2.2.1]
      rfl
  | succ r ih =>
    intro t w f1 f2 P0 P9 PR L9 LR e hf1 hf2 hw hu hd h0 h
    obtain ⟨f1, rfl⟩ : ∃ m, f1 = m + 1 := ⟨f1 - 1, by omega⟩
    obtain ⟨f2, rfl⟩ : ∃ m, f2 = m + 1 := ⟨f2 - 1, by omega⟩
    obtain ⟨o1, o2, o3, o4, o5⟩ := id h0
    obtain ⟨U, LU, V, LV, g1, g2, g3, g4, g5, g6⟩ := week_c hu hd h (by omega) (PR 26 0)
    obtain ⟨A, a1, a2, a3, a4⟩ := mp_l (fun (P0_2 : PI) => mb_chk (9 : Int32) 10 (mb_let (mb_u2 P0_2 12 (9 : Int32).toNatClampNeg (0 : Int32)) (fun (P0_5 : PI) => some P0_5))) 9 0 mb_fu P0 (by omega) (fu_lt (by omega))
    obtain ⟨B, b1, b2, b3, b4⟩ := mpR_l (fun (P0_19 : PI) => mb_chk (9 : Int32) 10 (mb_let (mb_u2 P0_19 26 (9 : Int32).toNatClampNeg (0 : Int32)) (fun (P0_22 : PI) => mb_let (nI t + (1 : Int32)) (fun (x2_24 : Int32) => f_Ref_weeks_32 (nI m) K f2 x2_24 P0_22 LV)))) 9 0 mb_fu V (by omega) (fu_lt (by omega))
    have hB : eqx [19, 20, 26] [] PR (mb_u2 B 26 9 0) := eqx_u2 (eqx_tr (eqx_mono g4 (by decide) (fun _ h => h)) (eqx_mono b2 (by decide) (fun _ h => h))) (by decide) (by decide) _ _
    have B19 : (mb_u2 B 26 9 0) 19 = V 19 := by rw [u2_ne _ _ _ (by decide), b2.1 19 (by decide) (by decide)]
    have B20 : (mb_u2 B 26 9 0) 20 = V 20 := by rw [u2_ne _ _ _ (by decide), b2.1 20 (by decide) (by decide)]
    have B18 : (mb_u2 B 26 9 0) 18 = V 18 := by rw [u2_ne _ _ _ (by decide), b2.1 18 (by decide) (by decide)]
    have hu' : rUnits n P1 (mb_u2 B 26 9 0) := by
      obtain ⟨y1, y2, y3, y4, y5⟩ := hu
      refine ⟨y1, y2, (hB.2 0 (by decide)).trans y3, ?_, ?_⟩
      · rw [hB.1 2 (by decide) (by decide), hB.1 3 (by decide) (by decide), hB.1 4 (by decide) (by decide)]; exact y4
      · rw [hB.1 2 (by decide) (by decide), hB.1 3 (by decide) (by decide), hB.1 4 (by decide) (by decide)]; exact y5
    have hd' : rDecN cc P7 (mb_u2 B 26 9 0) := by
      obtain ⟨y1, y2, y3, y4⟩ := hd
      refine ⟨y1, y2, ?_, ?_⟩
      · rw [hB.1 14 (by decide) (by decide)]; exact y3
      · rw [hB.1 15 (by decide) (by decide)]; exact y4
    have h0' : rOwn (mb_u2 A 12 9 0) (mb_u2 B 26 9 0) := by
      have v26 : V 26 = PR 26 := g4.1 26 (by decide) (by decide)
      refine ⟨fun j hj => ?_, ?_, ?_, ?_, ?_⟩
      · rw [u2_ap, u2_ap]
        by_cases ej : j = 9
        · rw [if_pos ⟨rfl, ej⟩, if_pos ⟨rfl, ej⟩]
        · rw [if_neg (fun z => ej z.2), if_neg (fun z => ej z.2), a3 j (by omega) (by omega), b3 j (by omega) (by omega), v26]
          exact o1 (j + 1) (by omega)
      · rw [u2_ap, if_neg (fun z => absurd z.1 (by decide)), a2 0 (by decide), hB.2 24 (by decide)]; exact o2
      · rw [hB.2 24 (by decide)]; exact o3
      · rw [u2_ap, if_neg (fun z => absurd z.1 (by decide)), a2 0 (by decide), hB.2 23 (by decide)]; exact o4
      · rw [hB.2 23 (by decide)]; exact o5
    have h' : wkRel n c (w + 1) U (mb_u2 B 26 9 0) LU LV := by
      obtain ⟨y1, y2, y3, y4, y5, y6, y7, y8⟩ := g3
      refine ⟨y1, y2, y3, y4, by rw [B18]; exact y5, by rw [B20]; exact y6, fun j hj => rdOk_o (y7 j hj) (fun _ _ _ => rfl) (fun m _ => by rw [B19]), y8⟩
    obtain ⟨U0, U9, M9, V2, LV2, k1, k2, k3, k4, k5, k6, k7⟩ := ih (t + 1) (w + 1) f1 f2 (mb_u2 A 12 9 0) U (mb_u2 B 26 9 0) LU LV (by omega) (by omega) (by omega) (by omega) hu' hd' h0' h'
    have ew : w + 1 + r = w + (r + 1) := by omega
    rw [ew] at k1 k2 k4
    rw [nI_0] at a1
    refine ⟨U0, U9, M9, V2, LV2, ?_, ?_, k3, k4, eqx_tr hB k5, eqL_tr g5 k6, frR_tr g6 (frR_tr ⟨fun j _ => by rw [B19], fun j _ => by rw [B20], fun _ _ => ⟨rfl, rfl⟩⟩ k7)⟩
    · show f_One_weeks_31_b _ _ _ (f_One_weeks_31 P1 P7 (nI m) f1) _ _ _ _ = _
      unfold f_One_weeks_31_b f_One_movePlanOn
      rw [if_neg (nI_ge (by omega) (by omega)), zero10, cl0, o1 0 (by decide), o2, g1, bd2s, letsN, jnsN, a1, nine10, cl9, letsN, bd1s, letsN, nI_1, k1]
    · show f_Ref_weeks_32_b _ _ (f_Ref_weeks_32 (nI m) K f2) _ _ _ = _
      unfold f_Ref_weeks_32_b
      rw [if_neg (nI_ge (by omega) (by omega)), zero10, cl0, g2, bd2s, letsN, jnsN]
      have b1' : f_Ref_weeks_49 (fun (P0_19 : PI) => mb_chk (9 : Int32) 10 (mb_let (mb_u2 P0_19 26 (9 : Int32).toNatClampNeg (0 : Int32)) (fun (P0_22 : PI) => mb_let (nI t + (1 : Int32)) (fun (x2_24 : Int32) => f_Ref_weeks_32 (nI m) K f2 x2_24 P0_22 LV)))) mb_fu 1 V = _ := b1
      rw [b1', nine10, cl9, letsN, letsN, nI_1, k2]
set_option maxHeartbeats 1000000 in
theorem st_weeks {n : Nat} {P0 P1 P7 P9 PR : PI} {L9 LR : PL} (hu : rUnits n P1 PR) (h7 : rDecrees P7 PR) (h0 : rOwn P0 PR) (h : rRods 0 n P9 PR L9 LR) (x1 : Int32) : ∃ (r : Int32) (U0 U9 : PI) (M9 : PL) (V : PI) (LV : PL), f_One_weeks P0 P1 P7 P9 L9 x1 = some (r, U0, U9, M9) ∧ f_Ref_weeks PR LR x1 = some (r, V, LV) ∧ rOwn U0 V ∧ rRods 0 n U9 V M9 LV ∧ eqx [19, 20, 26] [] PR V ∧ eqL [21, 22] [] LR LV ∧ frR PR V LR LV := by
  obtain ⟨cc, hd⟩ := h7
  obtain ⟨c, w, hk⟩ := wkRel_iff.mp h
  have h1 := hk.2.2.2.1
  have h6 := hk.2.2.2.2.2.1
  have hw := hk.2.1
  unfold f_One_weeks f_Ref_weeks
  rw [wi_c, in_c, bd1s, bd1s, ifz, ifz]
  simp only [tt, Int32.reduceToInt, Int64.reduceToInt]
  by_cases ok : 1 ≤ x1.toInt ∧ x1.toInt ≤ 20
  · obtain ⟨m, hm, rfl⟩ := ofI (n := 21) (x := x1) (by omega) (by omega) (by decide)
    rw [if_pos ok, if_pos ok, zero3, cl0, h1, h6, nI_add]
    by_cases hf : w + m ≤ 100
    · obtain ⟨U0, U9, M9, V, LV, k1, k2, k3, k4, k5⟩ := ws_l (m := m) (by omega) (fun (P0_4 : PI) (L0_5 : PL) => mb_chk (0 : Int32) 3 (some ((P0_4 20 (0 : Int32).toNatClampNeg), P0_4, L0_5))) rfl m 0 w mb_fu mb_fu P0 P9 PR L9 LR (by omega) (fu_lt (by omega)) (fu_lt (by omega)) hf hu hd h0 hk
      rw [nI_0] at k1 k2
      rw [cl0] at k2
      refine ⟨nI (w + m), U0, U9, M9, V, LV, ?_, ?_, k3, wkRel_iff.mpr ⟨c, w + m, k4⟩, k5⟩
      · rw [if_pos (show nI (w + m) ≤ (100 : Int32) from nI_le (b := 100) hf (by decide)), letsN, k1]
      · rw [if_pos (show nI (w + m) ≤ (100 : Int32) from nI_le (b := 100) hf (by decide)), letsN, jnsN, k2]
    · have e : ¬ nI (w + m) ≤ (100 : Int32) := nI_ge (a := 100) (b := w + m) (by omega) (by omega)
      exact ⟨-3, P0, P9, L9, PR, LR, by rw [if_neg e], by rw [if_neg e], h0, h, eqx_rf _ _ _, eqL_rf _ _ _, ⟨fun _ _ => rfl, fun _ _ => rfl, fun _ _ => ⟨rfl, rfl⟩⟩⟩
  · exact ⟨-1, P0, P9, L9, PR, LR, by rw [if_neg ok], by rw [if_neg ok], h0, h, eqx_rf _ _ _, eqL_rf _ _ _, ⟨fun _ _ => rfl, fun _ _ => rfl, fun _ _ => ⟨rfl, rfl⟩⟩⟩
