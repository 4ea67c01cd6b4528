/-! the steps owed and gained -/
theorem oI_eq {P8 : PI} {L8 LR : PL} (h : oI P8 L8 LR) : P8 0 8 = 0 ∨ P8 0 8 = 1 := by
  rcases h with h | h
  · exact Or.inl h.1
  · exact Or.inr h.1
set_option maxHeartbeats 1000000 in
theorem rk_l {n j : Nat} {P1 PR : PI} (hU : rUnits n P1 PR) (hj : j < 10) {bits rule told : Int32} (hr : hR rule told) (K : PL → Option (Int32 × PL)) : ∀ (r u f1 f2 : Nat) (P8 : PI) (L8 LR : PL), u + r = n → r < f1 → r < f2 → P8 4 j = PR 17 (5 * j + 3) → (1 ≤ (P8 4 j).toInt ∧ (P8 4 j).toInt ≤ 1000000) → oI P8 L8 LR → ∃ (U : PI) (M V : PL), f_Papers_reckon_38 P1 (nI j) bits rule f1 (nI u) P8 L8 = some (U 0 8, U, M) ∧ f_Ref_layOwed_80 PR (nI (5 * j)) bits told K f2 (nI u) LR = K V ∧ eqx [] [8] P8 U ∧ eqL [] [34, 35] LR V ∧ oI U M V := by
  obtain ⟨hn, u1, u2, u3, u4⟩ := hU
  intro r
  induction r with
  | zero =>
    intro u f1 f2 P8 L8 LR e h1 h2 eA hA hI
    obtain ⟨f1, rfl⟩ : ∃ m, f1 = m + 1 := ⟨f1 - 1, by omega⟩
    obtain ⟨f2, rfl⟩ : ∃ m, f2 = m + 1 := ⟨f2 - 1, by omega⟩
    have eu : u = n := by omega
    subst eu
    refine ⟨P8, L8, LR, ?_, ?_, eqx_rf _ _ _, eqL_rf _ _ _, hI⟩
    · show f_Papers_reckon_38_b _ _ _ _ _ _ _ _ = _
      unfold f_Papers_reckon_38_b
      rw [u1, if_pos (nI_le (Nat.le_refl _) (by omega))]
      unfold mb_z
      rw [if_pos (oI_eq hI)]
    · show f_Ref_layOwed_80_b _ _ _ _ _ _ _ _ = _
      unfold f_Ref_layOwed_80_b
      rw [u2, if_pos (nI_le (Nat.le_refl _) (by omega))]
  | succ r ih =>
    intro u f1 f2 P8 L8 LR e h1 h2 eA hA hI
    obtain ⟨f1, rfl⟩ : ∃ m, f1 = m + 1 := ⟨f1 - 1, by omega⟩
    obtain ⟨f2, rfl⟩ : ∃ m, f2 = m + 1 := ⟨f2 - 1, by omega⟩
    have hu : u < 16 := by omega
    have hlt1 : ¬ (P1 0 3) ≤ nI u := by rw [u1]; exact nI_ge (by omega) (by omega)
    have hlt2 : ¬ (PR 0 0) ≤ nI u := by rw [u2]; exact nI_ge (by omega) (by omega)
    by_cases hb : (bits >>> (nI u &&& 31)) &&& 1 = 0
    · obtain ⟨U, M, V, k1, k2, k3, k4, k5⟩ := ih (u + 1) f1 f2 P8 L8 LR (by omega) (by omega) (by omega) eA hA hI
      refine ⟨U, M, V, ?_, ?_, k3, k4, k5⟩
      · show f_Papers_reckon_38_b P1 _ _ _ (f_Papers_reckon_38 P1 (nI j) bits rule f1) _ _ _ = _
        unfold f_Papers_reckon_38_b
        rw [if_neg hlt1, if_pos hb, letsN, nI_1]
        exact k1
      · show f_Ref_layOwed_80_b PR _ _ _ _ (f_Ref_layOwed_80 PR (nI (5 * j)) bits told K f2) _ _ = _
        unfold f_Ref_layOwed_80_b
        rw [if_neg hlt2, letsN, jnsN, ly_n bits told hb _ (by have := fu_lt (k := 3) (by decide); omega), letsN, nI_1]
        exact k2
    · obtain ⟨U0, M0, c1, c2, c3⟩ := rk_c (P1 := P1) hj hu (Or.inr hlt1) hlt1 hr hb (u3 u hu).1 (u3 u hu).2.1 (u3 u hu).2.2 hA (u4 u (by omega)) hI (f_Papers_reckon_38 P1 (nI j) bits rule f1)
      have e4 : U0 4 j = P8 4 j := by rw [c2.1 4 (by decide) (by decide)]
      obtain ⟨U, M, V, k1, k2, k3, k4, k5⟩ := ih (u + 1) f1 f2 U0 M0 _ (by omega) (by omega) (by omega) (e4.trans eA) (by rw [e4]; exact hA) c3
      refine ⟨U, M, V, ?_, ?_, eqx_tr c2 k3, eqL_tr (stp_eq _ _ _ _ _ _) k4, k5⟩
      · show f_Papers_reckon_38_b P1 _ _ _ (f_Papers_reckon_38 P1 (nI j) bits rule f1) _ _ _ = _
        rw [c1]; exact k1
      · show f_Ref_layOwed_80_b PR _ _ _ _ (f_Ref_layOwed_80 PR (nI (5 * j)) bits told K f2) _ _ = _
        unfold f_Ref_layOwed_80_b
        rw [if_neg hlt2, letsN, jnsN, ly_c (by omega) hu bits told hb _ (by have := fu_lt (k := 3) (by decide); omega), letsN, nI_1, ← eA]
        exact k2
theorem lay_eq {cd j : Nat} {P7 PR : PI} (LR : PL) (hd : rDecN cd P7 PR) (hj : j < 10) (day : Int32) : f_Ref_layOwed PR LR (nI j) day = f_Ref_layOwed_80 PR (nI (5 * j)) (mng P7 (PR 17 (5 * j + 1)) (PR 17 (5 * j)) day cd) (if PR 17 (5 * j + 4) = 2 then lst (bH P7 (PR 17 (5 * j)) day) (P7 3) (-4) cd else 1 - PR 17 (5 * j + 4)) (fun L0_14 => if lg_cmp (L0_14 0 35) 0 < 0 then some (0, L0_14) else some (1, L0_14)) mb_fu 0 (mb_uoL (mb_uoL LR 34 (-1)) 35 (-1)) := by
  unfold f_Ref_layOwed
  simp only [letsN, jnsN, bd1s, ixm 5 j (x := 5) rfl, nI_1, nI_4, chkN (show 5 * j + 1 < 50 by omega) (by decide), chkN (show 5 * j + 4 < 50 by omega) (by decide), chkN (show 5 * j < 50 by omega) (by decide), nI_clamp (show 5 * j + 1 < 2 ^ 31 by omega), nI_clamp (show 5 * j + 4 < 2 ^ 31 by omega), nI_clamp (show 5 * j < 2 ^ 31 by omega), mnR_c hd, cu_c hd]
  by_cases h : PR 17 (5 * j + 4) = 2
  · simp only [if_pos h]
  · simp only [if_neg h]
theorem rule_ok {cd j : Nat} {P7 P8 PR : PI} (hd : rDecN cd P7 PR) (hj : j < 10) (p1 : P8 1 j = PR 17 (5 * j)) (p5 : P8 5 j = PR 17 (5 * j + 4)) (po : 0 ≤ (P8 5 j).toInt ∧ (P8 5 j).toInt ≤ 2) (day : Int32) : ∃ rule, f_Papers_ruleFor (mb_uo P8 8 0) P7 (nI j) day = some rule ∧ hR rule (if PR 17 (5 * j + 4) = 2 then lst (bH P7 (PR 17 (5 * j)) day) (P7 3) (-4) cd else 1 - PR 17 (5 * j + 4)) := by
  have f1 : mb_uo P8 8 0 1 j = P8 1 j := by rw [uo_ap, if_neg (by omega)]
  have f5 : mb_uo P8 8 0 5 j = P8 5 j := by rw [uo_ap, if_neg (by omega)]
  unfold f_Papers_ruleFor
  rw [chkN hj (by decide), chkN hj (by decide), chkN hj (by decide), nI_clamp (by omega), f5, f1, hp_c hd.1 hd.2.1, ← p5, ← p1]
  obtain ⟨t, ht, et⟩ := ofI (n := 3) po.1 (by omega) (by decide)
  rcases (show t = 0 ∨ t = 1 ∨ t = 2 by omega) with rfl | rfl | rfl
  · exact ⟨1, by rw [et]; rfl, by rw [et, if_neg (by decide)]; exact Or.inr ⟨by decide, Or.inr rfl⟩⟩
  · exact ⟨0, by rw [et]; rfl, by rw [et, if_neg (by decide)]; exact Or.inr ⟨by decide, Or.inl rfl⟩⟩
  · exact ⟨_, by rw [et, if_neg (by decide), if_neg (by decide), bd1s], by rw [et, if_pos (by decide)]; exact hR_lst hd (P8 1 j) day cd (Nat.le_refl _)⟩
set_option maxHeartbeats 1000000 in
theorem reck_ok {n j : Nat} {P1 P7 P8 PR : PI} (L8 LR : PL) (hU : rUnits n P1 PR) (hd : rDecrees P7 PR) (hj : j < 10) (hp : P8 1 j = PR 17 (5 * j) ∧ P8 2 j = PR 17 (5 * j + 1) ∧ P8 3 j = PR 17 (5 * j + 2) ∧ P8 4 j = PR 17 (5 * j + 3) ∧ P8 5 j = PR 17 (5 * j + 4) ∧ pOk (P8 1 j) (P8 2 j) (P8 3 j) (P8 4 j) (P8 5 j)) (day : Int32) : ∃ (b : Int32) (U : PI) (M V : PL), f_Papers_reckon P8 L8 P1 P7 (nI j) day = some (b, U, M) ∧ f_Ref_layOwed PR LR (nI j) day = some (b, V) ∧ eqx [] [8] P8 U ∧ eqL [] [34, 35] LR V ∧ (b = 0 ∨ (b = 1 ∧ M 0 6 = V 0 34 ∧ M 0 7 = V 0 35)) := by
  obtain ⟨cd, hd⟩ := hd
  obtain ⟨p1, p2, p3, p4, p5, po⟩ := hp
  have q8 : eqx [] [8] P8 (mb_uo P8 8 0) := eqx_uo (eqx_rf _ _ _) (by decide) _
  have f1 : mb_uo P8 8 0 1 j = P8 1 j := by rw [uo_ap, if_neg (by omega)]
  have f2 : mb_uo P8 8 0 2 j = P8 2 j := by rw [uo_ap, if_neg (by omega)]
  have f4 : mb_uo P8 8 0 4 j = P8 4 j := by rw [uo_ap, if_neg (by omega)]
  obtain ⟨rule, r1, r2⟩ := rule_ok hd hj p1 p5 po.2.2.2.2 day
  obtain ⟨U, M, V, k1, k2, k3, k4, k5⟩ := rk_l hU hj r2 (bits := mng P7 (PR 17 (5 * j + 1)) (PR 17 (5 * j)) day cd) (fun L0_14 => if lg_cmp (L0_14 0 35) 0 < 0 then some (0, L0_14) else some (1, L0_14)) n 0 mb_fu mb_fu (mb_uo P8 8 0) L8 (mb_uoL (mb_uoL LR 34 (-1)) 35 (-1)) (by omega) (fu_lt (by have := hU.1; omega)) (fu_lt (by have := hU.1; omega)) (f4.trans p4) (by rw [f4]; exact po.2.2.2.1) (Or.inl ⟨by rw [uo_ap, if_pos ⟨rfl, rfl⟩], by rw [uoL_ap, if_neg (by decide), uoL_ap, if_pos ⟨rfl, rfl⟩], by rw [uoL_ap, if_pos ⟨rfl, rfl⟩]⟩)
  rw [nI_0] at k1 k2
  refine ⟨U 0 8, U, M, V, ?_, ?_, eqx_tr q8 k3, eqL_tr (eqL_uo (eqL_uo (eqL_rf _ _ _) (by decide) _) (by decide) _) k4, ?_⟩
  · unfold f_Papers_reckon
    rw [letsN, chkN hj (by decide), chkN hj (by decide), nI_clamp (by omega), f1, f2, mn_c hd.1 hd.2.1, bd1s, letsN, r1, bd1s, letsN, letsN, p1, p2]
    exact k1
  · rw [lay_eq LR hd hj, k2]
    simp only [lg_cmp_lt, Int64.lt_iff_toInt_lt]
    rcases k5 with ⟨a, b, c⟩ | ⟨a, b, c, d, e⟩
    · rw [a, c, if_pos (by decide)]
    · rw [a, if_neg (by simp; omega)]
  · rcases k5 with ⟨a, b, c⟩ | ⟨a, b, c, d, e⟩
    · exact Or.inl a
    · exact Or.inr ⟨a, b, c⟩
theorem rPapers_c {P8 U PR : PI} (h : rPapers P8 PR) (k : eqx [] [8] P8 U) : rPapers U PR := by
  obtain ⟨c, hc, h1, h2, h3⟩ := h
  refine ⟨c, hc, by rw [k.2 5 (by decide)]; exact h1, h2, fun j hj => ?_⟩
  rw [k.1 1 (by decide) (by decide), k.1 2 (by decide) (by decide), k.1 3 (by decide) (by decide), k.1 4 (by decide) (by decide), k.1 5 (by decide) (by decide)]
  exact h3 j hj
theorem ptold_c (P0 : PI) (x1 : Int32) : f_Papers_told P0 x1 = some (if 0 ≤ x1.toInt ∧ x1.toInt < (P0 0 5).toInt then 1 else 0) := by
  unfold f_Papers_told
  simp only [Int32.lt_iff_toInt_lt, Int32.le_iff_toInt_le, show (0 : Int32).toInt = 0 from rfl]
  (repeat' split) <;> first | rfl | omega
set_option maxHeartbeats 1000000 in
theorem st_owed {n : Nat} {P1 P7 P8 PR : PI} (L8 LR : PL) (hU : rUnits n P1 PR) (hd : rDecrees P7 PR) (h : rPapers P8 PR) (x1 x2 x3 : Int32) : ∃ (r : Int64) (U : PI) (M V : PL), f_One_owed P1 P7 P8 L8 x1 x2 x3 = some (r, U, M) ∧ f_Ref_owed PR LR x1 x2 x3 = some (r, V) ∧ rPapers U PR ∧ eqL [] [34, 35] LR V := by
  obtain ⟨c, hc, h1, h2, h3⟩ := id h
  unfold f_One_owed f_Ref_owed
  have e : (PR 0 15 - (1 : Int32)).toInt = (c : Int) - 1 := by rw [h2]; exact pk_sub_toInt (a := c) (b := 1) (by omega) (by omega)
  have e5 : (P8 0 5).toInt = c := by rw [h1]; exact nI_toInt (by omega)
  simp only [ptold_c, wi_c, in_c, bd1s, ifz]
  simp only [tt, e, e5, Int32.reduceToInt, Int64.reduceToInt]
  by_cases ok : (0 ≤ x1.toInt ∧ x1.toInt < c) ∧ ((-1 ≤ x2.toInt ∧ x2.toInt ≤ 9999) ∧ (0 ≤ x3.toInt ∧ x3.toInt ≤ 1))
  · have ok1 : 0 ≤ x1.toInt ∧ x1.toInt ≤ (c : Int) - 1 := by omega
    rw [if_pos ok.1, if_pos ok.2.1, if_pos ok.2.2, if_pos ok1, if_pos ok.2.1, if_pos ok.2.2]
    obtain ⟨j, hj, rfl⟩ := ofI ok.1.1 ok.1.2 (by omega)
    have j10 : j < 10 := by omega
    obtain ⟨b, U, M, V, k1, k2, k3, k4, k5⟩ := reck_ok L8 LR hU hd j10 (h3 j hj) (if x2 = -1 then P8 3 j else x2)
    have p3 := (h3 j hj).2.2.1
    have g1 : ∀ {α : Type} (J : Int32 → Option α), mb_jn J (fun J53_5 => (if x2 = (-1 : Int32) then mb_chk (nI j) 10 (J53_5 (P8 3 (nI j).toNatClampNeg)) else J53_5 x2)) = J (if x2 = -1 then P8 3 j else x2) := by
      intro α J
      rw [jnsN, chkN j10 (by decide), nI_clamp (by omega)]
      by_cases q : x2 = -1
      · rw [if_pos q, if_pos q]
      · rw [if_neg q, if_neg q]
    have g2 : ∀ {α : Type} (J : Int32 → Int32 → Option α), mb_jn J (fun J64_6 => (if 0 ≤ x2 then J64_6 x2 (nI j) else mb_chk (((5 : Int32) * nI j) + (2 : Int32)) 50 (J64_6 (PR 17 (((5 : Int32) * nI j) + (2 : Int32)).toNatClampNeg) (nI j)))) = J (if x2 = -1 then P8 3 j else x2) (nI j) := by
      intro α J
      rw [jnsN, ixm 5 j (x := 5) rfl, nI_2, chkN (by omega) (by decide), nI_clamp (by omega), ← p3]
      by_cases q : x2 = -1
      · have : ¬ (0 : Int32) ≤ x2 := by rw [q]; decide
        rw [if_neg this, if_pos q]
      · have : (0 : Int32) ≤ x2 := Int32.le_iff_toInt_le.mpr (by
          have : x2.toInt ≠ -1 := fun z => q (Int32.toInt_inj.mp z)
          have := ok.2.1.1
          show (0 : Int) ≤ _
          omega)
        rw [if_pos this, if_neg q]
    rw [g1, g2]
    simp only [letsN, k1, k2, bd2s, bd3s]
    rcases k5 with rfl | ⟨rfl, m1, m2⟩
    · exact ⟨_, U, M, V, by rw [if_pos rfl], by rw [if_pos rfl], rPapers_c h k3, k4⟩
    · rw [if_neg (show ¬ (1 : Int32) = 0 by decide), if_neg (show ¬ (1 : Int32) = 0 by decide)]
      by_cases q : x3 = 0
      · exact ⟨_, U, M, V, by rw [if_pos q], by rw [if_pos q, m1], rPapers_c h k3, k4⟩
      · exact ⟨_, U, M, V, by rw [if_neg q], by rw [if_neg q, m2], rPapers_c h k3, k4⟩
  · refine ⟨-1, P8, L8, LR, ?_, ?_, h, eqL_rf _ _ _⟩
    · (repeat' split) <;> first | rfl | (exfalso; omega)
    · (repeat' split) <;> first | rfl | (exfalso; omega)
set_option maxHeartbeats 1000000 in
theorem st_gained {n : Nat} {P1 P7 P8 PR : PI} (L8 LR : PL) (hU : rUnits n P1 PR) (hd : rDecrees P7 PR) (h : rPapers P8 PR) (x1 x2 : Int32) : ∃ (r : Int64) (U : PI) (M V : PL), f_One_gained P1 P7 P8 L8 x1 x2 = some (r, U, M) ∧ f_Ref_gained PR LR x1 x2 = some (r, V) ∧ rPapers U PR ∧ eqL [] [34, 35] LR V := by
  obtain ⟨c, hc, h1, h2, h3⟩ := id h
  unfold f_One_gained f_Ref_gained
  have e : (PR 0 15 - (1 : Int32)).toInt = (c : Int) - 1 := by rw [h2]; exact pk_sub_toInt (a := c) (b := 1) (by omega) (by omega)
  have e5 : (P8 0 5).toInt = c := by rw [h1]; exact nI_toInt (by omega)
  simp only [ptold_c, day_c, in_c, bd1s, ifz]
  simp only [tt, e, e5, Int32.reduceToInt, Int64.reduceToInt]
  by_cases ok : (0 ≤ x1.toInt ∧ x1.toInt < c) ∧ (0 ≤ x2.toInt ∧ x2.toInt ≤ 9999)
  · have ok1 : 0 ≤ x1.toInt ∧ x1.toInt ≤ (c : Int) - 1 := by omega
    rw [if_pos ok.1, if_pos ok.2, if_pos ok1, if_pos ok.2]
    obtain ⟨j, hj, rfl⟩ := ofI ok.1.1 ok.1.2 (by omega)
    have j10 : j < 10 := by omega
    have p3 := (h3 j hj).2.2.1
    simp only [chkN j10 (by decide), nI_clamp (show j < 2 ^ 31 by omega), ixm 5 j (x := 5) rfl, nI_2, chkN (show 5 * j + 2 < 50 by omega) (by decide), nI_clamp (show 5 * j + 2 < 2 ^ 31 by omega), ← p3, letsN]
    -- the class: the paper's day, then the asked; the reference: the other way
    obtain ⟨b, U, M, V, k1, k2, k3, k4, k5⟩ := reck_ok L8 LR hU hd j10 (h3 j hj) (P8 3 j)
    obtain ⟨b2, U2, M2, V2, l1, l2, l3, l4, l5⟩ := reck_ok M LR hU hd j10 (P8 := U) (by
      rw [k3.1 1 (by decide) (by decide), k3.1 2 (by decide) (by decide), k3.1 3 (by decide) (by decide), k3.1 4 (by decide) (by decide), k3.1 5 (by decide) (by decide)]
      exact h3 j hj) x2
    obtain ⟨b3, U3, M3, V3, m1, m2, m3, m4, m5⟩ := reck_ok L8 V2 hU hd j10 (h3 j hj) (P8 3 j)
    have same : b3 = b ∧ M3 = M := by
      rw [k1] at m1
      simp only [Option.some.injEq, Prod.mk.injEq] at m1
      exact ⟨m1.1.symm, m1.2.2.symm⟩
    obtain ⟨rfl, rfl⟩ := same
    simp only [k1, l2, bd2s, bd3s]
    rcases k5 with z | ⟨z, z1, z2⟩
    · rw [if_pos z]
      rcases l5 with y | ⟨y, y1, y2⟩
      · exact ⟨_, U, M3, V2, rfl, by rw [if_pos y], rPapers_c h k3, l4⟩
      · refine ⟨_, U, M3, V3, rfl, ?_, rPapers_c h k3, eqL_tr l4 m4⟩
        rw [if_neg (by rw [y]; decide), m2, bd2s, if_pos z]
    · rw [if_neg (by rw [z]; decide), l1, bd3s]
      rcases l5 with y | ⟨y, y1, y2⟩
      · exact ⟨_, U2, M2, V2, by rw [if_pos y], by rw [if_pos y], rPapers_c h (eqx_tr k3 l3), l4⟩
      · rcases m5 with w | ⟨w, w1, w2⟩
        · rw [z] at w; exact absurd w (by decide)
        · refine ⟨_, U2, M2, V3, by rw [if_neg (by rw [y]; decide)], ?_, rPapers_c h (eqx_tr k3 l3), eqL_tr l4 m4⟩
          rw [if_neg (by rw [y]; decide), m2, bd2s, if_neg (by rw [z]; decide), y2, w1]
  · refine ⟨-1000000000000000, P8, L8, LR, ?_, ?_, h, eqL_rf _ _ _⟩
    · (repeat' split) <;> first | rfl | (exfalso; omega)
    · (repeat' split) <;> first | rfl | (exfalso; omega)
