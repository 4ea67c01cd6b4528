/-! papers -/
def pOk (ds w dy am rd : Int32) : Prop := (0 ≤ ds.toInt ∧ ds.toInt ≤ 5) ∧ (0 ≤ w.toInt ∧ w.toInt ≤ 9) ∧ (0 ≤ dy.toInt ∧ dy.toInt ≤ 9999) ∧ (1 ≤ am.toInt ∧ am.toInt ≤ 1000000) ∧ 0 ≤ rd.toInt ∧ rd.toInt ≤ 2
def rPapers (P8 PR : PI) : Prop := ∃ c : Nat, c ≤ 10 ∧ P8 0 5 = nI c ∧ PR 0 15 = nI c ∧ ∀ j, j < c → P8 1 j = PR 17 (5 * j) ∧ P8 2 j = PR 17 (5 * j + 1) ∧ P8 3 j = PR 17 (5 * j + 2) ∧ P8 4 j = PR 17 (5 * j + 3) ∧ P8 5 j = PR 17 (5 * j + 4) ∧ pOk (P8 1 j) (P8 2 j) (P8 3 j) (P8 4 j) (P8 5 j)
theorem padd_c {c : Nat} {P : PI} (hc : c < 10) (h : P 0 5 = nI c) (a b x y e : Int32) : f_Papers_add P a b x y e = some (nI c, mb_uo (row5 P c a b x y e) 5 (nI (c + 1))) := by
  unfold f_Papers_add row5
  simp only [lets, h, u2_ap, chkN hc (by decide), nI_clamp (show c < 2 ^ 31 by omega), Nat.reduceEqDiff, false_and, if_false, nI_1]
set_option maxHeartbeats 2000000 in
theorem st_paper {P8 PR : PI} (h : rPapers P8 PR) (x1 x2 x3 x4 x5 : Int32) : ∃ (r : Int32) (U V : PI), f_One_paper P8 x1 x2 x3 x4 x5 = some (r, U) ∧ f_Ref_paper PR x1 x2 x3 x4 x5 = some (r, V) ∧ rPapers U V ∧ eqx [17] [15] PR V := by
  obtain ⟨c, hc, h1, h2, h3⟩ := id h
  unfold f_One_paper f_Ref_paper
  simp only [dist_c, day_c, wi_c, in_c, bd1s, ifz]
  simp only [tt, Int32.reduceToInt, Int64.reduceToInt]
  by_cases ok : (0 ≤ x1.toInt ∧ x1.toInt ≤ 5) ∧ (0 ≤ x2.toInt ∧ x2.toInt ≤ 9) ∧ (0 ≤ x3.toInt ∧ x3.toInt ≤ 9999) ∧ (1 ≤ x4.toInt ∧ x4.toInt ≤ 1000000) ∧ 0 ≤ x5.toInt ∧ x5.toInt ≤ 2
  · simp only [if_pos ok.1, if_pos ok.2.1, if_pos ok.2.2.1, if_pos ok.2.2.2.1, if_pos ok.2.2.2.2, h1, h2]
    by_cases hl : c < 10
    · rw [if_pos (lt_nI (y := 10) hl (by decide) rfl), if_neg (ne_nI (y := 10) (by omega) (by decide) (show c ≠ 10 by omega) rfl), padd_c hl h1]
      simp only [bd2s, lets, ixm 5 c (x := 5) rfl, nI_1, nI_2, nI_3, nI_4, chkN (show 5 * c < 50 by omega) (by decide), chkN (show 5 * c + 1 < 50 by omega) (by decide), chkN (show 5 * c + 2 < 50 by omega) (by decide), chkN (show 5 * c + 3 < 50 by omega) (by decide), chkN (show 5 * c + 4 < 50 by omega) (by decide), nI_clamp (show 5 * c < 2 ^ 31 by omega), nI_clamp (show 5 * c + 1 < 2 ^ 31 by omega), nI_clamp (show 5 * c + 2 < 2 ^ 31 by omega), nI_clamp (show 5 * c + 3 < 2 ^ 31 by omega), nI_clamp (show 5 * c + 4 < 2 ^ 31 by omega)]
      have ev : (mb_u2 (mb_u2 (mb_u2 (mb_u2 (mb_u2 PR 17 (5 * c) x1) 17 (5 * c + 1) x2) 17 (5 * c + 2) x3) 17 (5 * c + 3) x4) 17 (5 * c + 4) x5) = put5 PR 17 (5 * c) x1 x2 x3 x4 x5 := rfl
      rw [ev, put5_o PR 17 (5 * c) _ _ _ _ _ (q := 0) (j := 15) (Or.inl (by decide)), h2, nI_1]
      refine ⟨nI c, _, mb_uo (put5 PR 17 (5 * c) x1 x2 x3 x4 x5) 15 (nI (c + 1)), rfl, by rw [uo_ap, if_pos ⟨rfl, rfl⟩, nI_pred], ⟨c + 1, by omega, by simp [uo_ap], by simp [uo_ap], fun j hj => ?_⟩, eqx_uo (eqx_put5 (eqx_rf _ _ _) (by decide) (by decide) _ _ _ _ _ _) (by decide) _⟩
      simp only [uo_ap, false_and, if_false, show ¬ ((17 : Nat) = 0) by decide, show ¬ ((1 : Nat) = 0) by decide, show ¬ ((2 : Nat) = 0) by decide, show ¬ ((3 : Nat) = 0) by decide, show ¬ ((4 : Nat) = 0) by decide, show ¬ ((5 : Nat) = 0) by decide]
      by_cases e : j = c
      · subst e
        rw [row5_1, row5_2, row5_3, row5_4, row5_5, put5_0, put5_1, put5_2, put5_3, put5_4]
        exact ⟨rfl, rfl, rfl, rfl, rfl, ok⟩
      · have hh := h3 j (by omega)
        rw [row5_o P8 c _ _ _ _ _ (q := 1) (j := j) (Or.inr (Or.inl e)), row5_o P8 c _ _ _ _ _ (q := 2) (j := j) (Or.inr (Or.inl e)), row5_o P8 c _ _ _ _ _ (q := 3) (j := j) (Or.inr (Or.inl e)), row5_o P8 c _ _ _ _ _ (q := 4) (j := j) (Or.inr (Or.inl e)), row5_o P8 c _ _ _ _ _ (q := 5) (j := j) (Or.inr (Or.inl e)), put5_o PR 17 (5 * c) _ _ _ _ _ (j := 5 * j) (Or.inr (by omega)), put5_o PR 17 (5 * c) _ _ _ _ _ (j := 5 * j + 1) (Or.inr (by omega)), put5_o PR 17 (5 * c) _ _ _ _ _ (j := 5 * j + 2) (Or.inr (by omega)), put5_o PR 17 (5 * c) _ _ _ _ _ (j := 5 * j + 3) (Or.inr (by omega)), put5_o PR 17 (5 * c) _ _ _ _ _ (j := 5 * j + 4) (Or.inr (by omega))]
        exact hh
    · have e10 : c = 10 := by omega
      subst e10
      exact ⟨-3, _, _, by rw [if_neg (by decide)], by rw [if_pos (by decide)], h, eqx_rf _ _ _⟩
  · refine ⟨-1, P8, PR, ?_, ?_, h, eqx_rf _ _ _⟩
    · (repeat' split) <;> first | rfl | (exfalso; omega)
    · (repeat' split) <;> first | rfl | (exfalso; omega)
