theorem us_l {d : Nat} (hd : d < 6) {P : PI} : ∀ (r t n m : Nat) (o y : Int32) (PR : PI), t + r = 401 → r < n → r < m → PR 0 40 = o → PR 0 41 = y → PR 23 (4 * d + 2) + PR 23 (4 * d + 3) = P 3 d + P 4 d → ∃ (x : Int32) (V : PI), f_Folk_seasonsTillHalf_17 P (nI d) n o y (nI t) = some x ∧ f_Ref_uses_75 (nI d) m (nI t) PR = some (x, V) ∧ eqx [] [40, 41] PR V := by
  intro r
  induction r with
  | zero =>
    intro t n m o y PR e hn hm h1 h2 hq
    obtain ⟨n, rfl⟩ : ∃ m, n = m + 1 := ⟨n - 1, by omega⟩
    obtain ⟨m, rfl⟩ : ∃ k, m = k + 1 := ⟨m - 1, by omega⟩
    have et : t = 401 := by omega
    subst et
    refine ⟨-4, PR, ?_, ?_, eqx_rf _ _ _⟩
    · show f_Folk_seasonsTillHalf_17_b _ _ _ _ _ _ = _
      unfold f_Folk_seasonsTillHalf_17_b
      rw [if_pos (by decide)]
    · show f_Ref_uses_75_b _ _ _ _ = _
      unfold f_Ref_uses_75_b
      rw [if_pos (by decide)]
  | succ r ih =>
    intro t n m o y PR e hn hm h1 h2 hq
    obtain ⟨n, rfl⟩ : ∃ m, n = m + 1 := ⟨n - 1, by omega⟩
    obtain ⟨m, rfl⟩ : ∃ k, m = k + 1 := ⟨m - 1, by omega⟩
    have hc : ¬ (400 : Int32) < nI t := nI_nlt (a := 400) (b := t) (by omega) (by decide)
    by_cases hy : y < o
    · obtain ⟨V, a1, a2, a3, a4⟩ := season_c (PR := PR) hd
      rw [h1, h2, hq] at a2 a3
      obtain ⟨x, W, b1, b2, b3⟩ := ih (t + 1) n m (o - chg (P 3 d + P 4 d) o y) (y + chg (P 3 d + P 4 d) o y) V (by omega) (by omega) (by omega) a2 a3 (by rw [a4.1 23 (by decide) (by decide)]; exact hq)
      refine ⟨x, W, ?_, ?_, eqx_tr a4 b3⟩
      · show f_Folk_seasonsTillHalf_17_b _ _ (f_Folk_seasonsTillHalf_17 P (nI d) n) _ _ _ = _
        unfold f_Folk_seasonsTillHalf_17_b
        rw [if_neg hc, if_pos hy, change_c hd, bd1s, lets, lets, lets, lets, nI_1, b1]
      · show f_Ref_uses_75_b _ (f_Ref_uses_75 (nI d) m) _ _ = _
        unfold f_Ref_uses_75_b
        rw [if_neg hc, h1, h2, if_pos hy, a1, bd1s, lets, nI_1, b2]
    · refine ⟨nI t, PR, ?_, ?_, eqx_rf _ _ _⟩
      · show f_Folk_seasonsTillHalf_17_b _ _ (f_Folk_seasonsTillHalf_17 P (nI d) n) _ _ _ = _
        unfold f_Folk_seasonsTillHalf_17_b
        rw [if_neg hc, if_neg hy]
      · show f_Ref_uses_75_b _ (f_Ref_uses_75 (nI d) m) _ _ = _
        unfold f_Ref_uses_75_b
        rw [if_neg hc, h1, h2, if_neg hy]
set_option maxHeartbeats 1000000 in
theorem st_uses {P11 PR : PI} (h : rFolk 0 P11 PR) (x1 x2 : Int32) : ∃ (r : Int32) (V : PI), f_One_uses P11 x1 x2 = some r ∧ f_Ref_uses PR x1 x2 = some (r, V) ∧ eqx [] [40, 41] PR V := by
  unfold f_One_uses f_Ref_uses
  simp only [dist_c, wi_c, in_c, bd1s, ifz, lets]
  simp only [tt, Int32.reduceToInt, Int64.reduceToInt]
  by_cases o1 : 0 ≤ x1.toInt ∧ x1.toInt ≤ 5
  · by_cases o2 : 0 ≤ x2.toInt ∧ x2.toInt ≤ 2
    · obtain ⟨d, hd, rfl⟩ := ofI (n := 6) (x := x1) o1.1 (by omega) (by decide)
      obtain ⟨w, hw, rfl⟩ := ofI (n := 3) (x := x2) o2.1 (by omega) (by decide)
      obtain ⟨e1, e2, e3, e4⟩ := h d hd
      simp only [Nat.mul_zero, Nat.zero_add] at e1 e2 e3 e4
      have eqV : eqx [] [40, 41] PR (mb_uo (mb_uo PR 40 (PR 23 (4 * d))) 41 (PR 23 (4 * d + 1))) := eqx_uo (eqx_uo (eqx_rf _ _ _) (by decide) _) (by decide) _
      have s1 : (mb_uo PR 40 (PR 23 (4 * d))) 23 = PR 23 := rfl
      simp only [if_pos o1, if_pos o2, ix4, nI_1, chkN hd (by decide), nI_clamp (show d < 2 ^ 31 by omega), chkN (show 4 * d < 72 by omega) (by decide), chkN (show 4 * d + 1 < 72 by omega) (by decide), nI_clamp (show 4 * d < 2 ^ 31 by omega), nI_clamp (show 4 * d + 1 < 2 ^ 31 by omega), s1]
      rcases (show w = 0 ∨ w = 1 ∨ w = 2 by omega) with rfl | rfl | rfl
      · refine ⟨P11 1 d, _, by rw [if_pos (by decide)], ?_, eqV⟩
        rw [if_neg (by decide), if_pos (by decide)]
        simp [uo_ap, e1]
      · refine ⟨P11 2 d, _, by rw [if_neg (by decide), if_pos (by decide)], ?_, eqV⟩
        rw [if_neg (by decide), if_neg (by decide)]
        simp [uo_ap, e2]
      · obtain ⟨x, V, a1, a2, a3⟩ := us_l hd (P := P11) 401 0 mb_fu mb_fu (P11 1 d) (P11 2 d) (mb_uo (mb_uo PR 40 (PR 23 (4 * d))) 41 (PR 23 (4 * d + 1))) (by omega) (fu_lt (by omega)) (fu_lt (by omega)) (by simp [uo_ap, e1]) (by simp [uo_ap, e2]) (by rw [e3, e4]; rfl)
        have a1' : f_Folk_seasonsTillHalf_17 P11 (nI d) mb_fu (P11 1 d) (P11 2 d) 0 = some x := a1
        have a2' : f_Ref_uses_75 (nI d) mb_fu 0 (mb_uo (mb_uo PR 40 (PR 23 (4 * d))) 41 (PR 23 (4 * d + 1))) = some (x, V) := a2
        refine ⟨x, V, ?_, ?_, eqx_tr eqV a3⟩
        · rw [if_neg (by decide), if_neg (by decide)]
          unfold f_Folk_seasonsTillHalf
          simp only [chkN hd (by decide), nI_clamp (show d < 2 ^ 31 by omega), lets, a1', bd1s]
        · rw [if_pos (by decide)]
          exact a2'
    · simp only [if_pos o1, if_neg o2]
      exact ⟨-1, PR, rfl, rfl, eqx_rf _ _ _⟩
  · simp only [if_neg o1]
    exact ⟨-1, PR, rfl, rfl, eqx_rf _ _ _⟩
