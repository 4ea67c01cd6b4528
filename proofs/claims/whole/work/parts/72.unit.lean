set_option maxHeartbeats 1000000 in
theorem add_c {n : Nat} {P1 : PI} (hn : n < 16) (h : P1 0 3 = nI n) (x1 x2 x3 : Int32) : f_Units_add P1 x1 x2 x3 = some (nI n, mb_uo (mb_u2 (mb_u2 (mb_u2 P1 1 n x1) 2 n x2) 3 n x3) 3 (nI (n + 1))) := by
  have hc : vp_in (nI n) 16 := vp_in_nI hn (by decide)
  have e : (nI n).toNatClampNeg = n := nI_clamp (by omega)
  unfold f_Units_add
  simp only [lets, h, mb_chk_of hc, e]
  simp only [u2_ap, h, mb_chk_of hc, e, show ¬ ((0 : Nat) = 1) by decide, show ¬ ((0 : Nat) = 2) by decide, show ¬ ((0 : Nat) = 3) by decide, false_and, if_false, ← nI_1]
set_option maxHeartbeats 1000000 in
theorem st_unit {n : Nat} {P1 PR : PI} (h : rUnits n P1 PR) (x1 x2 x3 : Int32) : ∃ (r : Int32) (U V : PI) (n' : Nat), f_One_unit P1 x1 x2 x3 = some (r, U) ∧ f_Ref_unit PR x1 x2 x3 = some (r, V) ∧ n ≤ n' ∧ rUnits n' U V ∧ eqx [2, 3, 4] [0] PR V := by
  obtain ⟨hn, h1, h2, h3, h4⟩ := id h
  have k1 : (P1 0 3).toInt = (n : Int) := by rw [h1]; exact nI_toInt (by omega)
  have k2 : (PR 0 0).toInt = (n : Int) := by rw [h2]; exact nI_toInt (by omega)
  by_cases ok : (0 ≤ x1.toInt ∧ x1.toInt ≤ 1) ∧ (1 ≤ x2.toInt ∧ x2.toInt ≤ 1000000) ∧ 0 ≤ x3.toInt ∧ (x1.toInt = 1 → x3.toInt ≤ 100) ∧ (¬ x1.toInt = 1 → x3.toInt ≤ 0)
  · by_cases hf : n < 16
    · refine ⟨nI n, mb_uo (mb_u2 (mb_u2 (mb_u2 P1 1 n x1) 2 n x2) 3 n x3) 3 (nI (n + 1)), mb_uo (mb_u2 (mb_u2 (mb_u2 PR 2 n x1) 3 n x2) 4 n x3) 0 (nI (n + 1)), n + 1, ?_, ?_, by omega, ?_, ?_⟩
      · unfold f_One_unit
        simp only [wi_c, bd1s, ifz, jns, add_c hf h1, bd2s]
        simp only [Int32.lt_iff_toInt_lt, ← Int32.toInt_inj, k1, Int32.reduceToInt]
        (repeat' split) <;> first | rfl | (exfalso; omega)
      · have hc : vp_in (nI n) 16 := vp_in_nI hf (by decide)
        have e : (nI n).toNatClampNeg = n := nI_clamp (by omega)
        unfold f_Ref_unit
        simp only [in_c, bd1s, ifz, jns, lets, tt, u2_ap, h2, mb_chk_of hc, e, show ¬ ((0 : Nat) = 2) by decide, show ¬ ((0 : Nat) = 3) by decide, show ¬ ((0 : Nat) = 4) by decide, false_and, if_false, uo_ap, and_self, if_true, nI_1, nI_pred, Int32.reduceToInt, Int64.reduceToInt]
        simp only [← Int32.toInt_inj, nI_toInt (show n < 2 ^ 31 by omega), Int32.reduceToInt]
        (repeat' split) <;> first | rfl | (exfalso; omega)
      · refine ⟨by omega, by simp [uo_ap], by simp [uo_ap], fun j hj => ?_, fun j hj => ?_⟩
        · simp only [uo_ap, u2_ap, h3 j hj]
          simp
        · by_cases ej : j = n
          · subst ej
            simp [uo_ap, u2_ap, uOk, ← Int32.toInt_inj]
            omega
          · simpa [uo_ap, u2_ap, ej] using h4 j (by omega)
      · exact eqx_uo (eqx_u2 (eqx_u2 (eqx_u2 (eqx_rf _ _ _) (by decide) (by decide) _ _) (by decide) (by decide) _ _) (by decide) (by decide) _ _) (by decide) _
    · have en : n = 16 := by omega
      refine ⟨-3, P1, PR, n, ?_, ?_, Nat.le_refl n, h, eqx_rf _ _ _⟩
      · unfold f_One_unit
        simp only [wi_c, bd1s, ifz, jns]
        simp only [Int32.lt_iff_toInt_lt, ← Int32.toInt_inj, k1, Int32.reduceToInt]
        (repeat' split) <;> first | rfl | (exfalso; omega)
      · unfold f_Ref_unit
        simp only [in_c, bd1s, ifz, jns]
        simp only [tt, ← Int32.toInt_inj, k2, Int32.reduceToInt, Int64.reduceToInt]
        (repeat' split) <;> first | rfl | (exfalso; omega)
  · refine ⟨-1, P1, PR, n, ?_, ?_, Nat.le_refl n, h, eqx_rf _ _ _⟩
    · unfold f_One_unit
      simp only [wi_c, bd1s, ifz, jns]
      simp only [Int32.lt_iff_toInt_lt, ← Int32.toInt_inj, k1, Int32.reduceToInt]
      (repeat' split) <;> first | rfl | (exfalso; omega)
    · unfold f_Ref_unit
      simp only [in_c, bd1s, ifz, jns]
      simp only [tt, ← Int32.toInt_inj, k2, Int32.reduceToInt, Int64.reduceToInt]
      (repeat' split) <;> first | rfl | (exfalso; omega)
