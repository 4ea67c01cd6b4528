/-! allowed, plan, clear, cheated -/
def rOwn (P0 PR : PI) : Prop := (∀ j, j < 10 → P0 12 j = PR 26 j) ∧ P0 0 15 = PR 0 24 ∧ (0 ≤ (PR 0 24).toInt ∧ (PR 0 24).toInt ≤ 200) ∧ P0 0 14 = PR 0 23 ∧ ∃ m : Nat, m ≤ 2 ∧ PR 0 23 = nI m
set_option maxHeartbeats 1000000 in
theorem st_allowed {P0 PR : PI} (h : rOwn P0 PR) (x1 : Int32) : ∃ (r : Int32) (U V : PI), f_One_allowed P0 x1 = some (r, U) ∧ f_Ref_allowed PR x1 = some (r, V) ∧ rOwn U V ∧ eqx [] [24] PR V := by
  obtain ⟨a1, a2, a3, a4, a5⟩ := id h
  unfold f_One_allowed f_Ref_allowed
  simp only [wi_c, in_c, bd1s, ifz, lets]
  simp only [tt, Int32.reduceToInt, Int64.reduceToInt]
  by_cases ok : 0 ≤ x1.toInt ∧ x1.toInt ≤ 200
  · simp only [if_pos ok]
    refine ⟨P0 0 15, _, _, rfl, by rw [a2], ⟨fun j hj => ?_, ?_, ?_, ?_, ?_⟩, eqx_uo (eqx_rf _ _ _) (by decide) _⟩
    · simpa [uo_ap] using a1 j hj
    · simp [uo_ap]
    · simpa [uo_ap] using ok
    · simpa [uo_ap] using a4
    · simpa [uo_ap] using a5
  · simp only [if_neg ok]
    exact ⟨-1, _, _, rfl, rfl, h, eqx_rf _ _ _⟩
set_option maxHeartbeats 1000000 in
theorem st_plan {P0 PR : PI} (h : rOwn P0 PR) (x1 x2 : Int32) : ∃ (r : Int32) (U V : PI), f_One_plan P0 x1 x2 = some (r, U) ∧ f_Ref_plan PR x1 x2 = some (r, V) ∧ rOwn U V ∧ eqx [26] [] PR V := by
  obtain ⟨a1, a2, a3, a4, a5⟩ := id h
  unfold f_One_plan f_Ref_plan
  simp only [wi_c, in_c, bd1s, ifz, lets]
  simp only [tt, Int32.reduceToInt, Int64.reduceToInt]
  by_cases o1 : 0 ≤ x1.toInt ∧ x1.toInt ≤ 9
  · by_cases o2 : 0 ≤ x2.toInt ∧ x2.toInt ≤ 63
    · obtain ⟨f, hf, rfl⟩ := ofI (n := 10) o1.1 (by omega) (by decide)
      simp only [if_pos o1, if_pos o2, chkN hf (by decide), nI_clamp (show f < 2 ^ 31 by omega)]
      refine ⟨P0 12 f, _, _, rfl, by rw [a1 f hf], ⟨fun j hj => ?_, ?_, ?_, ?_, ?_⟩, eqx_u2 (eqx_rf _ _ _) (by decide) (by decide) _ _⟩
      · simp [u2_ap, a1 j hj]
      · simpa [u2_ap] using a2
      · simpa [u2_ap] using a3
      · simpa [u2_ap] using a4
      · simpa [u2_ap] using a5
    · simp only [if_neg o2, if_pos o1]
      exact ⟨-1, _, _, rfl, rfl, h, eqx_rf _ _ _⟩
  · simp only [if_neg o1]
    exact ⟨-1, _, _, rfl, rfl, h, eqx_rf _ _ _⟩
/-- the text as it is written -/
def rScript (P6 PR : PI) : Prop := (∃ c : Nat, c ≤ 300 ∧ P6 0 3 = nI c ∧ PR 0 11 = nI c) ∧ ∀ j, j < 300 → P6 1 j = PR 13 j
theorem st_clear {P6 PR : PI} (h : rScript P6 PR) : ∃ (r : Int32) (U V : PI), f_One_clear P6 = some (r, U) ∧ f_Ref_clear PR = some (r, V) ∧ rScript U V ∧ eqx [] [11] PR V := by
  obtain ⟨⟨c, hc, a1, a2⟩, a3⟩ := id h
  refine ⟨nI c, _, _, by unfold f_One_clear; simp only [lets, a1]; rfl, by unfold f_Ref_clear; simp only [lets, a2]; rfl, ⟨⟨0, by omega, ?_, ?_⟩, fun j hj => ?_⟩, eqx_uo (eqx_rf _ _ _) (by decide) _⟩
  · simp [uo_ap]; rfl
  · simp [uo_ap]; rfl
  · simpa [uo_ap] using a3 j hj
/-! folk -/
def rFolk (t : Nat) (P11 PR : PI) : Prop := ∀ d, d < 6 → P11 1 d = PR 23 (24 * t + 4 * d) ∧ P11 2 d = PR 23 (24 * t + 4 * d + 1) ∧ P11 3 d = PR 23 (24 * t + 4 * d + 2) ∧ P11 4 d = PR 23 (24 * t + 4 * d + 3)
theorem ix4 (f : Nat) : (4 : Int32) * nI f = nI (4 * f) := by
  show nI 4 * nI f = _
  rw [pk_mul]
set_option maxHeartbeats 2000000 in
theorem st_people {P11 PR : PI} (h : rFolk 0 P11 PR) (x1 x2 x3 x4 x5 : Int32) : ∃ (r : Int32) (U V : PI), f_One_people P11 x1 x2 x3 x4 x5 = some (r, U) ∧ f_Ref_people PR x1 x2 x3 x4 x5 = some (r, V) ∧ rFolk 0 U V ∧ eqx [23] [] PR V ∧ ∀ j, 24 ≤ j → V 23 j = PR 23 j := by
  unfold f_One_people f_Ref_people
  simp only [dist_c, wi_c, in_c, bd1s, ifz, lets]
  simp only [tt, Int32.reduceToInt, Int64.reduceToInt]
  by_cases o2 : 0 ≤ x2.toInt ∧ x2.toInt ≤ 100000
  · have e2 : ((100000 : Int32) - x2).toInt = 100000 - x2.toInt := by
      rw [fb_subI] <;> simp only [Int32.reduceToInt] <;> omega
    simp only [e2, if_pos o2]
    by_cases ok : (0 ≤ x1.toInt ∧ x1.toInt ≤ 5) ∧ (0 ≤ x3.toInt ∧ x3.toInt ≤ 100000 - x2.toInt) ∧ (0 ≤ x4.toInt ∧ x4.toInt ≤ 500) ∧ 0 ≤ x5.toInt ∧ x5.toInt ≤ 500
    · obtain ⟨f, hf, rfl⟩ := ofI (n := 6) ok.1.1 (by omega) (by decide)
      have e3 : (x2 + x3).toInt = x2.toInt + x3.toInt := fb_addI (by omega) (by omega)
      simp only [if_pos ok.1, if_pos ok.2.1, if_pos ok.2.2.1, if_pos ok.2.2.2, f_Folk_put, lets, chkN hf (by decide), nI_clamp (show f < 2 ^ 31 by omega), ix4, nI_1, nI_2, nI_3, chkN (show 4 * f < 72 by omega) (by decide), chkN (show 4 * f + 1 < 72 by omega) (by decide), chkN (show 4 * f + 2 < 72 by omega) (by decide), chkN (show 4 * f + 3 < 72 by omega) (by decide), nI_clamp (show 4 * f < 2 ^ 31 by omega), nI_clamp (show 4 * f + 1 < 2 ^ 31 by omega), nI_clamp (show 4 * f + 2 < 2 ^ 31 by omega), nI_clamp (show 4 * f + 3 < 2 ^ 31 by omega), bd1s]
      rw [if_pos (show 0 ≤ x3.toInt ∧ x3.toInt ≤ 100000 by omega), if_pos (Int32.le_iff_toInt_le.mpr (by rw [e3]; simp only [Int32.reduceToInt]; omega))]
      refine ⟨0, _, _, rfl, rfl, fun d hd => ?_, eqx_u2 (eqx_u2 (eqx_u2 (eqx_u2 (eqx_rf _ _ _) (by decide) (by decide) _ _) (by decide) (by decide) _ _) (by decide) (by decide) _ _) (by decide) (by decide) _ _, fun j hj => ?_⟩
      · simp only [u2_ap]
        by_cases e : d = f
        · subst e
          simp
        · have hh := h d hd
          simp [e, show ¬ (4 * d = 4 * f) by omega, show ¬ (4 * d = 4 * f + 1) by omega, show ¬ (4 * d = 4 * f + 2) by omega, show ¬ (4 * d = 4 * f + 3) by omega, show ¬ (4 * d + 1 = 4 * f) by omega, show ¬ (4 * d + 1 = 4 * f + 1) by omega, show ¬ (4 * d + 1 = 4 * f + 2) by omega, show ¬ (4 * d + 1 = 4 * f + 3) by omega, show ¬ (4 * d + 2 = 4 * f) by omega, show ¬ (4 * d + 2 = 4 * f + 1) by omega, show ¬ (4 * d + 2 = 4 * f + 2) by omega, show ¬ (4 * d + 2 = 4 * f + 3) by omega, show ¬ (4 * d + 3 = 4 * f) by omega, show ¬ (4 * d + 3 = 4 * f + 1) by omega, show ¬ (4 * d + 3 = 4 * f + 2) by omega, show ¬ (4 * d + 3 = 4 * f + 3) by omega]
          simpa using hh
      · simp [u2_ap, show ¬ (j = 4 * f) by omega, show ¬ (j = 4 * f + 1) by omega, show ¬ (j = 4 * f + 2) by omega, show ¬ (j = 4 * f + 3) by omega]
    · refine ⟨-1, P11, PR, ?_, ?_, h, eqx_rf _ _ _, fun _ _ => rfl⟩
      · by_cases q : 0 ≤ x3.toInt ∧ x3.toInt ≤ 100000
        · have e3 : (x2 + x3).toInt = x2.toInt + x3.toInt := fb_addI (by omega) (by omega)
          simp only [Int32.le_iff_toInt_le, e3, Int32.reduceToInt]
          (repeat' split) <;> first | rfl | (exfalso; omega)
        · simp only [if_neg q]
          (repeat' split) <;> first | rfl | (exfalso; omega)
      · (repeat' split) <;> first | rfl | (exfalso; omega)
  · simp only [if_neg o2]
    refine ⟨-1, P11, PR, ?_, ?_, h, eqx_rf _ _ _, fun _ _ => rfl⟩ <;> split <;> rfl
