set_option maxHeartbeats 1000000 in
theorem cu_l {c : Nat} {P7 PR : PI} (h : rDecN c P7 PR) (d day : Int32) : ∀ (r k n : Nat), k + r = c → r < n → f_Ref_custom_6 PR d day n (lst (bH P7 d day) (P7 3) (-4) k) (nI k) = some (lst (bH P7 d day) (P7 3) (-4) c) := by
  have hc := h.1
  intro r
  induction r with
  | zero =>
    intro k n e hn
    obtain ⟨n, rfl⟩ : ∃ m, n = m + 1 := ⟨n - 1, by omega⟩
    have ek : k = c := by omega
    subst ek
    show f_Ref_custom_6_b _ _ _ _ _ _ = _
    unfold f_Ref_custom_6_b
    rw [one2, cl1, h.2.2.1, if_pos (nI_le (Nat.le_refl _) (by omega))]
  | succ r ih =>
    intro k n e hn
    obtain ⟨n, rfl⟩ : ∃ m, n = m + 1 := ⟨n - 1, by omega⟩
    have i1 := ih (k + 1) n (by omega) (by omega)
    have e3 := (h.2.2.2 k (by omega)).2.2.1
    show f_Ref_custom_6_b _ _ _ (f_Ref_custom_6 PR d day n) _ _ = _
    unfold f_Ref_custom_6_b
    rw [one2, cl1, h.2.2.1, if_neg (nI_ge (by omega) (by omega))]
    simp only [letsN, jnsN, ix5, nI_1, nI_2, nI_3, nI_4, chkN (show 300 + 5 * k < 600 by omega) (by decide), chkN (show 300 + 5 * k + 1 < 600 by omega) (by decide), chkN (show 300 + 5 * k + 2 < 600 by omega) (by decide), chkN (show 300 + 5 * k + 3 < 600 by omega) (by decide), chkN (show 300 + 5 * k + 4 < 600 by omega) (by decide), nI_clamp (show 300 + 5 * k < 2 ^ 31 by omega), nI_clamp (show 300 + 5 * k + 1 < 2 ^ 31 by omega), nI_clamp (show 300 + 5 * k + 2 < 2 ^ 31 by omega), nI_clamp (show 300 + 5 * k + 3 < 2 ^ 31 by omega), nI_clamp (show 300 + 5 * k + 4 < 2 ^ 31 by omega), in_c, bd1s, ifz, tt, ← e3]
    simp only [lst] at i1
    rw [← bHR_eq h d day (show k < c by omega)] at i1
    by_cases hb : bHR PR d day k = true
    · rw [if_pos hb] at i1
      unfold bHR at hb
      rw [decide_eq_true_eq] at hb
      rw [if_pos hb.1, if_pos hb.2.1, if_pos hb.2.2]
      exact i1
    · rw [if_neg hb] at i1
      rw [Bool.not_eq_true] at hb
      unfold bHR at hb
      rw [decide_eq_false_iff_not] at hb
      by_cases a1 : PR 15 (300 + 5 * k) = 104
      · rw [if_pos a1]
        by_cases a2 : PR 15 (300 + 5 * k + 1) = d
        · rw [if_pos a2, if_neg (fun z => hb ⟨a1, a2, z⟩)]
          exact i1
        · rw [if_neg a2]; exact i1
      · rw [if_neg a1]; exact i1
theorem cu_c {c : Nat} {P7 PR : PI} (h : rDecN c P7 PR) (d day : Int32) : f_Ref_custom PR d day = some (lst (bH P7 d day) (P7 3) (-4) c) := by
  unfold f_Ref_custom
  rw [letsN, letsN]
  have := cu_l h d day c 0 mb_fu (by omega) (fu_lt (by have := h.1; omega))
  rw [nI_0] at this
  exact this
/-- the least and the most so far, in the class and in the reference -/
def oI (P8 : PI) (L8 LR : PL) : Prop := (P8 0 8 = 0 ∧ LR 0 34 = -1 ∧ LR 0 35 = -1) ∨ (P8 0 8 = 1 ∧ L8 0 6 = LR 0 34 ∧ L8 0 7 = LR 0 35 ∧ 0 ≤ (LR 0 34).toInt ∧ 0 ≤ (LR 0 35).toInt)
def rst (LR : PL) (v : Int64) : PL := mb_uoL (mb_uoL LR 34 (if (LR 0 34).toInt < 0 then v else if (LR 0 34).toInt ≤ v.toInt then LR 0 34 else v)) 35 (if v.toInt ≤ (LR 0 35).toInt then LR 0 35 else v)
theorem rst34 (LR : PL) (v : Int64) : rst LR v 0 34 = (if (LR 0 34).toInt < 0 then v else if (LR 0 34).toInt ≤ v.toInt then LR 0 34 else v) := by
  unfold rst
  rw [uoL_ap, if_neg (by decide), uoL_ap, if_pos ⟨rfl, rfl⟩]
theorem rst35 (LR : PL) (v : Int64) : rst LR v 0 35 = (if v.toInt ≤ (LR 0 35).toInt then LR 0 35 else v) := by
  unfold rst
  rw [uoL_ap, if_pos ⟨rfl, rfl⟩]
theorem rst_eq (LR : PL) (v : Int64) : eqL [] [34, 35] LR (rst LR v) := eqL_uo (eqL_uo (eqL_rf _ _ _) (by decide) _) (by decide) _
theorem cons_ok {P8 : PI} {L8 LR : PL} (h : oI P8 L8 LR) {v : Int64} (hv : 0 ≤ v.toInt) : ∃ M : PL, f_Papers_consider P8 L8 v = some (mb_uo P8 8 1, M) ∧ oI (mb_uo P8 8 1) M (rst LR v) := by
  unfold f_Papers_consider
  simp only [letsN, jnsN]
  have s6 : ∀ (L : PL) (y : Int64), (mb_uoL L 6 y) 0 7 = L 0 7 := fun L y => by rw [uoL_ap, if_neg (by decide)]
  rcases h with ⟨h1, h2, h3⟩ | ⟨h1, h2, h3, h4, h5⟩
  · rw [if_pos h1, if_pos h1]
    refine ⟨_, rfl, Or.inr ⟨by rw [uo_ap, if_pos ⟨rfl, rfl⟩], ?_, ?_, ?_, ?_⟩⟩
    · rw [rst34, h2, if_pos (by decide), uoL_ap, if_neg (by decide), uoL_ap, if_pos ⟨rfl, rfl⟩]
    · rw [rst35, h3, if_neg (by simp; omega), uoL_ap, if_pos ⟨rfl, rfl⟩]
    · rw [rst34, h2, if_pos (by decide)]; exact hv
    · rw [rst35, h3, if_neg (by simp; omega)]; exact hv
  · have n0 : ¬ P8 0 8 = 0 := by rw [h1]; decide
    rw [if_neg n0, if_neg n0]
    simp only [s6, Int64.lt_iff_toInt_lt, h2, h3]
    refine ⟨_, rfl, Or.inr ⟨by rw [uo_ap, if_pos ⟨rfl, rfl⟩], ?_, ?_, ?_, ?_⟩⟩
    · rw [rst34, if_neg (show ¬ (LR 0 34).toInt < 0 by omega), uoL_ap, if_neg (by decide), uoL_ap, if_pos ⟨rfl, rfl⟩]
      by_cases q : v.toInt < (LR 0 34).toInt
      · rw [if_pos q, if_neg (by omega)]
      · rw [if_neg q, if_pos (by omega)]
    · rw [rst35, uoL_ap, if_pos ⟨rfl, rfl⟩]
      by_cases q : v.toInt < (LR 0 35).toInt
      · rw [if_pos q, if_pos (by omega)]
      · rw [if_neg q]
        by_cases q2 : v.toInt ≤ (LR 0 35).toInt
        · rw [if_pos q2]
          exact Int64.toInt_inj.mp (by omega)
        · rw [if_neg q2]
    · rw [rst34, if_neg (by omega)]
      split
      · exact h4
      · exact hv
    · rw [rst35]
      split
      · exact h5
      · exact hv
