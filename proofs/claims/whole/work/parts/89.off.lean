/-! rods in their weeks -/
def offv (o w x : Int32) : Int32 := if (-500 : Int32) ≤ o - w * x then o - w * x else -500
def absv (r : Int32) : Int32 := if 0 ≤ r then r else -r
theorem offC {P : PI} {j : Nat} (hj : j < 12) (x : Int32) : f_Rods_offAfter P (nI j) x = some (offv (P 5 j) (P 6 j) x) := by
  unfold f_Rods_offAfter
  simp only [chkN hj (by decide), nI_clamp (show j < 2 ^ 31 by omega), letsN]
  unfold offv
  generalize P 5 j - P 6 j * x = v
  by_cases h : (-500 : Int32) < v
  · rw [if_pos h, if_pos (Int32.le_iff_toInt_le.mpr (by have := Int32.lt_iff_toInt_lt.mp h; omega))]
  · rw [if_neg h]
    by_cases h2 : (-500 : Int32) ≤ v
    · rw [if_pos h2]
      congr 1
      apply Int32.toInt_inj.mp
      have a := Int32.le_iff_toInt_le.mp h2
      have b : ¬ (-500 : Int32).toInt < v.toInt := fun q => h (Int32.lt_iff_toInt_lt.mpr q)
      omega
    · rw [if_neg h2]
theorem offR {PR : PI} {k : Nat} (hk : k + 3 < 288) (x : Int32) : f_Ref_offAt PR (nI k) x = some (offv (PR 19 (k + 2)) (PR 19 (k + 3)) x) := by
  unfold f_Ref_offAt
  simp only [nI_2, nI_3, chkN (show k + 2 < 288 by omega) (by decide), chkN hk (by decide), nI_clamp (show k + 2 < 2 ^ 31 by omega), nI_clamp (show k + 3 < 2 ^ 31 by omega), letsN]
  unfold offv
  split <;> rfl
theorem absR (r : Int32) : f_Ref_abs r = some (absv r) := by
  unfold f_Ref_abs absv
  split <;> rfl
theorem absC (r : Int32) : (if 0 ≤ r then r else 0 - r) = absv r := by
  unfold absv
  rw [Int32.zero_sub]
theorem off_rng {o w x : Int32} {t : Nat} (ho : -200 ≤ o.toInt ∧ o.toInt ≤ 200) (hw : 0 ≤ w.toInt ∧ w.toInt ≤ 20) (hx : x = nI t) (ht : t ≤ 300) : -500 ≤ (offv o w x).toInt ∧ (offv o w x).toInt ≤ 200 := by
  have ex : x.toInt = (t : Int) := by rw [hx]; exact nI_toInt (by omega)
  have m0 : 0 ≤ w.toInt * x.toInt := Int.mul_nonneg hw.1 (by omega)
  have m1 : w.toInt * x.toInt ≤ 20 * 300 := Int.mul_le_mul hw.2 (by omega) (by omega) (by omega)
  have em : (w * x).toInt = w.toInt * x.toInt := fb_mulI (by omega) (by omega)
  have es : (o - w * x).toInt = o.toInt - w.toInt * x.toInt := by rw [fb_subI (by rw [em]; omega) (by rw [em]; omega), em]
  unfold offv
  split
  · rename_i h
    have := Int32.le_iff_toInt_le.mp h
    rw [es] at this ⊢
    have e5 : (-500 : Int32).toInt = -500 := rfl
    omega
  · exact ⟨by decide, by decide⟩
theorem forf_ok {cc j k : Nat} {P7 PR P9 : PI} (hd : rDecN cc P7 PR) (hj : j < 12) (hk : k + 7 < 288) (e0 : P9 3 j = PR 19 k) (e1 : P9 4 j = PR 19 (k + 1)) (e2 : P9 5 j = PR 19 (k + 2)) (e3 : P9 6 j = PR 19 (k + 3)) (x wk : Int32) : ∃ b : Bool, f_Rods_isForfeit P9 P7 (nI j) x wk (PR 0 24) = some (if b = true then 1 else 0) ∧ f_Ref_isFalse PR (nI k) x wk = some (if b = true then 1 else 0) := by
  obtain ⟨b, l1, l2⟩ := lets_ok hd (P9 3 j) (P9 4 j) (7 * wk)
  unfold f_Rods_isForfeit f_Ref_isFalse
  rw [offC hj, offR (by omega), ← e2, ← e3]
  simp only [bd1s, letsN, absC, absR, nI_1, chkN hj (by decide), chkN (show k < 288 by omega) (by decide), chkN (show k + 1 < 288 by omega) (by decide), nI_clamp (show j < 2 ^ 31 by omega), nI_clamp (show k < 2 ^ 31 by omega), nI_clamp (show k + 1 < 2 ^ 31 by omega)]
  rw [← e0, ← e1, l1, l2]
  simp only [bd1s, ifz]
  by_cases h : absv (offv (P9 5 j) (P9 6 j) x) ≤ PR 0 24
  · have h2 : ¬ PR 0 24 < absv (offv (P9 5 j) (P9 6 j) x) := fun q => by
      have a := Int32.le_iff_toInt_le.mp h
      have c := Int32.lt_iff_toInt_lt.mp q
      omega
    rw [if_pos h, if_neg h2]
    cases b
    · exact ⟨true, rfl, rfl⟩
    · exact ⟨false, rfl, rfl⟩
  · have h2 : PR 0 24 < absv (offv (P9 5 j) (P9 6 j) x) := Int32.lt_iff_toInt_lt.mpr (by
      have a : ¬ (absv (offv (P9 5 j) (P9 6 j) x)).toInt ≤ (PR 0 24).toInt := fun q => h (Int32.le_iff_toInt_le.mpr q)
      omega)
    rw [if_neg h, if_pos h2]
    exact ⟨true, rfl, rfl⟩
theorem negL {x : Int64} (h : x.toInt ≠ -9223372036854775808) : (-x).toInt = -x.toInt := by
  have := fb_rngL x
  rw [Int64.toInt_neg, fb_bmodL (by omega) (by omega)]
theorem tdv (x : Int64) : (x / 1000).toInt = x.toInt.tdiv 1000 := Int64.toInt_div_of_ne_right x 1000 (by decide)
/-- what a rod's sales do -/
theorem short_v {A : Int64} {r : Int32} (hA : 0 ≤ A.toInt ∧ A.toInt ≤ 1000000000) (hr : -500 ≤ r.toInt ∧ r.toInt ≤ 200) : (0 ≤ r.toInt → A * (-r).toInt64 / 1000 = -(A * r.toInt64 / 1000)) ∧ (0 ≤ r.toInt → 0 ≤ (A * r.toInt64 / 1000).toInt) ∧ (r.toInt ≤ 0 → 0 ≤ (A * (-r).toInt64 / 1000).toInt) ∧ (A * r.toInt64 / 1000).toInt ≤ 1000000000000 := by
  have en : (-r).toInt = -r.toInt := fb_negI (by omega)
  have m1 : ∀ z : Int, -500 ≤ z → z ≤ 500 → -500000000000 ≤ A.toInt * z ∧ A.toInt * z ≤ 500000000000 := by
    intro z h1 h2
    have a1 : A.toInt * z ≤ A.toInt * 500 := Int.mul_le_mul_of_nonneg_left h2 hA.1
    have a2 : A.toInt * (-500) ≤ A.toInt * z := Int.mul_le_mul_of_nonneg_left h1 hA.1
    omega
  have b1 := m1 r.toInt hr.1 (by omega)
  have b2 := m1 (-r.toInt) (by omega) (by omega)
  have e1 : (A * r.toInt64).toInt = A.toInt * r.toInt := by rw [fb_mulL (by rw [tt]; omega) (by rw [tt]; omega), tt]
  have e2 : (A * (-r).toInt64).toInt = A.toInt * -r.toInt := by rw [fb_mulL (by rw [tt, en]; omega) (by rw [tt, en]; omega), tt, en]
  have d1 : (A * r.toInt64 / 1000).toInt = (A.toInt * r.toInt).tdiv 1000 := by rw [tdv, e1]
  have d2 : (A * (-r).toInt64 / 1000).toInt = -(A.toInt * r.toInt).tdiv 1000 := by rw [tdv, e2, Int.mul_neg, Int.neg_tdiv]
  have d3 : -1000000000000 ≤ (A.toInt * r.toInt).tdiv 1000 ∧ (A.toInt * r.toInt).tdiv 1000 ≤ 1000000000000 := by
    have := Int.mul_tdiv_add_tmod (A.toInt * r.toInt) 1000
    have q1 := Int.tmod_lt_of_pos (A.toInt * r.toInt) (b := 1000) (by decide)
    have q2 := Int.lt_tmod_of_pos (A.toInt * r.toInt) (b := 1000) (by decide)
    omega
  refine ⟨fun _ => ?_, fun h => ?_, fun h => ?_, by rw [d1]; omega⟩
  · apply Int64.toInt_inj.mp
    rw [d2, negL (by rw [d1]; omega), d1]
  · rw [d1]
    exact Int.tdiv_nonneg (Int.mul_nonneg hA.1 h) (by decide)
  · rw [d2, ← Int.neg_tdiv, ← Int.mul_neg]
    exact Int.tdiv_nonneg (Int.mul_nonneg hA.1 (by omega)) (by decide)
