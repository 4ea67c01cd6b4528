def put5 (P : PI) (p k : Nat) (a b c d e : Int32) : PI := mb_u2 (mb_u2 (mb_u2 (mb_u2 (mb_u2 P p k a) p (k + 1) b) p (k + 2) c) p (k + 3) d) p (k + 4) e
theorem put5_o (P : PI) (p k : Nat) (a b c d e : Int32) {q j : Nat} (h : q ≠ p ∨ j < k ∨ k + 4 < j) : put5 P p k a b c d e q j = P q j := by
  unfold put5
  rw [u2_ap, if_neg (by omega), u2_ap, if_neg (by omega), u2_ap, if_neg (by omega), u2_ap, if_neg (by omega), u2_ap, if_neg (by omega)]
theorem put5_0 (P : PI) (p k : Nat) (a b c d e : Int32) : put5 P p k a b c d e p k = a := by
  unfold put5
  rw [u2_ap, if_neg (by omega), u2_ap, if_neg (by omega), u2_ap, if_neg (by omega), u2_ap, if_neg (by omega), u2_ap, if_pos ⟨rfl, rfl⟩]
theorem put5_1 (P : PI) (p k : Nat) (a b c d e : Int32) : put5 P p k a b c d e p (k + 1) = b := by
  unfold put5
  rw [u2_ap, if_neg (by omega), u2_ap, if_neg (by omega), u2_ap, if_neg (by omega), u2_ap, if_pos ⟨rfl, rfl⟩]
theorem put5_2 (P : PI) (p k : Nat) (a b c d e : Int32) : put5 P p k a b c d e p (k + 2) = c := by
  unfold put5
  rw [u2_ap, if_neg (by omega), u2_ap, if_neg (by omega), u2_ap, if_pos ⟨rfl, rfl⟩]
theorem put5_3 (P : PI) (p k : Nat) (a b c d e : Int32) : put5 P p k a b c d e p (k + 3) = d := by
  unfold put5
  rw [u2_ap, if_neg (by omega), u2_ap, if_pos ⟨rfl, rfl⟩]
theorem put5_4 (P : PI) (p k : Nat) (a b c d e : Int32) : put5 P p k a b c d e p (k + 4) = e := by
  unfold put5
  rw [u2_ap, if_pos ⟨rfl, rfl⟩]
theorem eqx_put5 {S T : List Nat} {P V : PI} (h : eqx S T P V) {p : Nat} (hp : p ∈ S) (h0 : p ≠ 0) (k : Nat) (a b c d e : Int32) : eqx S T P (put5 V p k a b c d e) :=
  eqx_u2 (eqx_u2 (eqx_u2 (eqx_u2 (eqx_u2 h hp h0 _ _) hp h0 _ _) hp h0 _ _) hp h0 _ _) hp h0 _ _
/-- five rows of a class, at one place -/
def row5 (P : PI) (k : Nat) (a b c d e : Int32) : PI := mb_u2 (mb_u2 (mb_u2 (mb_u2 (mb_u2 P 1 k a) 2 k b) 3 k c) 4 k d) 5 k e
theorem row5_o (P : PI) (k : Nat) (a b c d e : Int32) {q j : Nat} (h : q = 0 ∨ j ≠ k ∨ 5 < q) : row5 P k a b c d e q j = P q j := by
  unfold row5
  rw [u2_ap, if_neg (by omega), u2_ap, if_neg (by omega), u2_ap, if_neg (by omega), u2_ap, if_neg (by omega), u2_ap, if_neg (by omega)]
theorem row5_1 (P : PI) (k : Nat) (a b c d e : Int32) : row5 P k a b c d e 1 k = a := by
  unfold row5
  rw [u2_ap, if_neg (by omega), u2_ap, if_neg (by omega), u2_ap, if_neg (by omega), u2_ap, if_neg (by omega), u2_ap, if_pos ⟨rfl, rfl⟩]
theorem row5_2 (P : PI) (k : Nat) (a b c d e : Int32) : row5 P k a b c d e 2 k = b := by
  unfold row5
  rw [u2_ap, if_neg (by omega), u2_ap, if_neg (by omega), u2_ap, if_neg (by omega), u2_ap, if_pos ⟨rfl, rfl⟩]
theorem row5_3 (P : PI) (k : Nat) (a b c d e : Int32) : row5 P k a b c d e 3 k = c := by
  unfold row5
  rw [u2_ap, if_neg (by omega), u2_ap, if_neg (by omega), u2_ap, if_pos ⟨rfl, rfl⟩]
theorem row5_4 (P : PI) (k : Nat) (a b c d e : Int32) : row5 P k a b c d e 4 k = d := by
  unfold row5
  rw [u2_ap, if_neg (by omega), u2_ap, if_pos ⟨rfl, rfl⟩]
theorem row5_5 (P : PI) (k : Nat) (a b c d e : Int32) : row5 P k a b c d e 5 k = e := by
  unfold row5
  rw [u2_ap, if_pos ⟨rfl, rfl⟩]
theorem ixm (a b : Nat) {x : Int32} (h : x = nI a) : x * nI b = nI (a * b) := by rw [h, pk_mul]
theorem ne_nI {a b : Nat} (ha : a < 2 ^ 31) (hb : b < 2 ^ 31) (h : a ≠ b) {y : Int32} (hy : y = nI b) : ¬ nI a = y := fun e => h ((nI_eq ha hb).mp (e.trans hy))
theorem lt_nI {a b : Nat} (h : a < b) (hb : b < 2 ^ 31) {y : Int32} (hy : y = nI b) : nI a < y := by rw [hy]; exact nI_lt h hb
theorem nlt_nI {a b : Nat} (h : b ≤ a) (ha : a < 2 ^ 31) {y : Int32} (hy : y = nI b) : ¬ nI a < y := by rw [hy]; exact nI_nlt h ha
/-! chains -/
def rGround (P4 PR : PI) (LR : PL) : Prop := ∃ c : Nat, c ≤ 12 ∧ P4 0 3 = nI c ∧ PR 0 5 = nI c ∧ ∀ j, j < c → P4 1 j = PR 7 j ∧ (P4 2 j).toInt64 = LR 8 j ∧ (P4 3 j).toInt64 = LR 9 j ∧ (0 ≤ (P4 1 j).toInt ∧ (P4 1 j).toInt ≤ 1) ∧ (1 ≤ (P4 2 j).toInt ∧ (P4 2 j).toInt ≤ 1000000) ∧ 1 ≤ (P4 3 j).toInt ∧ (P4 3 j).toInt ≤ 1000
set_option maxHeartbeats 2000000 in
theorem st_chain {P4 PR : PI} {LR : PL} (h : rGround P4 PR LR) (x1 x2 x3 : Int32) : ∃ (r : Int32) (U V : PI) (LV : PL), f_One_chain P4 x1 x2 x3 = some (r, U) ∧ f_Ref_chain PR LR x1 x2 x3 = some (r, V, LV) ∧ rGround U V LV ∧ eqx [7] [5] PR V ∧ eqL [8, 9] [] LR LV := by
  obtain ⟨c, hc, h1, h2, h3⟩ := id h
  unfold f_One_chain f_Ref_chain
  simp only [wi_c, in_c, bd1s, ifz]
  simp only [tt, Int32.reduceToInt, Int64.reduceToInt]
  by_cases ok : (0 ≤ x1.toInt ∧ x1.toInt ≤ 1) ∧ (1 ≤ x2.toInt ∧ x2.toInt ≤ 1000000) ∧ 1 ≤ x3.toInt ∧ x3.toInt ≤ 1000
  · simp only [if_pos ok.1, if_pos ok.2.1, if_pos ok.2.2, h1, h2]
    by_cases hf : c < 12
    · rw [if_pos (lt_nI (y := 12) hf (by decide) rfl), if_neg (ne_nI (y := 12) (by omega) (by decide) (show c ≠ 12 by omega) rfl)]
      simp only [f_Ground_add, lets, h1, h2, u2_ap, chkN hf (by decide), nI_clamp (show c < 2 ^ 31 by omega), Nat.reduceEqDiff, false_and, if_false, bd2s, uo_ap, and_self, if_true, nI_1]
      refine ⟨nI (c + 1), _, _, _, rfl, rfl, ⟨c + 1, by omega, by simp [uo_ap], by simp [uo_ap], fun j hj => ?_⟩, eqx_uo (eqx_u2 (eqx_rf _ _ _) (by decide) (by decide) _ _) (by decide) _, eqL_u2 (eqL_u2 (eqL_rf _ _ _) (by decide) (by decide) _ _) (by decide) (by decide) _ _⟩
      by_cases e : j = c
      · subst e
        simp [uo_ap, u2_ap, u2L_ap]
        omega
      · have hh := h3 j (by omega)
        simpa [uo_ap, u2_ap, u2L_ap, e] using hh
    · have e12 : c = 12 := by omega
      subst e12
      exact ⟨-3, P4, PR, LR, by rw [if_neg (by decide)], by rw [if_pos (by decide)], h, eqx_rf _ _ _, eqL_rf _ _ _⟩
  · refine ⟨-1, P4, PR, LR, ?_, ?_, h, eqx_rf _ _ _, eqL_rf _ _ _⟩
    · (repeat' split) <;> first | rfl | (exfalso; omega)
    · (repeat' split) <;> first | rfl | (exfalso; omega)
/-! trials -/
def tvOk (x y e : Int32) : Prop := (1 ≤ x.toInt ∧ x.toInt ≤ 10000) ∧ (1 ≤ y.toInt ∧ y.toInt ≤ 10000) ∧ 0 ≤ e.toInt ∧ e.toInt ≤ 1000000
def rTrials (P5 PR : PI) : Prop := ∃ c : Nat, c ≤ 30 ∧ P5 0 5 = nI c ∧ PR 0 9 = nI c ∧ ∀ j, j < c → P5 1 j = PR 11 (5 * j) ∧ P5 2 j = PR 11 (5 * j + 1) ∧ P5 3 j = PR 11 (5 * j + 2) ∧ P5 4 j = PR 11 (5 * j + 3) ∧ P5 5 j = PR 11 (5 * j + 4) ∧ tvOk (P5 3 j) (P5 4 j) (P5 5 j)
theorem tadd_c {c : Nat} {P : PI} (hc : c < 30) (h : P 0 5 = nI c) (a b x y e : Int32) : f_Trials_add P a b x y e = some (nI (c + 1), mb_uo (row5 P c a b x y e) 5 (nI (c + 1))) := by
  unfold f_Trials_add row5
  simp only [lets, h, u2_ap, chkN hc (by decide), nI_clamp (show c < 2 ^ 31 by omega), Nat.reduceEqDiff, false_and, if_false, uo_ap, and_self, if_true, nI_1]
set_option maxHeartbeats 2000000 in
theorem st_trial {n : Nat} {P1 P5 PR : PI} (hu : rUnits n P1 PR) (h : rTrials P5 PR) (x1 x2 x3 x4 x5 : Int32) : ∃ (r : Int32) (U V : PI), f_One_trial P1 P5 x1 x2 x3 x4 x5 = some (r, U) ∧ f_Ref_trial PR x1 x2 x3 x4 x5 = some (r, V) ∧ rTrials U V ∧ eqx [11] [9] PR V := by
  obtain ⟨hn, u1, u2, u3, -⟩ := id hu
  obtain ⟨c, hc, h1, h2, h3⟩ := id h
  have k1 : (P1 0 3).toInt = (n : Int) := by rw [u1]; exact nI_toInt (by omega)
  unfold f_One_trial f_Ref_trial
  simp only [told_c, wi_c, in_c, isU_c PR _ hn u2, bd1s, ifz]
  simp only [k1, tt, Int32.reduceToInt, Int64.reduceToInt]
  by_cases ok : (0 ≤ x1.toInt ∧ x1.toInt < n) ∧ (0 ≤ x2.toInt ∧ x2.toInt < n) ∧ (1 ≤ x3.toInt ∧ x3.toInt ≤ 10000) ∧ (1 ≤ x4.toInt ∧ x4.toInt ≤ 10000) ∧ 0 ≤ x5.toInt ∧ x5.toInt ≤ 1000000
  · obtain ⟨f, hf, rfl⟩ := ofI ok.1.1 ok.1.2 (by omega)
    obtain ⟨t, ht, rfl⟩ := ofI ok.2.1.1 ok.2.1.2 (by omega)
    simp only [if_pos ok.1, if_pos ok.2.1, if_pos ok.2.2.1, if_pos ok.2.2.2.1, if_pos ok.2.2.2.2]
    by_cases he : nI f = nI t
    · simp only [if_pos he]
      exact ⟨-2, _, _, rfl, rfl, h, eqx_rf _ _ _⟩
    · simp only [if_neg he, alike_c (P1 := P1) (show f < 16 by omega) (show t < 16 by omega), bd1s, ifz, chkN (show f < 16 by omega) (by decide), chkN (show t < 16 by omega) (by decide), nI_clamp (show f < 2 ^ 31 by omega), nI_clamp (show t < 2 ^ 31 by omega), (u3 f (by omega)).1, (u3 t (by omega)).1, h1, h2]
      by_cases hs : PR 2 f = PR 2 t
      · simp only [if_pos hs]
        by_cases hl : c < 30
        · rw [if_pos (lt_nI (y := 30) hl (by decide) rfl), if_neg (ne_nI (y := 30) (by omega) (by decide) (show c ≠ 30 by omega) rfl), tadd_c hl h1]
          simp only [bd2s, lets, ixm 5 c (x := 5) rfl, nI_1, nI_2, nI_3, nI_4, chkN (show 5 * c < 150 by omega) (by decide), chkN (show 5 * c + 1 < 150 by omega) (by decide), chkN (show 5 * c + 2 < 150 by omega) (by decide), chkN (show 5 * c + 3 < 150 by omega) (by decide), chkN (show 5 * c + 4 < 150 by omega) (by decide), nI_clamp (show 5 * c < 2 ^ 31 by omega), nI_clamp (show 5 * c + 1 < 2 ^ 31 by omega), nI_clamp (show 5 * c + 2 < 2 ^ 31 by omega), nI_clamp (show 5 * c + 3 < 2 ^ 31 by omega), nI_clamp (show 5 * c + 4 < 2 ^ 31 by omega)]
          have ev : (mb_u2 (mb_u2 (mb_u2 (mb_u2 (mb_u2 PR 11 (5 * c) (nI f)) 11 (5 * c + 1) (nI t)) 11 (5 * c + 2) x3) 11 (5 * c + 3) x4) 11 (5 * c + 4) x5) = put5 PR 11 (5 * c) (nI f) (nI t) x3 x4 x5 := rfl
          rw [ev, put5_o PR 11 (5 * c) _ _ _ _ _ (q := 0) (j := 9) (Or.inl (by decide)), h2, nI_1]
          refine ⟨nI (c + 1), _, mb_uo (put5 PR 11 (5 * c) (nI f) (nI t) x3 x4 x5) 9 (nI (c + 1)), rfl, by rw [uo_ap, if_pos ⟨rfl, rfl⟩], ⟨c + 1, by omega, by simp [uo_ap], by simp [uo_ap], fun j hj => ?_⟩, eqx_uo (eqx_put5 (eqx_rf _ _ _) (by decide) (by decide) _ _ _ _ _ _) (by decide) _⟩
          simp only [uo_ap, Nat.reduceEqDiff, false_and, if_false, show ¬ ((11 : Nat) = 0) by decide, show ¬ ((1 : Nat) = 0) by decide, show ¬ ((2 : Nat) = 0) by decide, show ¬ ((3 : Nat) = 0) by decide, show ¬ ((4 : Nat) = 0) by decide, show ¬ ((5 : Nat) = 0) by decide]
          by_cases e : j = c
          · subst e
            rw [row5_1, row5_2, row5_3, row5_4, row5_5, put5_0, put5_1, put5_2, put5_3, put5_4]
            exact ⟨rfl, rfl, rfl, rfl, rfl, ok.2.2⟩
          · have hh := h3 j (by omega)
            rw [row5_o P5 c _ _ _ _ _ (q := 1) (j := j) (Or.inr (Or.inl e)), row5_o P5 c _ _ _ _ _ (q := 2) (j := j) (Or.inr (Or.inl e)), row5_o P5 c _ _ _ _ _ (q := 3) (j := j) (Or.inr (Or.inl e)), row5_o P5 c _ _ _ _ _ (q := 4) (j := j) (Or.inr (Or.inl e)), row5_o P5 c _ _ _ _ _ (q := 5) (j := j) (Or.inr (Or.inl e)), put5_o PR 11 (5 * c) _ _ _ _ _ (j := 5 * j) (Or.inr (by omega)), put5_o PR 11 (5 * c) _ _ _ _ _ (j := 5 * j + 1) (Or.inr (by omega)), put5_o PR 11 (5 * c) _ _ _ _ _ (j := 5 * j + 2) (Or.inr (by omega)), put5_o PR 11 (5 * c) _ _ _ _ _ (j := 5 * j + 3) (Or.inr (by omega)), put5_o PR 11 (5 * c) _ _ _ _ _ (j := 5 * j + 4) (Or.inr (by omega))]
            exact hh
        · have e30 : c = 30 := by omega
          subst e30
          exact ⟨-3, _, _, by rw [if_neg (by decide)], by rw [if_pos (by decide)], h, eqx_rf _ _ _⟩
      · simp only [if_neg hs]
        exact ⟨-2, _, _, rfl, rfl, h, eqx_rf _ _ _⟩
  · refine ⟨-1, P5, PR, ?_, ?_, h, eqx_rf _ _ _⟩
    · (repeat' split) <;> first | rfl | (exfalso; omega)
    · (repeat' split) <;> first | rfl | (exfalso; omega)
