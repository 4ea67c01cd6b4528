def put8 (P : PI) (p k : Nat) (a b c d e f g h : Int32) : PI := mb_u2 (mb_u2 (mb_u2 (mb_u2 (mb_u2 (mb_u2 (mb_u2 (mb_u2 P p k a) p (k + 1) b) p (k + 2) c) p (k + 3) d) p (k + 4) e) p (k + 5) f) p (k + 6) g) p (k + 7) h
theorem put8_o (P : PI) (p k : Nat) (a b c d e f g h : Int32) {q j : Nat} (H : q ≠ p ∨ j < k ∨ k + 7 < j) : put8 P p k a b c d e f g h q j = P q j := by
  unfold put8
  rw [u2_ap, if_neg (by omega), u2_ap, if_neg (by omega), u2_ap, if_neg (by omega), u2_ap, if_neg (by omega), u2_ap, if_neg (by omega), u2_ap, if_neg (by omega), u2_ap, if_neg (by omega), u2_ap, if_neg (by omega)]
theorem put8_0 (P : PI) (p k : Nat) (a b c d e f g h : Int32) : put8 P p k a b c d e f g h p k = a := by
  unfold put8
  rw [u2_ap, if_neg (by omega), u2_ap, if_neg (by omega), u2_ap, if_neg (by omega), u2_ap, if_neg (by omega), u2_ap, if_neg (by omega), u2_ap, if_neg (by omega), u2_ap, if_neg (by omega), u2_ap, if_pos ⟨rfl, rfl⟩]
theorem put8_1 (P : PI) (p k : Nat) (a b c d e f g h : Int32) : put8 P p k a b c d e f g h p (k + 1) = b := by
  unfold put8
  rw [u2_ap, if_neg (by omega), u2_ap, if_neg (by omega), u2_ap, if_neg (by omega), u2_ap, if_neg (by omega), u2_ap, if_neg (by omega), u2_ap, if_neg (by omega), u2_ap, if_pos ⟨rfl, rfl⟩]
theorem put8_2 (P : PI) (p k : Nat) (a b c d e f g h : Int32) : put8 P p k a b c d e f g h p (k + 2) = c := by
  unfold put8
  rw [u2_ap, if_neg (by omega), u2_ap, if_neg (by omega), u2_ap, if_neg (by omega), u2_ap, if_neg (by omega), u2_ap, if_neg (by omega), u2_ap, if_pos ⟨rfl, rfl⟩]
theorem put8_3 (P : PI) (p k : Nat) (a b c d e f g h : Int32) : put8 P p k a b c d e f g h p (k + 3) = d := by
  unfold put8
  rw [u2_ap, if_neg (by omega), u2_ap, if_neg (by omega), u2_ap, if_neg (by omega), u2_ap, if_neg (by omega), u2_ap, if_pos ⟨rfl, rfl⟩]
theorem put8_4 (P : PI) (p k : Nat) (a b c d e f g h : Int32) : put8 P p k a b c d e f g h p (k + 4) = e := by
  unfold put8
  rw [u2_ap, if_neg (by omega), u2_ap, if_neg (by omega), u2_ap, if_neg (by omega), u2_ap, if_pos ⟨rfl, rfl⟩]
theorem put8_5 (P : PI) (p k : Nat) (a b c d e f g h : Int32) : put8 P p k a b c d e f g h p (k + 5) = f := by
  unfold put8
  rw [u2_ap, if_neg (by omega), u2_ap, if_neg (by omega), u2_ap, if_pos ⟨rfl, rfl⟩]
theorem put8_6 (P : PI) (p k : Nat) (a b c d e f g h : Int32) : put8 P p k a b c d e f g h p (k + 6) = g := by
  unfold put8
  rw [u2_ap, if_neg (by omega), u2_ap, if_pos ⟨rfl, rfl⟩]
theorem put8_7 (P : PI) (p k : Nat) (a b c d e f g h : Int32) : put8 P p k a b c d e f g h p (k + 7) = h := by
  unfold put8
  rw [u2_ap, if_pos ⟨rfl, rfl⟩]
theorem eqx_put8 {S T : List Nat} {P V : PI} (H : eqx S T P V) {p : Nat} (hp : p ∈ S) (h0 : p ≠ 0) (k : Nat) (a b c d e f g h : Int32) : eqx S T P (put8 V p k a b c d e f g h) :=
  eqx_u2 (eqx_u2 (eqx_u2 (eqx_u2 (eqx_u2 (eqx_u2 (eqx_u2 (eqx_u2 H hp h0 _ _) hp h0 _ _) hp h0 _ _) hp h0 _ _) hp h0 _ _) hp h0 _ _) hp h0 _ _) hp h0 _ _
def row9 (P : PI) (k : Nat) (a b c d e f g h i : Int32) : PI := mb_u2 (mb_u2 (mb_u2 (mb_u2 (mb_u2 (mb_u2 (mb_u2 (mb_u2 (mb_u2 P 3 k a) 4 k b) 5 k c) 6 k d) 7 k e) 8 k f) 9 k g) 10 k h) 11 k i
theorem row9_o (P : PI) (k : Nat) (a b c d e f g h i : Int32) {q j : Nat} (H : q < 3 ∨ j ≠ k ∨ 11 < q) : row9 P k a b c d e f g h i q j = P q j := by
  unfold row9
  rw [u2_ap, if_neg (by omega), u2_ap, if_neg (by omega), u2_ap, if_neg (by omega), u2_ap, if_neg (by omega), u2_ap, if_neg (by omega), u2_ap, if_neg (by omega), u2_ap, if_neg (by omega), u2_ap, if_neg (by omega), u2_ap, if_neg (by omega)]
theorem row9_3 (P : PI) (k : Nat) (a b c d e f g h i : Int32) : row9 P k a b c d e f g h i 3 k = a := by
  unfold row9
  rw [u2_ap, if_neg (by omega), u2_ap, if_neg (by omega), u2_ap, if_neg (by omega), u2_ap, if_neg (by omega), u2_ap, if_neg (by omega), u2_ap, if_neg (by omega), u2_ap, if_neg (by omega), u2_ap, if_neg (by omega), u2_ap, if_pos ⟨rfl, rfl⟩]
theorem row9_4 (P : PI) (k : Nat) (a b c d e f g h i : Int32) : row9 P k a b c d e f g h i 4 k = b := by
  unfold row9
  rw [u2_ap, if_neg (by omega), u2_ap, if_neg (by omega), u2_ap, if_neg (by omega), u2_ap, if_neg (by omega), u2_ap, if_neg (by omega), u2_ap, if_neg (by omega), u2_ap, if_neg (by omega), u2_ap, if_pos ⟨rfl, rfl⟩]
theorem row9_5 (P : PI) (k : Nat) (a b c d e f g h i : Int32) : row9 P k a b c d e f g h i 5 k = c := by
  unfold row9
  rw [u2_ap, if_neg (by omega), u2_ap, if_neg (by omega), u2_ap, if_neg (by omega), u2_ap, if_neg (by omega), u2_ap, if_neg (by omega), u2_ap, if_neg (by omega), u2_ap, if_pos ⟨rfl, rfl⟩]
theorem row9_6 (P : PI) (k : Nat) (a b c d e f g h i : Int32) : row9 P k a b c d e f g h i 6 k = d := by
  unfold row9
  rw [u2_ap, if_neg (by omega), u2_ap, if_neg (by omega), u2_ap, if_neg (by omega), u2_ap, if_neg (by omega), u2_ap, if_neg (by omega), u2_ap, if_pos ⟨rfl, rfl⟩]
theorem row9_7 (P : PI) (k : Nat) (a b c d e f g h i : Int32) : row9 P k a b c d e f g h i 7 k = e := by
  unfold row9
  rw [u2_ap, if_neg (by omega), u2_ap, if_neg (by omega), u2_ap, if_neg (by omega), u2_ap, if_neg (by omega), u2_ap, if_pos ⟨rfl, rfl⟩]
theorem row9_8 (P : PI) (k : Nat) (a b c d e f g h i : Int32) : row9 P k a b c d e f g h i 8 k = f := by
  unfold row9
  rw [u2_ap, if_neg (by omega), u2_ap, if_neg (by omega), u2_ap, if_neg (by omega), u2_ap, if_pos ⟨rfl, rfl⟩]
theorem row9_9 (P : PI) (k : Nat) (a b c d e f g h i : Int32) : row9 P k a b c d e f g h i 9 k = g := by
  unfold row9
  rw [u2_ap, if_neg (by omega), u2_ap, if_neg (by omega), u2_ap, if_pos ⟨rfl, rfl⟩]
theorem row9_10 (P : PI) (k : Nat) (a b c d e f g h i : Int32) : row9 P k a b c d e f g h i 10 k = h := by
  unfold row9
  rw [u2_ap, if_neg (by omega), u2_ap, if_pos ⟨rfl, rfl⟩]
theorem row9_11 (P : PI) (k : Nat) (a b c d e f g h i : Int32) : row9 P k a b c d e f g h i 11 k = i := by
  unfold row9
  rw [u2_ap, if_pos ⟨rfl, rfl⟩]
/-! rods -/
def rdOk (n w : Nat) (P PR : PI) (j k : Nat) : Prop :=
  (P 3 j = PR 19 k ∧ P 4 j = PR 19 (k + 1) ∧ P 5 j = PR 19 (k + 2) ∧ P 6 j = PR 19 (k + 3) ∧ P 9 j = PR 19 (k + 4) ∧ P 7 j = PR 19 (k + 5) ∧ P 10 j = PR 19 (k + 6)) ∧
  ((∃ u : Nat, u < n ∧ P 3 j = nI u) ∧ (0 ≤ (P 4 j).toInt ∧ (P 4 j).toInt ≤ 5) ∧ (-200 ≤ (P 5 j).toInt ∧ (P 5 j).toInt ≤ 200) ∧ (0 ≤ (P 6 j).toInt ∧ (P 6 j).toInt ≤ 20) ∧ 0 ≤ (P 9 j).toInt ∧ (P 9 j).toInt ≤ 1000) ∧
  ∃ fw wr : Nat, P 7 j = nI fw ∧ P 8 j = nI wr ∧ ((PR 19 (k + 7) = -1 ∧ P 11 j = 0 ∧ fw + wr = w) ∨ ∃ z : Nat, z < w ∧ PR 19 (k + 7) = nI z ∧ P 11 j = 1 ∧ fw + wr = z + 1)
def rRods (t n : Nat) (P9 PR : PI) (L9 LR : PL) : Prop := ∃ c w : Nat, c ≤ 12 ∧ w ≤ 100 ∧ P9 0 0 = nI c ∧ P9 0 1 = nI w ∧ PR 18 t = nI c ∧ PR 20 t = nI w ∧ (∀ j, j < c → rdOk n w P9 PR j (96 * t + 8 * j)) ∧ ∀ d, d < 6 → L9 12 d = LR 21 (6 * t + d) ∧ L9 13 d = LR 22 (6 * t + d)
theorem zero3 {α : Type} (x : Option α) : mb_chk (0 : Int32) 3 x = x := chkN (k := 0) (by decide) (by decide) x
theorem nI_5 (a : Nat) : nI a + 5 = nI (a + 5) := nI_add a 5
theorem nI_6 (a : Nat) : nI a + 6 = nI (a + 6) := nI_add a 6
theorem nI_7 (a : Nat) : nI a + 7 = nI (a + 7) := nI_add a 7
theorem radd_c {c : Nat} {P : PI} (hc : c < 12) (h : P 0 0 = nI c) (a b x y e : Int32) : f_Rods_add P a b x y e = some (nI c, mb_uo (row9 P c a b x y (P 0 1) 0 e 0 0) 0 (nI (c + 1))) := by
  unfold f_Rods_add row9
  simp only [lets, h, u2_ap, chkN hc (by decide), nI_clamp (show c < 2 ^ 31 by omega), Nat.reduceEqDiff, false_and, if_false, nI_1]
set_option maxHeartbeats 4000000 in
theorem st_rod {n : Nat} {P1 P9 PR : PI} {L9 LR : PL} (hu : rUnits n P1 PR) (h : rRods 0 n P9 PR L9 LR) (x1 x2 x3 x4 x5 : Int32) : ∃ (r : Int32) (U V : PI), f_One_rod P1 P9 x1 x2 x3 x4 x5 = some (r, U) ∧ f_Ref_rod PR x1 x2 x3 x4 x5 = some (r, V) ∧ rRods 0 n U V L9 LR ∧ eqx [18, 19] [] PR V ∧ (∀ j, 96 ≤ j → V 19 j = PR 19 j) ∧ ∀ j, 1 ≤ j → V 18 j = PR 18 j := by
  obtain ⟨hn, u1, u2, -, -⟩ := id hu
  obtain ⟨c, w, hc, hw, h1, h1w, h2, h2w, h3, h4⟩ := id h
  have k1 : (P1 0 3).toInt = (n : Int) := by rw [u1]; exact nI_toInt (by omega)
  unfold f_One_rod f_Ref_rod
  simp only [told_c, dist_c, wi_c, in_c, isU_c PR _ hn u2, bd1s, ifz, zero3, cl0]
  simp only [k1, tt, Int32.reduceToInt, Int64.reduceToInt, show (-200 : Int32).toInt = -200 from rfl, show (-200 : Int64).toInt = -200 from rfl]
  by_cases ok : (0 ≤ x1.toInt ∧ x1.toInt < n) ∧ (0 ≤ x2.toInt ∧ x2.toInt ≤ 5) ∧ (-200 ≤ x3.toInt ∧ x3.toInt ≤ 200) ∧ (0 ≤ x4.toInt ∧ x4.toInt ≤ 20) ∧ 0 ≤ x5.toInt ∧ x5.toInt ≤ 1000
  · simp only [if_pos ok.1, if_pos ok.2.1, if_pos ok.2.2.1, if_pos ok.2.2.2.1, if_pos ok.2.2.2.2, h1, h2]
    by_cases hl : c < 12
    · rw [if_pos (lt_nI (y := 12) hl (by decide) rfl), if_neg (ne_nI (y := 12) (by omega) (by decide) (show c ≠ 12 by omega) rfl), radd_c hl h1]
      simp only [bd2s, lets, ixm 8 c (x := 8) rfl, nI_1, nI_2, nI_3, nI_4, nI_5, nI_6, nI_7, chkN (show 8 * c < 288 by omega) (by decide), chkN (show 8 * c + 1 < 288 by omega) (by decide), chkN (show 8 * c + 2 < 288 by omega) (by decide), chkN (show 8 * c + 3 < 288 by omega) (by decide), chkN (show 8 * c + 4 < 288 by omega) (by decide), chkN (show 8 * c + 5 < 288 by omega) (by decide), chkN (show 8 * c + 6 < 288 by omega) (by decide), chkN (show 8 * c + 7 < 288 by omega) (by decide), nI_clamp (show 8 * c < 2 ^ 31 by omega), nI_clamp (show 8 * c + 1 < 2 ^ 31 by omega), nI_clamp (show 8 * c + 2 < 2 ^ 31 by omega), nI_clamp (show 8 * c + 3 < 2 ^ 31 by omega), nI_clamp (show 8 * c + 4 < 2 ^ 31 by omega), nI_clamp (show 8 * c + 5 < 2 ^ 31 by omega), nI_clamp (show 8 * c + 6 < 2 ^ 31 by omega), nI_clamp (show 8 * c + 7 < 2 ^ 31 by omega)]
      have ev : (mb_u2 (mb_u2 (mb_u2 (mb_u2 (mb_u2 (mb_u2 (mb_u2 (mb_u2 PR 19 (8 * c) x1) 19 (8 * c + 1) x2) 19 (8 * c + 2) x3) 19 (8 * c + 3) x4) 19 (8 * c + 4) x5) 19 (8 * c + 5) (PR 20 0)) 19 (8 * c + 6) 0) 19 (8 * c + 7) (-1)) = put8 PR 19 (8 * c) x1 x2 x3 x4 x5 (PR 20 0) 0 (-1) := rfl
      simp only [u2_ap, Nat.reduceEqDiff, false_and, if_false]
      rw [ev, h2w, h2, nI_1]
      refine ⟨nI c, _, mb_u2 (put8 PR 19 (8 * c) x1 x2 x3 x4 x5 (nI w) 0 (-1)) 18 0 (nI (c + 1)), rfl, by simp [u2_ap, nI_pred], ⟨c + 1, w, by omega, hw, by simp [uo_ap], by rw [uo_ap, if_neg (by decide), row9_o _ _ _ _ _ _ _ _ _ _ _ (Or.inl (by decide)), h1w], by simp [u2_ap], by rw [u2_ap, if_neg (by decide), put8_o _ _ _ _ _ _ _ _ _ _ _ (Or.inl (by decide)), h2w], fun j hj => ?_, h4⟩, eqx_u2 (eqx_put8 (eqx_rf _ _ _) (by decide) (by decide) _ _ _ _ _ _ _ _ _) (by decide) (by decide) _ _, fun j hj => ?_, fun j hj => ?_⟩
      · rw [show 96 * 0 + 8 * j = 8 * j by omega]
        unfold rdOk
        simp only [uo_ap, u2_ap, show ¬ ((3 : Nat) = 0) by decide, show ¬ ((4 : Nat) = 0) by decide, show ¬ ((5 : Nat) = 0) by decide, show ¬ ((6 : Nat) = 0) by decide, show ¬ ((7 : Nat) = 0) by decide, show ¬ ((8 : Nat) = 0) by decide, show ¬ ((9 : Nat) = 0) by decide, show ¬ ((10 : Nat) = 0) by decide, show ¬ ((11 : Nat) = 0) by decide, show ¬ ((19 : Nat) = 18) by decide, false_and, if_false]
        by_cases e : j = c
        · subst e
          obtain ⟨u, hu, eu⟩ := ofI ok.1.1 ok.1.2 (by omega)
          rw [row9_3, row9_4, row9_5, row9_6, row9_7, row9_8, row9_9, row9_10, row9_11, put8_0, put8_1, put8_2, put8_3, put8_4, put8_5, put8_6, put8_7]
          exact ⟨⟨rfl, rfl, rfl, rfl, rfl, h1w, rfl⟩, ⟨⟨u, hu, eu⟩, ok.2.1, ok.2.2.1, ok.2.2.2.1, ok.2.2.2.2⟩, w, 0, h1w, rfl, Or.inl ⟨rfl, rfl, rfl⟩⟩
        · have hh := h3 j (by omega)
          rw [show 96 * 0 + 8 * j = 8 * j by omega] at hh
          rw [row9_o P9 c _ _ _ _ _ _ _ _ _ (q := 3) (j := j) (Or.inr (Or.inl e)), row9_o P9 c _ _ _ _ _ _ _ _ _ (q := 4) (j := j) (Or.inr (Or.inl e)), row9_o P9 c _ _ _ _ _ _ _ _ _ (q := 5) (j := j) (Or.inr (Or.inl e)), row9_o P9 c _ _ _ _ _ _ _ _ _ (q := 6) (j := j) (Or.inr (Or.inl e)), row9_o P9 c _ _ _ _ _ _ _ _ _ (q := 7) (j := j) (Or.inr (Or.inl e)), row9_o P9 c _ _ _ _ _ _ _ _ _ (q := 8) (j := j) (Or.inr (Or.inl e)), row9_o P9 c _ _ _ _ _ _ _ _ _ (q := 9) (j := j) (Or.inr (Or.inl e)), row9_o P9 c _ _ _ _ _ _ _ _ _ (q := 10) (j := j) (Or.inr (Or.inl e)), row9_o P9 c _ _ _ _ _ _ _ _ _ (q := 11) (j := j) (Or.inr (Or.inl e)), put8_o PR 19 (8 * c) _ _ _ _ _ _ _ _ (j := 8 * j) (Or.inr (by omega)), put8_o PR 19 (8 * c) _ _ _ _ _ _ _ _ (j := 8 * j + 1) (Or.inr (by omega)), put8_o PR 19 (8 * c) _ _ _ _ _ _ _ _ (j := 8 * j + 2) (Or.inr (by omega)), put8_o PR 19 (8 * c) _ _ _ _ _ _ _ _ (j := 8 * j + 3) (Or.inr (by omega)), put8_o PR 19 (8 * c) _ _ _ _ _ _ _ _ (j := 8 * j + 4) (Or.inr (by omega)), put8_o PR 19 (8 * c) _ _ _ _ _ _ _ _ (j := 8 * j + 5) (Or.inr (by omega)), put8_o PR 19 (8 * c) _ _ _ _ _ _ _ _ (j := 8 * j + 6) (Or.inr (by omega)), put8_o PR 19 (8 * c) _ _ _ _ _ _ _ _ (j := 8 * j + 7) (Or.inr (by omega))]
          exact hh
      · rw [u2_ap, if_neg (by omega), put8_o _ _ _ _ _ _ _ _ _ _ _ (Or.inr (by omega))]
      · rw [u2_ap, if_neg (by omega), put8_o _ _ _ _ _ _ _ _ _ _ _ (Or.inl (by decide))]
    · have e12 : c = 12 := by omega
      subst e12
      exact ⟨-3, _, _, by rw [if_neg (by decide)], by rw [if_pos (by decide)], h, eqx_rf _ _ _, fun _ _ => rfl, fun _ _ => rfl⟩
  · refine ⟨-1, P9, PR, ?_, ?_, h, eqx_rf _ _ _, fun _ _ => rfl, fun _ _ => rfl⟩
    · (repeat' split) <;> first | rfl | (exfalso; omega)
    · (repeat' split) <;> first | rfl | (exfalso; omega)
