/-! keep, back -/
theorem ixa (m t i : Nat) {x : Int32} (h : x = nI m) : x * nI t + nI i = nI (m * t + i) := by rw [h, pk_mul, nI_add]
theorem cp26 {t1 t2 : Nat} (h1 : t1 < 3) (h2 : t2 < 3) (hne : t1 ≠ t2) (K : PI → Option (PI × PL)) : ∀ (r i n : Nat) (PR : PI), i + r = 96 → r < n → ∃ V : PI, f_Ref_copy_26 (nI t1) (nI t2) K n (nI i) PR = K V ∧ eqx [19] [] PR V ∧ (∀ k, i ≤ k → k < 96 → V 19 (96 * t2 + k) = PR 19 (96 * t1 + k)) ∧ ∀ j, (∀ k, i ≤ k → k < 96 → j ≠ 96 * t2 + k) → V 19 j = PR 19 j := by
  intro r
  induction r with
  | zero =>
    intro i n PR e hn
    obtain ⟨n, rfl⟩ : ∃ m, n = m + 1 := ⟨n - 1, by omega⟩
    have ei : i = 96 := by omega
    subst ei
    refine ⟨PR, ?_, eqx_rf _ _ _, fun k h3 h4 => absurd h4 (by omega), fun _ _ => rfl⟩
    show f_Ref_copy_26_b _ _ _ _ _ _ = _
    unfold f_Ref_copy_26_b
    rw [if_pos (by decide)]
  | succ r ih =>
    intro i n PR e hn
    obtain ⟨n, rfl⟩ : ∃ m, n = m + 1 := ⟨n - 1, by omega⟩
    obtain ⟨V, a1, a2, a3, a4⟩ := ih (i + 1) n (mb_u2 PR 19 (96 * t2 + i) (PR 19 (96 * t1 + i))) (by omega) (by omega)
    have o : ∀ j, j ≠ 96 * t2 + i → (mb_u2 PR 19 (96 * t2 + i) (PR 19 (96 * t1 + i))) 19 j = PR 19 j := fun j hj => by rw [u2_ap, if_neg (by omega)]
    refine ⟨V, ?_, eqx_tr (eqx_u2 (eqx_rf _ _ _) (by decide) (by decide) _ _) a2, fun k h3 h4 => ?_, fun j hj => ?_⟩
    · show f_Ref_copy_26_b _ _ _ (f_Ref_copy_26 (nI t1) (nI t2) K n) _ _ = _
      unfold f_Ref_copy_26_b
      rw [if_neg (nge (y := 96) (b := 96) (by omega) (by decide) rfl)]
      simp only [ixa 96 t1 i (x := 96) rfl, ixa 96 t2 i (x := 96) rfl, chkN (show 96 * t1 + i < 288 by omega) (by decide), chkN (show 96 * t2 + i < 288 by omega) (by decide), nI_clamp (show 96 * t1 + i < 2 ^ 31 by omega), nI_clamp (show 96 * t2 + i < 2 ^ 31 by omega), lets, nI_1]
      exact a1
    · by_cases ek : k = i
      · subst ek
        rw [a4 (96 * t2 + k) (fun k2 h5 h6 => by omega), u2_ap, if_pos ⟨rfl, rfl⟩]
      · rw [a3 k (by omega) h4, o (96 * t1 + k) (by omega)]
    · rw [a4 j (fun k h5 h6 => hj k (by omega) h6), o j (hj i (by omega) (by omega))]
theorem cp120 {t1 t2 : Nat} (h1 : t1 < 3) (h2 : t2 < 3) (hne : t1 ≠ t2) (L : PL) : ∀ (r i n : Nat) (PR : PI), i + r = 24 → r < n → ∃ V : PI, f_Ref_copy_120 L (nI t1) (nI t2) n (nI i) PR = some (V, L) ∧ eqx [23] [] PR V ∧ (∀ k, i ≤ k → k < 24 → V 23 (24 * t2 + k) = PR 23 (24 * t1 + k)) ∧ ∀ j, (∀ k, i ≤ k → k < 24 → j ≠ 24 * t2 + k) → V 23 j = PR 23 j := by
  intro r
  induction r with
  | zero =>
    intro i n PR e hn
    obtain ⟨n, rfl⟩ : ∃ m, n = m + 1 := ⟨n - 1, by omega⟩
    have ei : i = 24 := by omega
    subst ei
    refine ⟨PR, ?_, eqx_rf _ _ _, fun k h3 h4 => absurd h4 (by omega), fun _ _ => rfl⟩
    show f_Ref_copy_120_b _ _ _ _ _ _ = _
    unfold f_Ref_copy_120_b
    rw [if_pos (by decide)]
  | succ r ih =>
    intro i n PR e hn
    obtain ⟨n, rfl⟩ : ∃ m, n = m + 1 := ⟨n - 1, by omega⟩
    obtain ⟨V, a1, a2, a3, a4⟩ := ih (i + 1) n (mb_u2 PR 23 (24 * t2 + i) (PR 23 (24 * t1 + i))) (by omega) (by omega)
    have o : ∀ j, j ≠ 24 * t2 + i → (mb_u2 PR 23 (24 * t2 + i) (PR 23 (24 * t1 + i))) 23 j = PR 23 j := fun j hj => by rw [u2_ap, if_neg (by omega)]
    refine ⟨V, ?_, eqx_tr (eqx_u2 (eqx_rf _ _ _) (by decide) (by decide) _ _) a2, fun k h3 h4 => ?_, fun j hj => ?_⟩
    · show f_Ref_copy_120_b _ _ _ (f_Ref_copy_120 L (nI t1) (nI t2) n) _ _ = _
      unfold f_Ref_copy_120_b
      rw [if_neg (nge (y := 24) (b := 24) (by omega) (by decide) rfl)]
      simp only [ixa 24 t1 i (x := 24) rfl, ixa 24 t2 i (x := 24) rfl, chkN (show 24 * t1 + i < 72 by omega) (by decide), chkN (show 24 * t2 + i < 72 by omega) (by decide), nI_clamp (show 24 * t1 + i < 2 ^ 31 by omega), nI_clamp (show 24 * t2 + i < 2 ^ 31 by omega), lets, nI_1]
      exact a1
    · by_cases ek : k = i
      · subst ek
        rw [a4 (24 * t2 + k) (fun k2 h5 h6 => by omega), u2_ap, if_pos ⟨rfl, rfl⟩]
      · rw [a3 k (by omega) h4, o (24 * t1 + k) (by omega)]
    · rw [a4 j (fun k h5 h6 => hj k (by omega) h6), o j (hj i (by omega) (by omega))]
theorem eqL_tr {S T : List Nat} {P V W : PL} (h1 : eqL S T P V) (h2 : eqL S T V W) : eqL S T P W := ⟨fun q a b => (h2.1 q a b).trans (h1.1 q a b), fun j a => (h2.2 j a).trans (h1.2 j a)⟩
theorem cp62 {t1 t2 : Nat} (h1 : t1 < 3) (h2 : t2 < 3) (hne : t1 ≠ t2) (K : PL → Option (PI × PL)) : ∀ (r i n : Nat) (LR : PL), i + r = 6 → r < n → ∃ V : PL, f_Ref_copy_62 (nI t1) (nI t2) K n (nI i) LR = K V ∧ eqL [21, 22] [] LR V ∧ (∀ k, i ≤ k → k < 6 → V 21 (6 * t2 + k) = LR 21 (6 * t1 + k) ∧ V 22 (6 * t2 + k) = LR 22 (6 * t1 + k)) ∧ ∀ j, (∀ k, i ≤ k → k < 6 → j ≠ 6 * t2 + k) → V 21 j = LR 21 j ∧ V 22 j = LR 22 j := by
  intro r
  induction r with
  | zero =>
    intro i n LR e hn
    obtain ⟨n, rfl⟩ : ∃ m, n = m + 1 := ⟨n - 1, by omega⟩
    have ei : i = 6 := by omega
    subst ei
    refine ⟨LR, ?_, eqL_rf _ _ _, fun k h3 h4 => absurd h4 (by omega), fun _ _ => ⟨rfl, rfl⟩⟩
    show f_Ref_copy_62_b _ _ _ _ _ _ = _
    unfold f_Ref_copy_62_b
    rw [if_pos (by decide)]
  | succ r ih =>
    intro i n LR e hn
    obtain ⟨n, rfl⟩ : ∃ m, n = m + 1 := ⟨n - 1, by omega⟩
    obtain ⟨V, a1, a2, a3, a4⟩ := ih (i + 1) n (mb_u2L (mb_u2L LR 21 (6 * t2 + i) (LR 21 (6 * t1 + i))) 22 (6 * t2 + i) (LR 22 (6 * t1 + i))) (by omega) (by omega)
    have o : ∀ j, j ≠ 6 * t2 + i → (mb_u2L (mb_u2L LR 21 (6 * t2 + i) (LR 21 (6 * t1 + i))) 22 (6 * t2 + i) (LR 22 (6 * t1 + i))) 21 j = LR 21 j ∧ (mb_u2L (mb_u2L LR 21 (6 * t2 + i) (LR 21 (6 * t1 + i))) 22 (6 * t2 + i) (LR 22 (6 * t1 + i))) 22 j = LR 22 j := fun j hj => by
      rw [u2L_ap, if_neg (by omega), u2L_ap, if_neg (by omega), u2L_ap, if_neg (by omega), u2L_ap, if_neg (by omega)]
      exact ⟨rfl, rfl⟩
    refine ⟨V, ?_, eqL_tr (eqL_u2 (eqL_u2 (eqL_rf _ _ _) (by decide) (by decide) _ _) (by decide) (by decide) _ _) a2, fun k h3 h4 => ?_, fun j hj => ?_⟩
    · show f_Ref_copy_62_b _ _ _ (f_Ref_copy_62 (nI t1) (nI t2) K n) _ _ = _
      unfold f_Ref_copy_62_b
      rw [if_neg (nge (y := 6) (b := 6) (by omega) (by decide) rfl)]
      simp only [ixa 6 t1 i (x := 6) rfl, ixa 6 t2 i (x := 6) rfl, chkN (show 6 * t1 + i < 18 by omega) (by decide), chkN (show 6 * t2 + i < 18 by omega) (by decide), nI_clamp (show 6 * t1 + i < 2 ^ 31 by omega), nI_clamp (show 6 * t2 + i < 2 ^ 31 by omega), lets, nI_1]
      exact a1
    · by_cases ek : k = i
      · subst ek
        obtain ⟨q1, q2⟩ := a4 (6 * t2 + k) (fun k2 h5 h6 => by omega)
        rw [q1, q2, u2L_ap, if_neg (by omega), u2L_ap, if_pos ⟨rfl, rfl⟩, u2L_ap, if_pos ⟨rfl, rfl⟩]
        exact ⟨rfl, rfl⟩
      · obtain ⟨q1, q2⟩ := a3 k (by omega) h4
        rw [q1, q2, (o (6 * t1 + k) (by omega)).1, (o (6 * t1 + k) (by omega)).2]
        exact ⟨rfl, rfl⟩
    · obtain ⟨q1, q2⟩ := a4 j (fun k h5 h6 => hj k (by omega) h6)
      rw [q1, q2, (o j (hj i (by omega) (by omega))).1, (o j (hj i (by omega) (by omega))).2]
      exact ⟨rfl, rfl⟩
