/-! the steps fault and force -/
theorem rDec_fr {P7 PR V : PI} (h : rDecrees P7 PR) (k : fr PR V) : rDecrees P7 V := by
  obtain ⟨c, hc, h1, h2, h3⟩ := h
  refine ⟨c, hc, h1, by rw [k.2.1]; exact h2, fun j hj => ?_⟩
  rw [k.2.2 _ (by omega), k.2.2 _ (by omega), k.2.2 _ (by omega), k.2.2 _ (by omega), k.2.2 _ (by omega)]
  exact h3 j hj
theorem rScr_of {P6 PR U V : PI} (h : rScript P6 PR) (k : eqx [2] [2] P6 U) (k2 : eqx [14, 15, 34] [32] PR V) : rScript U V := by
  obtain ⟨⟨c, hc, h1, h2⟩, h3⟩ := h
  refine ⟨⟨c, hc, by rw [k.2 3 (by decide)]; exact h1, by rw [k2.2 11 (by decide)]; exact h2⟩, fun j hj => ?_⟩
  rw [k.1 1 (by decide) (by decide), k2.1 13 (by decide) (by decide)]
  exact h3 j hj
def pr0 (PR : PI) : PI := mb_uo (mb_u2 PR 14 0 0) 32 0
theorem fr_pr0 (PR : PI) : fr PR (pr0 PR) := by
  refine ⟨eqx_uo (eqx_u2 (eqx_rf _ _ _) (by decide) (by decide) _ _) (by decide) _, ?_, fun j hj => ?_⟩
  · unfold pr0; rw [uo_ap, if_neg (by omega), u2_ap, if_neg (by omega)]
  · unfold pr0; rw [uo_ap, if_neg (by omega), u2_ap, if_neg (by omega)]
theorem pr0_32 (PR : PI) : pr0 PR 0 32 = nI 0 := by unfold pr0; rw [uo_ap, if_pos ⟨rfl, rfl⟩]; rfl
theorem pr0_14 (PR : PI) : pr0 PR 14 0 = nI 0 := by unfold pr0; rw [uo_ap, if_neg (by omega), u2_ap, if_pos ⟨rfl, rfl⟩]; rfl
theorem ff_c {P6 PR : PI} (h : rScript P6 PR) : ∃ (x : Int32) (U V : PI), f_Script_firstFault P6 = some (x, U) ∧ f_Ref_readAll PR = some (x, V) ∧ f_Ref_readAll_12 mb_fu (pr0 PR) = some (x, V) ∧ eqx [2] [2] P6 U ∧ fr PR V := by
  obtain ⟨⟨c, hc, h1, h2⟩, h3⟩ := h
  have hR : txR (PR 13) c PR := ⟨h2, fun _ _ => rfl⟩
  obtain ⟨x, U, V, k1, k2, k3, k4⟩ := ff_l (T := PR 13) hc c 0 0 mb_fu mb_fu P6 (pr0 PR) (by omega) (by omega) (by omega) (fu_lt (by omega)) (fu_lt (by omega)) ⟨h1, h3⟩ (txR_fr hR (fr_pr0 PR)) (pr0_32 PR) (pr0_14 PR)
  refine ⟨x, U, V, ?_, ?_, k2, k3, fr_tr (fr_pr0 PR) k4⟩
  · unfold f_Script_firstFault
    rw [letsN, letsN]
    rw [nI_0] at k1
    exact k1
  · unfold f_Ref_readAll
    rw [k20, letsN, letsN, show (0 : Int32).toNatClampNeg = 0 from by decide]
    exact k2
theorem st_fault {P6 PR : PI} (h : rScript P6 PR) : ∃ (r : Int32) (U V : PI), f_One_fault P6 = some (r, U) ∧ f_Ref_fault PR = some (r, V) ∧ rScript U V ∧ fr PR V := by
  obtain ⟨x, U, V, k1, k2, -, k3, k4⟩ := ff_c h
  exact ⟨x, U, V, by unfold f_One_fault; rw [k1, bd2s], by unfold f_Ref_fault; rw [k2, bd2s], rScr_of h k3 k4.1, k4⟩
theorem cp_l (K : PI → Option (Int32 × PI)) : ∀ (r i n : Nat) (P : PI), i + r = 300 → r < n → ∃ V : PI, f_Ref_force_26 K n (nI i) P = K V ∧ eqx [15] [] P V ∧ (∀ j, j < 300 → V 15 j = P 15 j) ∧ (∀ j, i ≤ j → j < 300 → V 15 (300 + j) = P 15 j) ∧ ∀ j, j < i → V 15 (300 + j) = P 15 (300 + j) := by
  intro r
  induction r with
  | zero =>
    intro i n P e hn
    obtain ⟨n, rfl⟩ : ∃ m, n = m + 1 := ⟨n - 1, by omega⟩
    refine ⟨P, ?_, eqx_rf _ _ _, fun _ _ => rfl, fun j a b => absurd b (by omega), fun _ _ => rfl⟩
    have ei : i = 300 := by omega
    subst ei
    show f_Ref_force_26_b _ _ _ _ = _
    unfold f_Ref_force_26_b
    rw [if_pos (by decide)]
  | succ r ih =>
    intro i n P e hn
    obtain ⟨n, rfl⟩ : ∃ m, n = m + 1 := ⟨n - 1, by omega⟩
    obtain ⟨V, k1, k2, k3, k4, k5⟩ := ih (i + 1) n (mb_u2 P 15 (300 + i) (P 15 i)) (by omega) (by omega)
    refine ⟨V, ?_, eqx_tr (eqx_u2 (eqx_rf _ _ _) (by decide) (by decide) _ _) k2, ?_, ?_, ?_⟩
    · show f_Ref_force_26_b K (f_Ref_force_26 K n) _ _ = _
      unfold f_Ref_force_26_b
      rw [if_neg (nge (b := 300) (y := 300) (by omega) (by decide) rfl), chkN (show i < 600 by omega) (by decide), show (300 : Int32) + nI i = nI (300 + i) from nI_add 300 i, chkN (show 300 + i < 600 by omega) (by decide), letsN, letsN, nI_clamp (by omega), nI_clamp (by omega), nI_1]
      exact k1
    · intro j hj
      rw [k3 j hj, u2_ap, if_neg (by omega)]
    · intro j a b
      by_cases ej : j = i
      · subst ej
        rw [k5 j (by omega), u2_ap, if_pos ⟨rfl, rfl⟩]
      · rw [k4 j (by omega) b, u2_ap, if_neg (by omega)]
    · intro j hj
      rw [k5 j (by omega), u2_ap, if_neg (by omega)]
set_option maxHeartbeats 1000000 in
theorem st_force {P6 P7 PR : PI} (h : rScript P6 PR) (hd : rDecrees P7 PR) : ∃ (r : Int32) (U6 U7 V : PI), f_One_force P6 P7 = some (r, U6, U7) ∧ f_Ref_force PR = some (r, V) ∧ rScript U6 V ∧ rDecrees U7 V ∧ eqx [14, 15, 34] [32] PR V := by
  obtain ⟨x, U, V, k1, k2, k0, k3, k4⟩ := ff_c h
  unfold f_One_force f_Ref_force
  rw [k1, k2, bd2s, bd2s]
  by_cases e : x = -4
  · subst e
    rw [if_pos rfl, if_pos rfl]
    obtain ⟨⟨c, hc, h1, h2⟩, h3⟩ := id h
    have hR : txR (PR 13) c PR := ⟨h2, fun _ _ => rfl⟩
    obtain ⟨d, U7, U6, l1, l2, l3, l4, l5, l6⟩ := tk_l (T := PR 13) hc c 0 0 mb_fu mb_fu (mb_uo P7 5 0) U (pr0 PR) V (by omega) (by omega) (by omega) (fu_lt (by omega)) (txC_eq ⟨h1, h3⟩ k3) (txR_fr hR (fr_pr0 PR)) (pr0_32 PR) (pr0_14 PR) (by rw [uo_ap, if_pos ⟨rfl, rfl⟩]; rfl) (fun j hj => absurd hj (by omega)) k0
    rw [nI_0] at l1
    have tk : f_Decrees_take P7 U = some (nI d, U7, U6) := by
      unfold f_Decrees_take
      rw [letsN, letsN, letsN]
      exact l1
    rw [tk, bd3s, k20, k21, letsN, letsN, jnsN, show (0 : Int32).toNatClampNeg = 0 from by decide, show (1 : Int32).toNatClampNeg = 1 from by decide, l3]
    obtain ⟨V2, m1, m2, m3, m4, m5⟩ := cp_l (fun (P0_7 : PI) => mb_chk (1 : Int32) 2 (some (P0_7 14 (1 : Int32).toNatClampNeg, P0_7))) 300 0 mb_fu (mb_u2 V 14 1 (nI d)) (by decide) (fu_lt (by decide))
    rw [nI_0] at m1
    have v14 : V2 14 1 = nI d := by rw [m2.1 14 (by decide) (by decide), u2_ap, if_pos ⟨rfl, rfl⟩]
    have qV : eqx [14, 15, 34] [32] PR V2 := eqx_tr k4.1 (eqx_tr (eqx_u2 (eqx_rf _ _ _) (by decide) (by decide) _ _) (eqx_mono m2 (fun q z => by simp at z; subst z; decide) (fun q z => absurd z (by simp))))
    refine ⟨nI d, U6, U7, V2, rfl, ?_, rScr_of h (eqx_tr k3 l6) qV, ⟨d, l2, l4, v14, fun j hj => ?_⟩, qV⟩
    · refine Eq.trans m1 ?_
      rw [k21, show (1 : Int32).toNatClampNeg = 1 from by decide, v14]
    · have g : ∀ i, i < 300 → V2 15 (300 + i) = V 15 i := fun i hi => by rw [m4 i (by omega) hi, u2_ap, if_neg (by omega)]
      have g0 := g (5 * j) (by omega)
      have g1 := g (5 * j + 1) (by omega)
      have g2 := g (5 * j + 2) (by omega)
      have g3 := g (5 * j + 3) (by omega)
      have g4 := g (5 * j + 4) (by omega)
      rw [show 300 + 5 * j + 1 = 300 + (5 * j + 1) by omega, show 300 + 5 * j + 2 = 300 + (5 * j + 2) by omega, show 300 + 5 * j + 3 = 300 + (5 * j + 3) by omega, show 300 + 5 * j + 4 = 300 + (5 * j + 4) by omega, g0, g1, g2, g3, g4]
      exact l5 j hj
  · rw [if_neg e, if_neg e]
    exact ⟨-2, U, P7, V, rfl, rfl, rScr_of h k3 k4.1, rDec_fr hd k4, k4.1⟩
