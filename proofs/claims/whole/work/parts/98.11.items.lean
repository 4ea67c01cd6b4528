/-! reading a script: items -/
def sepv (i : Nat) : Int32 := if i = 3 then 59 else 44
theorem sep_nd {T : Nat → Int32} {len i p : Nat} (h : T p = sepv i) : ¬ dg T len p = true := by
  unfold dg sepv at *
  rw [decide_eq_true_eq]
  intro z
  split at h
  · rw [h] at z; exact absurd z.2 (by decide)
  · rw [h] at z; exact absurd z.2 (by decide)
theorem sep_n1 (i : Nat) : ¬ (-1 : Int32) = sepv i := by
  unfold sepv
  split <;> decide
def nOk (x : Int32) : Prop := 0 ≤ x.toInt ∧ x.toInt ≤ 9999
theorem txC_2 {T : Nat → Int32} {len : Nat} {P : PI} (h : txC T len P) (w : Nat) (v : Int32) : txC T len (mb_u2 P 2 w v) := ⟨by rw [u2_ap, if_neg (by omega)]; exact h.1, fun j hj => by rw [u2_ap, if_neg (by omega)]; exact h.2 j hj⟩
set_option maxHeartbeats 4000000 in
theorem nums_l {T : Nat → Int32} {len : Nat} (hl : len ≤ 300) (K : Int32 → PI → Option (Int32 × PI)) : ∀ (r i n m p : Nat) (P PR : PI), i + r = 4 → r < n → r < m → txC T len P → txR T len PR → PR 0 32 = nI p → p ≤ len → (∀ j, j < i → P 2 j = PR 34 j ∧ nOk (P 2 j)) → ∃ P' V : PI, eqx [2] [] P P' ∧ eqx [34] [32] PR V ∧ ((f_Script_readItem_15 K n (nI p) (nI i) P = some (-1, P') ∧ f_Ref_numbers_2 m (nI i) PR = some (0, V)) ∨ ∃ q : Nat, p + 2 * r ≤ q ∧ q ≤ len ∧ f_Script_readItem_15 K n (nI p) (nI i) P = K (nI q) P' ∧ f_Ref_numbers_2 m (nI i) PR = some (1, V) ∧ V 0 32 = nI q ∧ ∀ j, j < 4 → P' 2 j = V 34 j ∧ nOk (P' 2 j)) := by
  intro r
  induction r with
  | zero =>
    intro i n m p P PR e hn hm hC hR hp pl hN
    obtain ⟨n, rfl⟩ : ∃ m, n = m + 1 := ⟨n - 1, by omega⟩
    obtain ⟨m, rfl⟩ : ∃ z, m = z + 1 := ⟨m - 1, by omega⟩
    have ei : i = 4 := by omega
    subst ei
    refine ⟨P, PR, eqx_rf _ _ _, eqx_rf _ _ _, Or.inr ⟨p, by omega, pl, ?_, ?_, hp, hN⟩⟩
    · show f_Script_readItem_15_b _ _ _ _ _ = _
      unfold f_Script_readItem_15_b
      rw [if_pos (by decide)]
    · show f_Ref_numbers_2_b _ _ _ = _
      unfold f_Ref_numbers_2_b
      rw [if_pos (by decide)]
  | succ r ih =>
    intro i n m p P PR e hn hm hC hR hp pl hN
    obtain ⟨n, rfl⟩ : ∃ m, n = m + 1 := ⟨n - 1, by omega⟩
    obtain ⟨m, rfl⟩ : ∃ z, m = z + 1 := ⟨m - 1, by omega⟩
    have i4 : ¬ (4 : Int32) ≤ nI i := nge (b := 4) (y := 4) (by omega) (by decide) rfl
    have c4 := cnt_le T len 4 p
    have c5 := cnt_le T len 5 p
    have cin := cnt_in T len 4 p pl
    have cin5 := cnt_in T len 5 p pl
    have cl := cnt_last T len 4 p
    -- the class
    have clsb : f_Script_readItem_15_b K (f_Script_readItem_15 K n) (nI p) (nI i) P = (if 1 ≤ cnt T len p 4 ∧ p + cnt T len p 4 < len ∧ T (p + cnt T len p 4) = sepv i then f_Script_readItem_15 K n (nI (p + cnt T len p 4 + 1)) (nI (i + 1)) (mb_u2 P 2 i (vl T (cnt T len p 4) p 0)) else some (-1, mb_u2 P 2 i (vl T (cnt T len p 4) p 0))) := by
      unfold f_Script_readItem_15_b
      rw [if_neg i4, rn_c hl hC (by omega) (by omega), bd2s, letsN]
      by_cases z : cnt T len p 4 = 0
      · rw [if_pos z, if_pos rfl, if_neg (fun y => by omega)]
      · have zz : ¬ nI (p + cnt T len p 4) = -1 := fun y => by
          have := congrArg Int32.toInt y
          rw [nI_toInt (by omega)] at this
          have : ((p + cnt T len p 4 : Nat) : Int) = -1 := this
          omega
        rw [if_neg z, if_neg zz, byteAt_c hl (txC_2 hC _ _) (by omega), bd1s]
        have hs : ∀ (J : Int32 → Int32 → Option (Int32 × PI)) (x : Int32), mb_jn J (fun J56_23 => (if (4 : Int32) ≤ (nI i + (1 : Int32)) then J56_23 (59 : Int32) x else J56_23 (44 : Int32) x)) = J (sepv i) x := by
          intro J x
          rw [jnsN, nI_1]
          unfold sepv
          by_cases i3 : i = 3
          · subst i3
            rw [if_pos (by decide), if_pos rfl]
          · rw [if_neg (nge (b := 4) (y := 4) (by omega) (by decide) rfl), if_neg i3]
        rw [hs]
        simp only [letsN, nI_1]
        by_cases q : p + cnt T len p 4 < len
        · rw [if_pos q]
          by_cases t : T (p + cnt T len p 4) = sepv i
          · rw [if_pos t, if_pos ⟨by omega, q, t⟩]
          · rw [if_neg t, if_neg (fun y => t y.2.2)]
        · rw [if_neg q, if_neg (sep_n1 i), if_neg (fun y => q y.2.1)]
    -- the reference
    have refb : f_Ref_numbers_2_b (f_Ref_numbers_2 m) (nI i) PR = (if 1 ≤ cnt T len p 4 ∧ p + cnt T len p 4 < len ∧ T (p + cnt T len p 4) = sepv i then f_Ref_numbers_2 m (nI (i + 1)) (mb_uo (mb_u2 (mb_uo PR 32 (nI (p + cnt T len p 4))) 34 i (vl T (cnt T len p 4) p 0)) 32 (nI (p + cnt T len p 4 + 1))) else some (0, mb_uo PR 32 (nI (p + cnt T len p 5)))) := by
      unfold f_Ref_numbers_2_b
      rw [if_neg i4, letsN, letsN, jnsN]
      have k := fun K => rr_l hl K 5 0 mb_fu p 0 PR (by decide) (fu_lt (by decide)) hR hp pl
      rw [nI_0] at k
      simp only [Nat.zero_add] at k
      refine Eq.trans (k _) ?_
      have e11 : (mb_uo PR 32 (nI (p + cnt T len p 5))) 0 11 = nI len := by rw [uo_ap, if_neg (by decide)]; exact hR.1
      have e32 : (mb_uo PR 32 (nI (p + cnt T len p 5))) 0 32 = nI (p + cnt T len p 5) := by rw [uo_ap, if_pos ⟨rfl, rfl⟩]
      simp only [in_c, bd1s, ifz, tt, nI_toInt (show cnt T len p 5 < 2 ^ 31 by omega), Int64.reduceToInt, e11, e32]
      by_cases ok : 1 ≤ cnt T len p 4 ∧ p + cnt T len p 4 < len ∧ T (p + cnt T len p 4) = sepv i
      · rw [if_pos ok]
        have nd : ¬ (cnt T len p 4 = 4 ∧ dg T len (p + 4) = true) := fun z => by
          have := sep_nd (len := len) ok.2.2
          rw [z.1] at this
          exact this z.2
        rw [if_neg nd] at cl
        rw [cl]
        have e13 : (mb_uo PR 32 (nI (p + cnt T len p 4))) 13 (p + cnt T len p 4) = T (p + cnt T len p 4) := by rw [uo_ap, if_neg (by omega)]; exact hR.2 _ (by omega)
        have e32b : (mb_u2 (mb_uo PR 32 (nI (p + cnt T len p 4))) 34 i (vl T (cnt T len p 4) p 0)) 0 32 = nI (p + cnt T len p 4) := by rw [u2_ap, if_neg (by omega), uo_ap, if_pos ⟨rfl, rfl⟩]
        have hs : ∀ (J : Int32 → Int32 → Option (Int32 × PI)) (x : Int32), mb_jn J (fun J127_18 => (if (3 : Int32) ≤ nI i then J127_18 (59 : Int32) x else J127_18 (44 : Int32) x)) = J (sepv i) x := by
          intro J x
          rw [jnsN]
          unfold sepv
          by_cases i3 : i = 3
          · subst i3
            rw [if_pos (by decide), if_pos rfl]
          · rw [if_neg (nge (b := 3) (y := 3) (by omega) (by decide) rfl), if_neg i3]
        rw [if_pos (show (1 : Int) ≤ (cnt T len p 4 : Int) ∧ (cnt T len p 4 : Int) ≤ 4 by omega), if_neg (fun z => by have := (nI_eq (by omega) (by omega)).mp z; omega), chkN (show p + cnt T len p 4 < 300 by omega) (by decide), hs, nI_clamp (by omega), e13, if_pos ok.2.2, chkN (show i < 4 by omega) (by decide), letsN, letsN, letsN, nI_clamp (show i < 2 ^ 31 by omega), e32b, nI_1, nI_1]
      · rw [if_neg ok]
        by_cases c1 : (1 : Int) ≤ (cnt T len p 5 : Int) ∧ (cnt T len p 5 : Int) ≤ 4
        · have e45 : cnt T len p 5 = cnt T len p 4 := by
            by_cases nd : cnt T len p 4 = 4 ∧ dg T len (p + 4) = true
            · rw [if_pos nd] at cl
              have c1r := c1.2
              rw [cl] at c1r
              exact absurd c1r (by decide)
            · rw [if_neg nd] at cl; exact cl
          rw [if_pos c1]
          rw [e45] at c1 ⊢
          by_cases el : p + cnt T len p 4 = len
          · rw [if_pos (by rw [el])]
          · have e13 : (mb_uo PR 32 (nI (p + cnt T len p 4))) 13 (p + cnt T len p 4) = T (p + cnt T len p 4) := by rw [uo_ap, if_neg (by omega)]; exact hR.2 _ (by omega)
            have nt : ¬ T (p + cnt T len p 4) = sepv i := fun z => ok ⟨by omega, by omega, z⟩
            have hs : ∀ (J : Int32 → Int32 → Option (Int32 × PI)) (x : Int32), mb_jn J (fun J127_18 => (if (3 : Int32) ≤ nI i then J127_18 (59 : Int32) x else J127_18 (44 : Int32) x)) = J (sepv i) x := by
              intro J x
              rw [jnsN]
              unfold sepv
              by_cases i3 : i = 3
              · subst i3
                rw [if_pos (by decide), if_pos rfl]
              · rw [if_neg (nge (b := 3) (y := 3) (by omega) (by decide) rfl), if_neg i3]
            rw [if_neg (fun z => by have := (nI_eq (by omega) (by omega)).mp z; omega), chkN (show p + cnt T len p 4 < 300 by omega) (by decide), hs, nI_clamp (by omega), e13, if_neg nt]
        · rw [if_neg c1]
    have q2 : eqx [2] [] P (mb_u2 P 2 i (vl T (cnt T len p 4) p 0)) := eqx_u2 (eqx_rf _ _ _) (by decide) (by decide) _ _
    by_cases ok : 1 ≤ cnt T len p 4 ∧ p + cnt T len p 4 < len ∧ T (p + cnt T len p 4) = sepv i
    · rw [if_pos ok] at clsb refb
      generalize hV : (mb_uo (mb_u2 (mb_uo PR 32 (nI (p + cnt T len p 4))) 34 i (vl T (cnt T len p 4) p 0)) 32 (nI (p + cnt T len p 4 + 1))) = V1 at *
      have qV : eqx [34] [32] PR V1 := by
        rw [← hV]
        exact eqx_uo (eqx_u2 (eqx_uo (eqx_rf _ _ _) (by decide) _) (by decide) (by decide) _ _) (by decide) _
      have V34 : ∀ j, V1 34 j = if j = i then vl T (cnt T len p 4) p 0 else PR 34 j := by
        intro j
        rw [← hV, uo_ap, if_neg (by omega), u2_ap]
        by_cases ji : j = i
        · rw [if_pos ⟨rfl, ji⟩, if_pos ji]
        · rw [if_neg (fun z => ji z.2), if_neg ji, uo_ap, if_neg (by omega)]
      obtain ⟨P', V, k1, k2, k3⟩ := ih (i + 1) n m (p + cnt T len p 4 + 1) (mb_u2 P 2 i (vl T (cnt T len p 4) p 0)) V1 (by omega) (by omega) (by omega) (txC_2 hC _ _) ⟨by rw [qV.2 11 (by decide)]; exact hR.1, fun j hj => by rw [qV.1 13 (by decide) (by decide)]; exact hR.2 j hj⟩ (by rw [← hV, uo_ap, if_pos ⟨rfl, rfl⟩]) (by omega) (by
        intro j hj
        rw [V34, u2_ap]
        by_cases ji : j = i
        · rw [if_pos ⟨rfl, ji⟩, if_pos ji]
          exact ⟨rfl, vl_4 T len p⟩
        · rw [if_neg (fun z => ji z.2), if_neg ji]
          exact hN j (by omega))
      refine ⟨P', V, eqx_tr q2 k1, eqx_tr qV k2, ?_⟩
      rcases k3 with ⟨a, b⟩ | ⟨q, q0, q1, a, b, d, f⟩
      · exact Or.inl ⟨clsb.trans a, refb.trans b⟩
      · exact Or.inr ⟨q, by omega, q1, clsb.trans a, refb.trans b, d, f⟩
    · rw [if_neg ok] at clsb refb
      exact ⟨_, _, q2, eqx_uo (eqx_rf _ _ _) (by decide) _, Or.inl ⟨clsb, refb⟩⟩
