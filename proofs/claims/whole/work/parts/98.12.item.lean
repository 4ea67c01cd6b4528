/-! one item -/
def snd (l a b c d : Int32) : Bool := if l = 97 ∨ l = 98 then decide (a.toInt ≤ 15 ∧ b.toInt ≤ 5 ∧ c.toInt ≤ d.toInt) else if l = 104 then decide (a.toInt ≤ 5 ∧ b.toInt ≤ 1 ∧ c.toInt ≤ d.toInt) else if l = 110 then decide (a.toInt ≤ 9 ∧ b.toInt ≤ 15 ∧ c.toInt ≤ 5) else false
theorem snd_ok {l a b c d : Int32} (ha : nOk a) (hb : nOk b) (hc : nOk c) (hd : nOk d) (h : snd l a b c d = true) : iOk l a b c d := by
  unfold snd at h
  unfold iOk
  unfold nOk at *
  by_cases e1 : l = 97 ∨ l = 98
  · rw [if_pos e1, decide_eq_true_eq] at h
    refine ⟨by omega, ⟨by omega, by omega, fun z => ?_⟩, by omega, by omega⟩
    rw [z] at e1
    exact absurd e1 (by decide)
  · rw [if_neg e1] at h
    by_cases e2 : l = 104
    · rw [if_pos e2, decide_eq_true_eq] at h
      exact ⟨by omega, ⟨by omega, by omega, fun z => by omega⟩, by omega, by omega⟩
    · rw [if_neg e2] at h
      by_cases e3 : l = 110
      · rw [if_pos e3, decide_eq_true_eq] at h
        exact ⟨by omega, ⟨by omega, by omega, fun z => absurd z e2⟩, by omega, by omega⟩
      · rw [if_neg e3] at h
        exact absurd h (by decide)
theorem k40 {α : Type} (x : Option α) : mb_chk (0 : Int32) 4 x = x := chkN (k := 0) (by decide) (by decide) x
theorem k41 {α : Type} (x : Option α) : mb_chk (1 : Int32) 4 x = x := chkN (k := 1) (by decide) (by decide) x
theorem k42 {α : Type} (x : Option α) : mb_chk (2 : Int32) 4 x = x := chkN (k := 2) (by decide) (by decide) x
theorem k43 {α : Type} (x : Option α) : mb_chk (3 : Int32) 4 x = x := chkN (k := 3) (by decide) (by decide) x
theorem q40 : (0 : Int32).toNatClampNeg = 0 := by decide
theorem q41 : (1 : Int32).toNatClampNeg = 1 := by decide
theorem q42 : (2 : Int32).toNatClampNeg = 2 := by decide
theorem q43 : (3 : Int32).toNatClampNeg = 3 := by decide
set_option maxHeartbeats 2000000 in
theorem sound_c {P : PI} (ha : nOk (P 2 0)) (hb : nOk (P 2 1)) (hc : nOk (P 2 2)) (hd : nOk (P 2 3)) : f_Script_isSound P = some (if snd (P 0 2) (P 2 0) (P 2 1) (P 2 2) (P 2 3) = true then 1 else 0) := by
  unfold f_Script_isSound snd
  unfold nOk at *
  simp only [k40, k41, k42, k43, q40, q41, q42, q43, unum_c, dist_c, bd1s, ifz, Int32.lt_iff_toInt_lt, Int32.le_iff_toInt_le]
  generalize P 0 2 = l
  by_cases e1 : l = 97
  · rw [if_pos e1, if_pos (Or.inl e1)]
    simp only [decide_eq_true_eq]
    (repeat' split) <;> first | rfl | (exfalso; omega)
  · rw [if_neg e1]
    by_cases e2 : l = 98
    · rw [if_pos e2, if_pos (Or.inr e2)]
      simp only [decide_eq_true_eq]
      (repeat' split) <;> first | rfl | (exfalso; omega)
    · rw [if_neg e2, if_neg (show ¬ (l = 97 ∨ l = 98) from fun z => z.elim e1 e2)]
      by_cases e3 : l = 104
      · rw [if_pos e3, if_pos e3]
        simp only [decide_eq_true_eq, Int32.reduceToInt]
        (repeat' split) <;> first | rfl | (exfalso; omega)
      · rw [if_neg e3, if_neg e3]
        by_cases e4 : l = 110
        · rw [if_pos e4, if_pos e4]
          simp only [decide_eq_true_eq, Int32.reduceToInt]
          (repeat' split) <;> first | rfl | (exfalso; omega)
        · rw [if_neg e4, if_neg e4, if_neg (by decide)]
set_option maxHeartbeats 4000000 in
theorem item_c {T : Nat → Int32} {len : Nat} (hl : len ≤ 300) {p : Nat} {P PR : PI} (hC : txC T len P) (hR : txR T len PR) (hp : PR 0 32 = nI p) (pl : p < len) : ∃ P' V : PI, eqx [2] [2] P P' ∧ eqx [34] [32] PR V ∧ ((f_Script_readItem P (nI p) = some (-1, P') ∧ f_Ref_item PR = some (0, V)) ∨ ∃ q : Nat, p + 9 ≤ q ∧ q ≤ len ∧ f_Script_readItem P (nI p) = some (nI q, P') ∧ f_Ref_item PR = some (1, V) ∧ V 0 32 = nI q ∧ P' 0 2 = T p ∧ (∀ j, j < 4 → P' 2 j = V 34 j) ∧ iOk (T p) (P' 2 0) (P' 2 1) (P' 2 2) (P' 2 3)) := by
  have q1 : eqx [2] [2] P (mb_uo P 2 (T p)) := eqx_uo (eqx_rf _ _ _) (by decide) _
  have q2 : eqx [34] [32] PR (mb_uo PR 32 (nI (p + 1))) := eqx_uo (eqx_rf _ _ _) (by decide) _
  have hC1 : txC T len (mb_uo P 2 (T p)) := ⟨by rw [uo_ap, if_neg (by omega)]; exact hC.1, fun j hj => by rw [uo_ap, if_neg (by omega)]; exact hC.2 j hj⟩
  have hR1 : txR T len (mb_uo PR 32 (nI (p + 1))) := ⟨by rw [q2.2 11 (by decide)]; exact hR.1, fun j hj => by rw [q2.1 13 (by decide) (by decide)]; exact hR.2 j hj⟩
  have nm := fun K => nums_l hl K 4 0 mb_fu mb_fu (p + 1) (mb_uo P 2 (T p)) (mb_uo PR 32 (nI (p + 1))) (by decide) (fu_lt (by decide)) (fu_lt (by decide)) hC1 hR1 (by rw [uo_ap, if_pos ⟨rfl, rfl⟩]) (by omega) (fun j hj => absurd hj (by omega))
  rw [nI_0] at nm
  obtain ⟨P', V, k1, k2, k3⟩ := nm (fun (x2_5 : Int32) (P0_6 : PI) => mb_bd1 (f_Script_isSound P0_6) (fun (r_9 : Int32) => (if r_9 = 0 then some ((-1 : Int32), P0_6) else some (x2_5, P0_6))))
  have k1m : eqx [2] [2] (mb_uo P 2 (T p)) P' := eqx_mono k1 (fun _ z => z) (fun q z => absurd z (by simp))
  have cls : f_Script_readItem P (nI p) = f_Script_readItem_15 (fun (x2_5 : Int32) (P0_6 : PI) => mb_bd1 (f_Script_isSound P0_6) (fun (r_9 : Int32) => (if r_9 = 0 then some ((-1 : Int32), P0_6) else some (x2_5, P0_6)))) mb_fu (nI (p + 1)) 0 (mb_uo P 2 (T p)) := by
    unfold f_Script_readItem
    rw [byteAt_c hl hC (by omega), bd1s, if_pos pl, letsN, letsN, letsN, jnsN, nI_1]
  have let1 : P' 0 2 = T p := by rw [k1.2 2 (by simp), uo_ap, if_pos ⟨rfl, rfl⟩]
  have rn : f_Ref_numbers (mb_uo PR 32 (nI (p + 1))) = f_Ref_numbers_2 mb_fu 0 (mb_uo PR 32 (nI (p + 1))) := by
    unfold f_Ref_numbers
    rw [letsN]
  have p300 : p < 300 := by omega
  rcases k3 with ⟨a, b⟩ | ⟨q, q0, ql, a, b, d, f⟩
  · refine ⟨P', V, eqx_tr q1 k1m, eqx_tr q2 k2, Or.inl ⟨cls.trans a, ?_⟩⟩
    unfold f_Ref_item
    rw [hp, chkN p300 (by decide), letsN, nI_1, letsN, rn, b, bd2s, if_pos rfl]
  · have s := sound_c (f 0 (by decide)).2 (f 1 (by decide)).2 (f 2 (by decide)).2 (f 3 (by decide)).2
    have rf : f_Ref_item PR = some (if snd (T p) (P' 2 0) (P' 2 1) (P' 2 2) (P' 2 3) = true then 1 else 0, V) := by
      unfold f_Ref_item
      rw [hp, chkN p300 (by decide), letsN, nI_1, letsN, rn, b, bd2s, if_neg (by decide), nI_clamp (by omega), hR.2 p p300]
      simp only [k40, k41, k42, k43, q40, q41, q42, q43, in_c, bd1s, ifz, Int32.lt_iff_toInt_lt, ← (f 0 (by decide)).1, ← (f 1 (by decide)).1, ← (f 2 (by decide)).1, ← (f 3 (by decide)).1]
      simp only [tt, Int64.reduceToInt]
      have n0 := (f 0 (by decide)).2
      have n1 := (f 1 (by decide)).2
      have n2 := (f 2 (by decide)).2
      have n3 := (f 3 (by decide)).2
      unfold nOk at n0 n1 n2 n3
      unfold snd
      generalize T p = l
      by_cases e1 : l = 97
      · rw [if_pos e1, if_pos (Or.inl e1)]
        simp only [decide_eq_true_eq]
        (repeat' split) <;> first | rfl | (exfalso; omega)
      · rw [if_neg e1]
        by_cases e2 : l = 98
        · rw [if_pos e2, if_pos (Or.inr e2)]
          simp only [decide_eq_true_eq]
          (repeat' split) <;> first | rfl | (exfalso; omega)
        · rw [if_neg e2, if_neg (show ¬ (l = 97 ∨ l = 98) from fun z => z.elim e1 e2)]
          by_cases e3 : l = 104
          · rw [if_pos e3, if_pos e3]
            simp only [decide_eq_true_eq]
            (repeat' split) <;> first | rfl | (exfalso; omega)
          · rw [if_neg e3, if_neg e3]
            by_cases e4 : l = 110
            · rw [if_pos e4, if_pos e4]
              simp only [decide_eq_true_eq]
              (repeat' split) <;> first | rfl | (exfalso; omega)
            · rw [if_neg e4, if_neg e4, if_neg (by decide)]
    rw [let1] at s
    have ca := cls.trans a
    simp only [s, bd1s, ifz] at ca
    refine ⟨P', V, eqx_tr q1 k1m, eqx_tr q2 k2, ?_⟩
    by_cases g : snd (T p) (P' 2 0) (P' 2 1) (P' 2 2) (P' 2 3) = true
    · rw [if_pos g] at ca rf
      exact Or.inr ⟨q, by omega, ql, ca, rf, d, let1, fun j hj => (f j hj).1, snd_ok (f 0 (by decide)).2 (f 1 (by decide)).2 (f 2 (by decide)).2 (f 3 (by decide)).2 g⟩
    · rw [if_neg g] at ca rf
      exact Or.inl ⟨ca, rf⟩
