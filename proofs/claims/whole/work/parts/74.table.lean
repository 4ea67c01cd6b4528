theorem grainOf_c {g d : Int32} (h : grain g d) : f_Tables_grainOf d = some g := by
  rcases h with ⟨rfl, rfl⟩ | ⟨rfl, rfl⟩ | ⟨rfl, rfl⟩ | ⟨rfl, rfl⟩ <;> rfl
theorem grain_ex {d : Int32} (h0 : 0 ≤ d.toInt) (h3 : d.toInt ≤ 3) : ∃ g, grain g d := by
  obtain ⟨k, hk, rfl⟩ := ofI (n := 4) h0 (by omega) (by decide)
  rcases (show k = 0 ∨ k = 1 ∨ k = 2 ∨ k = 3 by omega) with rfl | rfl | rfl | rfl
  · exact ⟨1000, Or.inl ⟨rfl, rfl⟩⟩
  · exact ⟨100, Or.inr (Or.inl ⟨rfl, rfl⟩)⟩
  · exact ⟨10, Or.inr (Or.inr (Or.inl ⟨rfl, rfl⟩))⟩
  · exact ⟨1, Or.inr (Or.inr (Or.inr ⟨rfl, rfl⟩))⟩
theorem put_c {P2 : PI} {f t : Nat} (hf : f < 16) (ht : t < 16) (x3 x4 : Int32) {x5 g : Int32} (hg : grain g x5) : f_Tables_put P2 (nI f) (nI t) x3 x4 x5 = some (mb_u2 (mb_u2 (mb_u2 (if P2 2 (f * 16 + t) = 0 then mb_uo P2 3 (P2 0 3 + 1) else P2) 1 (f * 16 + t) x3) 2 (f * 16 + t) x4) 3 (f * 16 + t) g) := by
  unfold f_Tables_put
  simp only [lets, jns, ixC, chkN (show f * 16 + t < 256 by omega) (by decide), nI_clamp (show f * 16 + t < 2 ^ 31 by omega), grainOf_c hg, bd1s]
  split <;> rfl
theorem alike_c {P1 : PI} {f t : Nat} (hf : f < 16) (ht : t < 16) : f_Units_alike P1 (nI f) (nI t) = some (if P1 1 f = P1 1 t then 1 else 0) := by
  unfold f_Units_alike
  simp only [chkN hf (by decide), chkN ht (by decide), nI_clamp (show f < 2 ^ 31 by omega), nI_clamp (show t < 2 ^ 31 by omega)]
  split <;> rfl
theorem rT_put {n f t : Nat} {P2 PR : PI} (hT : rTables n P2 PR) (hn : n ≤ 16) (hf : f < n) (ht : t < n) (hne : f ≠ t) {x3 x4 x5 g : Int32} (hp : 1 ≤ x3.toInt ∧ x3.toInt ≤ 10000) (hq : 1 ≤ x4.toInt ∧ x4.toInt ≤ 10000) (hg : grain g x5) :
    rTables n (mb_u2 (mb_u2 (mb_u2 (if P2 2 (f * 16 + t) = 0 then mb_uo P2 3 (P2 0 3 + 1) else P2) 1 (f * 16 + t) x3) 2 (f * 16 + t) x4) 3 (f * 16 + t) g) (mb_u2 (mb_u2 (mb_u2 PR 5 (3 * (f * 16 + t)) x3) 5 (3 * (f * 16 + t) + 1) x4) 5 (3 * (f * 16 + t) + 2) x5) := by
  obtain ⟨hc, hE⟩ := hT
  have hj : f * 16 + t < 256 := by omega
  have hd : (f * 16 + t) / 16 = f := by omega
  have hm : (f * 16 + t) % 16 = t := by omega
  generalize hj0 : f * 16 + t = j0 at hj hd hm ⊢
  have x4n : x4 ≠ 0 := fun e => by rw [e] at hq; exact absurd hq.1 (by decide)
  have c0 : ∀ (q j : Nat), q ≠ 0 → (if P2 2 j0 = 0 then mb_uo P2 3 (P2 0 3 + 1) else P2) q j = P2 q j := by
    intro q j h0
    split
    · rw [uo_ap, if_neg (fun z => h0 z.1)]
    · rfl
  constructor
  · have e1 : (fun j => decide ((mb_u2 (mb_u2 (mb_u2 (if P2 2 j0 = 0 then mb_uo P2 3 (P2 0 3 + 1) else P2) 1 j0 x3) 2 j0 x4) 3 j0 g) 2 j ≠ 0)) = fun k => if k = j0 then true else decide (P2 2 k ≠ 0) := by
      funext j
      simp only [u2_ap, show ¬ ((2 : Nat) = 3) by decide, show ¬ ((2 : Nat) = 1) by decide, false_and, if_false, true_and, c0 2 j (by decide)]
      by_cases e : j = j0
      · simp [e, x4n]
      · simp [e]
    rw [e1]
    have e2 := fb_ct_upd (fun k => decide (P2 2 k ≠ 0)) true (i := j0) (n := 256) hj
    simp only [u2_ap, show ¬ ((0 : Nat) = 1) by decide, show ¬ ((0 : Nat) = 2) by decide, show ¬ ((0 : Nat) = 3) by decide, false_and, if_false]
    by_cases z : P2 2 j0 = 0
    · rw [if_pos z, uo_ap, if_pos ⟨rfl, rfl⟩, hc, nI_1]
      change _ + (if decide (P2 2 j0 ≠ 0) = true then 1 else 0) = _ + (if true = true then 1 else 0) at e2
      rw [if_neg (by simp [z]), if_pos rfl, Nat.add_zero] at e2
      exact congrArg nI e2.symm
    · rw [if_neg z, hc]
      change _ + (if decide (P2 2 j0 ≠ 0) = true then 1 else 0) = _ + (if true = true then 1 else 0) at e2
      rw [if_pos (by simp [z]), if_pos rfl] at e2
      exact congrArg nI (Nat.add_right_cancel e2).symm
  · intro j hj2
    simp only [u2_ap, show ¬ ((1 : Nat) = 3) by decide, show ¬ ((1 : Nat) = 2) by decide, show ¬ ((2 : Nat) = 3) by decide, show ¬ ((2 : Nat) = 1) by decide, show ¬ ((3 : Nat) = 2) by decide, show ¬ ((3 : Nat) = 1) by decide, false_and, if_false, true_and, c0 1 j (by decide), c0 2 j (by decide), c0 3 j (by decide)]
    by_cases e : j = j0
    · subst e
      simp only [if_true, show ¬ (3 * j = 3 * j + 1) by omega, show ¬ (3 * j = 3 * j + 2) by omega, show ¬ (3 * j + 1 = 3 * j + 2) by omega, if_false]
      exact ⟨trivial, trivial, Or.inr ⟨hp.1, hp.2, hq.1, hq.2, hg, by omega, by omega, by omega⟩⟩
    · simp only [if_neg e, show ¬ (3 * j = 3 * j0) by omega, show ¬ (3 * j = 3 * j0 + 1) by omega, show ¬ (3 * j = 3 * j0 + 2) by omega, show ¬ (3 * j + 1 = 3 * j0) by omega, show ¬ (3 * j + 1 = 3 * j0 + 1) by omega, show ¬ (3 * j + 1 = 3 * j0 + 2) by omega, show ¬ (3 * j + 2 = 3 * j0) by omega, show ¬ (3 * j + 2 = 3 * j0 + 1) by omega, show ¬ (3 * j + 2 = 3 * j0 + 2) by omega, if_false]
      exact hE j hj2
set_option maxHeartbeats 2000000 in
theorem st_table {n : Nat} {P1 P2 P3 PR : PI} (h : rUnits n P1 PR) (hT : rTables n P2 PR) (x1 x2 x3 x4 x5 : Int32) : ∃ (r : Int32) (U2 U3 V : PI), f_One_table P1 P2 P3 x1 x2 x3 x4 x5 = some (r, U2, U3) ∧ f_Ref_table PR x1 x2 x3 x4 x5 = some (r, V) ∧ rTables n U2 V ∧ eqx [5] [] PR V ∧ ((U2 = P2 ∧ U3 = P3) ∨ U3 = mb_uo P3 4 0) := by
  obtain ⟨hn, h1, h2, h3, -⟩ := id h
  have k1 : (P1 0 3).toInt = (n : Int) := by rw [h1]; exact nI_toInt (by omega)
  unfold f_One_table f_Ref_table
  simp only [told_c, wi_c, in_c, isU_c PR _ hn h2, bd1s, ifz]
  simp only [k1, tt, Int32.reduceToInt, Int64.reduceToInt]
  by_cases ok : (0 ≤ x1.toInt ∧ x1.toInt < n) ∧ (0 ≤ x2.toInt ∧ x2.toInt < n) ∧ ¬ x1 = x2 ∧ (1 ≤ x3.toInt ∧ x3.toInt ≤ 10000) ∧ (1 ≤ x4.toInt ∧ x4.toInt ≤ 10000) ∧ 0 ≤ x5.toInt ∧ x5.toInt ≤ 3
  · obtain ⟨f, hf, rfl⟩ := ofI ok.1.1 ok.1.2 (by omega)
    obtain ⟨t, ht, rfl⟩ := ofI ok.2.1.1 ok.2.1.2 (by omega)
    obtain ⟨g, hg⟩ := grain_ex ok.2.2.2.2.2.1 ok.2.2.2.2.2.2
    have hne : f ≠ t := fun e => ok.2.2.1 (by rw [e])
    simp only [if_pos ok.1, if_pos ok.2.1, if_neg ok.2.2.1, if_pos ok.2.2.2.1, if_pos ok.2.2.2.2.1, if_pos ok.2.2.2.2.2, alike_c (P1 := P1) (show f < 16 by omega) (show t < 16 by omega), bd1s, ifz, put_c (P2 := P2) (show f < 16 by omega) (show t < 16 by omega) x3 x4 hg, chkN (show f < 16 by omega) (by decide), chkN (show t < 16 by omega) (by decide), nI_clamp (show f < 2 ^ 31 by omega), nI_clamp (show t < 2 ^ 31 by omega), lets, ixR, nI_1, nI_2, chkN (show 3 * (f * 16 + t) < 768 by omega) (by decide), chkN (show 3 * (f * 16 + t) + 1 < 768 by omega) (by decide), chkN (show 3 * (f * 16 + t) + 2 < 768 by omega) (by decide), nI_clamp (show 3 * (f * 16 + t) < 2 ^ 31 by omega), nI_clamp (show 3 * (f * 16 + t) + 1 < 2 ^ 31 by omega), nI_clamp (show 3 * (f * 16 + t) + 2 < 2 ^ 31 by omega), f_Ways_forget, (h3 f (by omega)).1, (h3 t (by omega)).1]
    by_cases hs : PR 2 f = PR 2 t
    · simp only [if_pos hs]
      exact ⟨0, _, _, _, rfl, rfl, rT_put hT hn hf ht hne ok.2.2.2.1 ok.2.2.2.2.1 hg, eqx_u2 (eqx_u2 (eqx_u2 (eqx_rf _ _ _) (by decide) (by decide) _ _) (by decide) (by decide) _ _) (by decide) (by decide) _ _, Or.inr rfl⟩
    · simp only [if_neg hs]
      exact ⟨-2, _, _, _, rfl, rfl, hT, eqx_rf _ _ _, Or.inl ⟨rfl, rfl⟩⟩
  · refine ⟨-1, P2, P3, PR, ?_, ?_, hT, eqx_rf _ _ _, Or.inl ⟨rfl, rfl⟩⟩
    · (repeat' split) <;> first | rfl | (exfalso; simp_all; done)
    · (repeat' split) <;> first | rfl | (exfalso; simp_all; done)
