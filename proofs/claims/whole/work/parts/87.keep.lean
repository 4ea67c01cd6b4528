theorem up_at (P : PI) (p : Nat) (f : Nat → Int32) (q : Nat) : mb_up P p f q = if q = p then f else P q := by
  unfold mb_up
  by_cases h : q = p
  · subst h
    rw [show Nat.beq q q = true from Nat.beq_refl q, if_pos rfl]; rfl
  · rw [beqn h, if_neg h]; rfl
theorem upL_at (P : PL) (p : Nat) (f : Nat → Int64) (q : Nat) : mb_upL P p f q = if q = p then f else P q := by
  unfold mb_upL
  by_cases h : q = p
  · subst h
    rw [show Nat.beq q q = true from Nat.beq_refl q, if_pos rfl]; rfl
  · rw [beqn h, if_neg h]; rfl
theorem cl12 : (12 : Int32).toNatClampNeg = 12 := by decide
theorem cl6 : (6 : Int32).toNatClampNeg = 6 := by decide
theorem cpyv {α : Type} {f g : Nat → α} {n j : Nat} (h : j < n) : va_cpy f g 0 0 n j = f j := by
  rw [pk_cpy_in (Nat.zero_le j) (by omega)]
  congr 1
  omega
set_option maxHeartbeats 2000000 in
theorem rcopy (P0 P1 : PI) (L0 L1 : PL) : ∃ (U : PI) (LU : PL), f_Rods_copyFrom P0 L0 P1 L1 = some (U, LU) ∧ U 0 0 = P1 0 0 ∧ U 0 1 = P1 0 1 ∧ (∀ q, 3 ≤ q → q ≤ 11 → ∀ j, j < 12 → U q j = P1 q j) ∧ ∀ d, d < 6 → LU 12 d = L1 12 d ∧ LU 13 d = L1 13 d := by
  unfold f_Rods_copyFrom
  simp only [lets, cl0, cl12, cl6]
  refine ⟨_, _, rfl, ?_, ?_, fun q h3 h11 j hj => ?_, fun d hd => ?_⟩
  · simp [up_at, uo_ap]
  · simp [up_at, uo_ap]
  · rcases (show q = 3 ∨ q = 4 ∨ q = 5 ∨ q = 6 ∨ q = 7 ∨ q = 8 ∨ q = 9 ∨ q = 10 ∨ q = 11 by omega) with rfl | rfl | rfl | rfl | rfl | rfl | rfl | rfl | rfl <;> simp [up_at, cpyv hj]
  · constructor <;> simp [upL_at, cpyv hd]
theorem fcopy (P0 P1 : PI) : ∃ U : PI, f_Folk_copyFrom P0 P1 = some U ∧ ∀ q, 1 ≤ q → q ≤ 4 → ∀ j, j < 6 → U q j = P1 q j := by
  unfold f_Folk_copyFrom
  simp only [lets, cl0, cl6]
  refine ⟨_, rfl, fun q h3 h11 j hj => ?_⟩
  rcases (show q = 1 ∨ q = 2 ∨ q = 3 ∨ q = 4 by omega) with rfl | rfl | rfl | rfl <;> simp [up_at, cpyv hj]
theorem rRods_cong {t1 t2 n n2 : Nat} {P U PR V : PI} {L LU LR LV : PL} (h : rRods t1 n P PR L LR) (hn : n ≤ n2) (a1 : U 0 0 = P 0 0) (a2 : U 0 1 = P 0 1) (a3 : ∀ q, 3 ≤ q → q ≤ 11 → ∀ j, j < 12 → U q j = P q j) (b1 : V 18 t2 = PR 18 t1) (b2 : V 20 t2 = PR 20 t1) (b3 : ∀ k, k < 96 → V 19 (96 * t2 + k) = PR 19 (96 * t1 + k)) (c1 : ∀ d, d < 6 → LU 12 d = L 12 d ∧ LU 13 d = L 13 d) (c2 : ∀ d, d < 6 → LV 21 (6 * t2 + d) = LR 21 (6 * t1 + d) ∧ LV 22 (6 * t2 + d) = LR 22 (6 * t1 + d)) : rRods t2 n2 U V LU LV := by
  obtain ⟨c, w, h1, h2, h3, h4, h5, h6, h7, h8⟩ := h
  refine ⟨c, w, h1, h2, by rw [a1, h3], by rw [a2, h4], by rw [b1, h5], by rw [b2, h6], fun j hj => ?_, fun d hd => ?_⟩
  · obtain ⟨e1, ⟨⟨u, hu, eu⟩, e2⟩, e3⟩ := h7 j hj
    have k : ∀ i, i < 8 → V 19 (96 * t2 + 8 * j + i) = PR 19 (96 * t1 + 8 * j + i) := by
      intro i hi
      have := b3 (8 * j + i) (by omega)
      rw [← Nat.add_assoc, ← Nat.add_assoc] at this
      exact this
    have k0 := k 0 (by omega)
    rw [Nat.add_zero, Nat.add_zero] at k0
    unfold rdOk
    rw [a3 3 (by omega) (by omega) j (by omega), a3 4 (by omega) (by omega) j (by omega), a3 5 (by omega) (by omega) j (by omega), a3 6 (by omega) (by omega) j (by omega), a3 7 (by omega) (by omega) j (by omega), a3 8 (by omega) (by omega) j (by omega), a3 9 (by omega) (by omega) j (by omega), a3 10 (by omega) (by omega) j (by omega), a3 11 (by omega) (by omega) j (by omega), k0, k 1 (by omega), k 2 (by omega), k 3 (by omega), k 4 (by omega), k 5 (by omega), k 6 (by omega), k 7 (by omega)]
    exact ⟨e1, ⟨⟨u, by omega, eu⟩, e2⟩, e3⟩
  · rw [(c1 d hd).1, (c1 d hd).2, (c2 d hd).1, (c2 d hd).2]
    exact h8 d hd
theorem rFolk_cong {t1 t2 : Nat} {P U PR V : PI} (h : rFolk t1 P PR) (a : ∀ q, 1 ≤ q → q ≤ 4 → ∀ j, j < 6 → U q j = P q j) (b : ∀ k, k < 24 → V 23 (24 * t2 + k) = PR 23 (24 * t1 + k)) : rFolk t2 U V := by
  intro d hd
  have k : ∀ i, i < 4 → V 23 (24 * t2 + 4 * d + i) = PR 23 (24 * t1 + 4 * d + i) := by
    intro i hi
    have := b (4 * d + i) (by omega)
    rw [← Nat.add_assoc, ← Nat.add_assoc] at this
    exact this
  have k0 := k 0 (by omega)
  rw [Nat.add_zero, Nat.add_zero] at k0
  rw [a 1 (by omega) (by omega) d hd, a 2 (by omega) (by omega) d hd, a 3 (by omega) (by omega) d hd, a 4 (by omega) (by omega) d hd, k0, k 1 (by omega), k 2 (by omega), k 3 (by omega)]
  exact h d hd
theorem letsN {α β : Type} (e : β) (K : β → Option α) : mb_let e K = K e := by
  unfold mb_let
  exact Eq.symm (Eq.symm (Eq.refl (K e)))
theorem jnsN {κ α : Type} (k : κ) (B : κ → Option α) : mb_jn k B = B k := by
  unfold mb_jn
  exact Eq.symm (Eq.symm (Eq.refl (B k)))
/-- the reference's copy -/
theorem copy_c {t1 t2 : Nat} (h1 : t1 < 3) (h2 : t2 < 3) (hne : t1 ≠ t2) (PR : PI) (LR : PL) : ∃ (V : PI) (LV : PL), f_Ref_copy PR LR (nI t1) (nI t2) = some (V, LV) ∧ eqx [18, 19, 20, 23] [] PR V ∧ eqL [21, 22] [] LR LV ∧ V 18 t2 = PR 18 t1 ∧ V 20 t2 = PR 20 t1 ∧ (∀ k, k < 96 → V 19 (96 * t2 + k) = PR 19 (96 * t1 + k)) ∧ (∀ k, k < 24 → V 23 (24 * t2 + k) = PR 23 (24 * t1 + k)) ∧ (∀ d, d < 6 → LV 21 (6 * t2 + d) = LR 21 (6 * t1 + d) ∧ LV 22 (6 * t2 + d) = LR 22 (6 * t1 + d)) ∧ ∀ t, t ≠ t2 → V 18 t = PR 18 t ∧ V 20 t = PR 20 t ∧ (∀ k, k < 96 → V 19 (96 * t + k) = PR 19 (96 * t + k)) ∧ (∀ k, k < 24 → V 23 (24 * t + k) = PR 23 (24 * t + k)) ∧ ∀ d, d < 6 → LV 21 (6 * t + d) = LR 21 (6 * t + d) ∧ LV 22 (6 * t + d) = LR 22 (6 * t + d) := by
  unfold f_Ref_copy
  simp only [chkN h1 (by decide), chkN h2 (by decide), nI_clamp (show t1 < 2 ^ 31 by omega), nI_clamp (show t2 < 2 ^ 31 by omega), letsN, jnsN]
  generalize hP : mb_u2 (mb_u2 PR 18 t2 (PR 18 t1)) 20 t2 ((mb_u2 PR 18 t2 (PR 18 t1)) 20 t1) = P2
  have p18 : ∀ t, P2 18 t = if t = t2 then PR 18 t1 else PR 18 t := fun t => by rw [← hP]; simp [u2_ap]
  have p20 : ∀ t, P2 20 t = if t = t2 then PR 20 t1 else PR 20 t := fun t => by rw [← hP]; simp [u2_ap]
  have p19 : P2 19 = PR 19 := by rw [← hP]; rfl
  have p23 : P2 23 = PR 23 := by rw [← hP]; rfl
  have pe : eqx [18, 19, 20, 23] [] PR P2 := by rw [← hP]; exact eqx_u2 (eqx_u2 (eqx_rf _ _ _) (by decide) (by decide) _ _) (by decide) (by decide) _ _
  obtain ⟨V, a1, a2, a3, a4⟩ := cp26 h1 h2 hne (fun (P0_8 : PI) => f_Ref_copy_62 (nI t1) (nI t2) (fun (L0_12 : PL) => f_Ref_copy_120 L0_12 (nI t1) (nI t2) mb_fu 0 P0_8) mb_fu 0 LR) 96 0 mb_fu P2 (by omega) (fu_lt (by omega))
  obtain ⟨LV, b1, b2, b3, b4⟩ := cp62 h1 h2 hne (fun (L0_12 : PL) => f_Ref_copy_120 L0_12 (nI t1) (nI t2) mb_fu 0 V) 6 0 mb_fu LR (by omega) (fu_lt (by omega))
  obtain ⟨W, c1, c2, c3, c4⟩ := cp120 h1 h2 hne LV 24 0 mb_fu V (by omega) (fu_lt (by omega))
  rw [nI_0] at a1 b1 c1
  have w19 : W 19 = V 19 := c2.1 19 (by decide) (by decide)
  have w18 : W 18 = P2 18 := (c2.1 18 (by decide) (by decide)).trans (a2.1 18 (by decide) (by decide))
  have w20 : W 20 = P2 20 := (c2.1 20 (by decide) (by decide)).trans (a2.1 20 (by decide) (by decide))
  have v23 : V 23 = PR 23 := (a2.1 23 (by decide) (by decide)).trans p23
  refine ⟨W, LV, by rw [a1, b1, c1], eqx_tr pe (eqx_tr (eqx_mono a2 (by decide) (fun _ h => h)) (eqx_mono c2 (by decide) (fun _ h => h))), b2, by rw [w18, p18, if_pos rfl], by rw [w20, p20, if_pos rfl], fun k hk => by rw [w19, a3 k (by omega) hk, p19], fun k hk => by rw [c3 k (by omega) hk, v23], fun d hd => b3 d (by omega) hd, fun t ht => ⟨by rw [w18, p18, if_neg ht], by rw [w20, p20, if_neg ht], fun k hk => by rw [w19, a4 _ (fun k2 _ h6 => by omega), p19], fun k hk => by rw [c4 _ (fun k2 _ h6 => by omega), v23], fun d hd => b4 _ (fun k2 _ h6 => by omega)⟩⟩
