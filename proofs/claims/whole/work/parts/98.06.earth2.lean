/-! the step earth -/
def isE (P : PI) (w : Int32) (j : Nat) : Bool := decide (1 < w.toInt ∨ P 1 j = w)
theorem addz (x : Int64) : x + 0 = x := Int64.add_zero x
set_option maxHeartbeats 2000000 in
theorem erR_l {c : Nat} {P4 PR : PI} {LR : PL} (hc : c ≤ 12) (h2 : PR 0 5 = nI c) (h7 : ∀ j, j < c → P4 1 j = PR 7 j) (w : Int32) (K : Int64 → Int64 → Int32 → Int32 → Option Int64) : ∀ (r k n : Nat), k + r = c → r < n → f_Ref_earth_40 PR LR w K n (sY (LR 8) (isE P4 w) k) (sY (LR 9) (isE P4 w) k) (nI (mA (LR 8) (LR 9) k)) (nI (lA (LR 8) (LR 9) k)) (nI k) = K (sY (LR 8) (isE P4 w) c) (sY (LR 9) (isE P4 w) c) (nI (mA (LR 8) (LR 9) c)) (nI (lA (LR 8) (LR 9) c)) := by
  intro r
  induction r with
  | zero =>
    intro k n e hn
    obtain ⟨n, rfl⟩ : ∃ m, n = m + 1 := ⟨n - 1, by omega⟩
    have ek : k = c := by omega
    subst ek
    show f_Ref_earth_40_b _ _ _ _ _ _ _ _ _ _ = _
    unfold f_Ref_earth_40_b
    rw [h2, if_pos (nI_le (Nat.le_refl _) (by omega))]
  | succ r ih =>
    intro k n e hn
    obtain ⟨n, rfl⟩ : ∃ m, n = m + 1 := ⟨n - 1, by omega⟩
    have i1 := ih (k + 1) n (by omega) (by omega)
    have k12 : k < 12 := by omega
    have m12 := (mA_lt (LR 8) (LR 9) k).1
    have l12 := (lA_lt (LR 8) (LR 9) k).1
    show f_Ref_earth_40_b PR LR w K (f_Ref_earth_40 PR LR w K n) _ _ _ _ _ = _
    unfold f_Ref_earth_40_b
    rw [h2, if_neg (nI_ge (by omega) (by omega))]
    simp only [letsN, jnsN, chkN k12 (by decide), chkN (show mA (LR 8) (LR 9) k < 12 by omega) (by decide), chkN (show lA (LR 8) (LR 9) k < 12 by omega) (by decide), nI_clamp (show k < 2 ^ 31 by omega), nI_clamp (show mA (LR 8) (LR 9) k < 2 ^ 31 by omega), nI_clamp (show lA (LR 8) (LR 9) k < 2 ^ 31 by omega), nI_1, lg_cmp_le, lg_cmp_ge, Int64.le_iff_toInt_le, Int32.lt_iff_toInt_lt, show (1 : Int32).toInt = 1 from rfl, show ¬ (1 : Int32) = 0 by decide, if_false, if_true]
    simp only [sY, mA, lA] at i1
    have hs : ∀ {X : Option Int64}, (∀ (u v : Int32), u = nI (mA (LR 8) (LR 9) (k + 1)) → v = nI (lA (LR 8) (LR 9) (k + 1)) → True) → X = X := fun _ => rfl
    by_cases hw : (1 : Int) < w.toInt
    · have eb : isE P4 w k = true := by unfold isE; rw [decide_eq_true_eq]; exact Or.inl hw
      simp only [eb, if_true] at i1
      rw [if_pos hw]
      by_cases a : (LR 8 k * LR 9 (mA (LR 8) (LR 9) k)).toInt ≤ (LR 8 (mA (LR 8) (LR 9) k) * LR 9 k).toInt
      · rw [if_pos a] at i1 ⊢
        by_cases b : (LR 8 (lA (LR 8) (LR 9) k) * LR 9 k).toInt ≤ (LR 8 k * LR 9 (lA (LR 8) (LR 9) k)).toInt
        · rw [if_pos b] at i1 ⊢; exact i1
        · rw [if_neg b] at i1 ⊢; exact i1
      · rw [if_neg a] at i1 ⊢
        by_cases b : (LR 8 (lA (LR 8) (LR 9) k) * LR 9 k).toInt ≤ (LR 8 k * LR 9 (lA (LR 8) (LR 9) k)).toInt
        · rw [if_pos b] at i1 ⊢; exact i1
        · rw [if_neg b] at i1 ⊢; exact i1
    · rw [if_neg hw]
      by_cases hp : PR 7 k = w
      · have eb : isE P4 w k = true := by unfold isE; rw [decide_eq_true_eq, h7 k (by omega)]; exact Or.inr hp
        simp only [eb, if_true] at i1
        rw [if_pos hp]
        by_cases a : (LR 8 k * LR 9 (mA (LR 8) (LR 9) k)).toInt ≤ (LR 8 (mA (LR 8) (LR 9) k) * LR 9 k).toInt
        · rw [if_pos a] at i1 ⊢
          by_cases b : (LR 8 (lA (LR 8) (LR 9) k) * LR 9 k).toInt ≤ (LR 8 k * LR 9 (lA (LR 8) (LR 9) k)).toInt
          · rw [if_pos b] at i1 ⊢; exact i1
          · rw [if_neg b] at i1 ⊢; exact i1
        · rw [if_neg a] at i1 ⊢
          by_cases b : (LR 8 (lA (LR 8) (LR 9) k) * LR 9 k).toInt ≤ (LR 8 k * LR 9 (lA (LR 8) (LR 9) k)).toInt
          · rw [if_pos b] at i1 ⊢; exact i1
          · rw [if_neg b] at i1 ⊢; exact i1
      · have eb : isE P4 w k = false := by unfold isE; rw [decide_eq_false_iff_not, h7 k (by omega)]; exact fun z => z.elim hw hp
        simp only [eb, show ¬ (false = true) by decide, if_false] at i1
        rw [if_neg hp]
        by_cases a : (LR 8 k * LR 9 (mA (LR 8) (LR 9) k)).toInt ≤ (LR 8 (mA (LR 8) (LR 9) k) * LR 9 k).toInt
        · rw [if_pos a] at i1 ⊢
          by_cases b : (LR 8 (lA (LR 8) (LR 9) k) * LR 9 k).toInt ≤ (LR 8 k * LR 9 (lA (LR 8) (LR 9) k)).toInt
          · rw [if_pos b] at i1 ⊢; exact i1
          · rw [if_neg b] at i1 ⊢; exact i1
        · rw [if_neg a] at i1 ⊢
          by_cases b : (LR 8 (lA (LR 8) (LR 9) k) * LR 9 k).toInt ≤ (LR 8 k * LR 9 (lA (LR 8) (LR 9) k)).toInt
          · rw [if_pos b] at i1 ⊢; exact i1
          · rw [if_neg b] at i1 ⊢; exact i1
set_option maxHeartbeats 1000000 in
theorem erC_l {c : Nat} {P4 : PI} {Y A : Nat → Int64} (hc : c ≤ 12) (h1 : P4 0 3 = nI c) (hY : ∀ j, j < c → (P4 2 j).toInt64 = Y j ∧ (P4 3 j).toInt64 = A j) (w : Int32) (K : Int64 → Int64 → Option (Int32 × PL)) : ∀ (r k n : Nat), k + r = c → r < n → f_Ground_reckon_18 P4 w K n (sY Y (isE P4 w) k) (sY A (isE P4 w) k) (nI k) = K (sY Y (isE P4 w) c) (sY A (isE P4 w) c) := by
  intro r
  induction r with
  | zero =>
    intro k n e hn
    obtain ⟨n, rfl⟩ : ∃ m, n = m + 1 := ⟨n - 1, by omega⟩
    have ek : k = c := by omega
    subst ek
    show f_Ground_reckon_18_b _ _ _ _ _ _ _ = _
    unfold f_Ground_reckon_18_b
    rw [h1, if_pos (nI_le (Nat.le_refl _) (by omega))]
  | succ r ih =>
    intro k n e hn
    obtain ⟨n, rfl⟩ : ∃ m, n = m + 1 := ⟨n - 1, by omega⟩
    have i1 := ih (k + 1) n (by omega) (by omega)
    have k12 : k < 12 := by omega
    show f_Ground_reckon_18_b P4 w K (f_Ground_reckon_18 P4 w K n) _ _ _ = _
    unfold f_Ground_reckon_18_b
    rw [h1, if_neg (nI_ge (by omega) (by omega))]
    simp only [letsN, jnsN, chkN k12 (by decide), nI_clamp (show k < 2 ^ 31 by omega), nI_1, (hY k (by omega)).1, (hY k (by omega)).2, Int32.le_iff_toInt_le, show (2 : Int32).toInt = 2 from rfl]
    simp only [sY] at i1
    by_cases hw : (1 : Int) < w.toInt
    · have eb : isE P4 w k = true := by unfold isE; rw [decide_eq_true_eq]; exact Or.inl hw
      simp only [eb, if_true] at i1
      rw [if_pos (show (2 : Int) ≤ w.toInt by omega)]
      exact i1
    · rw [if_neg (show ¬ (2 : Int) ≤ w.toInt by omega)]
      by_cases hp : P4 1 k = w
      · have eb : isE P4 w k = true := by unfold isE; rw [decide_eq_true_eq]; exact Or.inr hp
        simp only [eb, if_true] at i1
        rw [if_pos hp]
        exact i1
      · have eb : isE P4 w k = false := by unfold isE; rw [decide_eq_false_iff_not]; exact fun z => z.elim hw hp
        have nb : ¬ isE P4 w k = true := by rw [eb]; decide
        rw [if_neg nb, if_neg nb, addz, addz] at i1
        rw [if_neg hp]
        exact i1
theorem cross_c {P4 : PI} {Y A : Nat → Int64} {c : Nat} (hc : c ≤ 12) (hY : ∀ j, j < c → (P4 2 j).toInt64 = Y j ∧ (P4 3 j).toInt64 = A j) {i j : Nat} (hi : i < c) (hj : j < c) : f_Ground_cross P4 (nI i) (nI j) = some (Y i * A j) := by
  unfold f_Ground_cross
  rw [chkN (by omega) (by decide), chkN (by omega) (by decide), nI_clamp (by omega), nI_clamp (by omega), (hY i hi).1, (hY j hj).2]
set_option maxHeartbeats 1000000 in
theorem erD_l {c : Nat} {P4 : PI} {Y A : Nat → Int64} (hc : c ≤ 12) (h1 : P4 0 3 = nI c) (hY : ∀ j, j < c → (P4 2 j).toInt64 = Y j ∧ (P4 3 j).toInt64 = A j) (K : Int32 → Int32 → Option (Int32 × PL)) : ∀ (r k n : Nat), 0 < k → k + r = c → r < n → f_Ground_reckonDoubt_15 P4 K n (nI (mA Y A k)) (nI (lA Y A k)) (nI k) = K (nI (mA Y A c)) (nI (lA Y A c)) := by
  intro r
  induction r with
  | zero =>
    intro k n k0 e hn
    obtain ⟨n, rfl⟩ : ∃ m, n = m + 1 := ⟨n - 1, by omega⟩
    have ek : k = c := by omega
    subst ek
    show f_Ground_reckonDoubt_15_b _ _ _ _ _ _ = _
    unfold f_Ground_reckonDoubt_15_b
    rw [h1, if_pos (nI_le (Nat.le_refl _) (by omega))]
  | succ r ih =>
    intro k n k0 e hn
    obtain ⟨n, rfl⟩ : ∃ m, n = m + 1 := ⟨n - 1, by omega⟩
    have i1 := ih (k + 1) n (by omega) (by omega) (by omega)
    have m12 := (mA_lt Y A k).2 k0
    have l12 := (lA_lt Y A k).2 k0
    show f_Ground_reckonDoubt_15_b P4 K (f_Ground_reckonDoubt_15 P4 K n) _ _ _ = _
    unfold f_Ground_reckonDoubt_15_b
    rw [h1, if_neg (nI_ge (by omega) (by omega))]
    simp only [letsN, jnsN, bd1s, cross_c hc hY (show k < c by omega) (show mA Y A k < c by omega), cross_c hc hY (show mA Y A k < c by omega) (show k < c by omega), cross_c hc hY (show k < c by omega) (show lA Y A k < c by omega), cross_c hc hY (show lA Y A k < c by omega) (show k < c by omega), nI_1, lg_cmp_le, lg_cmp_ge, Int64.le_iff_toInt_le]
    simp only [mA, lA] at i1
    by_cases a : (Y k * A (mA Y A k)).toInt ≤ (Y (mA Y A k) * A k).toInt
    · rw [if_pos a] at i1 ⊢
      by_cases b : (Y (lA Y A k) * A k).toInt ≤ (Y k * A (lA Y A k)).toInt
      · rw [if_pos b] at i1 ⊢; exact i1
      · rw [if_neg b] at i1 ⊢; exact i1
    · rw [if_neg a] at i1 ⊢
      by_cases b : (Y (lA Y A k) * A k).toInt ≤ (Y k * A (lA Y A k)).toInt
      · rw [if_pos b] at i1 ⊢; exact i1
      · rw [if_neg b] at i1 ⊢; exact i1
theorem red_c {L : PL} {x y g : Int64} (h : f_Ground_commonDivisor x y = some g) (hg : 1 ≤ g.toInt) : ∃ M : PL, f_Ground_reduce L x y = some M ∧ M 0 4 = x / g ∧ M 0 5 = y / g := by
  have g0 : ¬ g = 0 := fun e => by rw [e] at hg; exact absurd hg (by decide)
  unfold f_Ground_reduce mb_dvl
  have h1 : 0 ≤ lg_cmp g 1 := (lg_cmp_ge _ _).mpr (Int64.le_iff_toInt_le.mpr hg)
  rw [h, bd1s, letsN, if_pos h1, if_neg g0, letsN, if_neg g0, letsN]
  exact ⟨_, rfl, by rw [uoL_ap, if_neg (by decide), uoL_ap, if_pos ⟨rfl, rfl⟩], by rw [uoL_ap, if_pos ⟨rfl, rfl⟩]⟩
theorem mul40 {x : Int64} (h0 : 0 ≤ x.toInt) (h : x.toInt ≤ 12000000) : (x * 40000).toInt = x.toInt * 40000 := by
  rw [fb_mulL (by show _ ≤ x.toInt * 40000; omega) (by show x.toInt * 40000 < _; omega)]; rfl
theorem mul1 {x : Int64} (h0 : 0 ≤ x.toInt) (h : x.toInt ≤ 12000000) : (x * 1000).toInt = x.toInt * 1000 := by
  rw [fb_mulL (by show _ ≤ x.toInt * 1000; omega) (by show x.toInt * 1000 < _; omega)]; rfl
theorem mulYA {x y : Int64} (h : 1 ≤ x.toInt ∧ x.toInt ≤ 1000000) (h2 : 1 ≤ y.toInt ∧ y.toInt ≤ 1000) : (x * y).toInt = x.toInt * y.toInt ∧ 1 ≤ x.toInt * y.toInt ∧ x.toInt * y.toInt ≤ 1000000000 := by
  have m : x.toInt * y.toInt ≤ 1000000 * 1000 := Int.mul_le_mul h.2 h2.2 (by omega) (by decide)
  have m0 : 1 * 1 ≤ x.toInt * y.toInt := Int.mul_le_mul h.1 h2.1 (by decide) (by omega)
  exact ⟨by rw [fb_mulL (by omega) (by omega)], by omega, by omega⟩
set_option maxHeartbeats 2000000 in
theorem st_earth {P4 PR : PI} {L4 LR : PL} (h : rGround P4 PR LR) (x1 x2 : Int32) : ∃ (r : Int64) (M : PL), f_One_earth P4 L4 x1 x2 = some (r, M) ∧ f_Ref_earth PR LR x1 x2 = some r := by
  obtain ⟨c, hc, h1, h2, h3⟩ := id h
  have hY : ∀ j, j < c → (P4 2 j).toInt64 = LR 8 j ∧ (P4 3 j).toInt64 = LR 9 j := fun j hj => ⟨(h3 j hj).2.1, (h3 j hj).2.2.1⟩
  have bY : ∀ j, j < c → 1 ≤ (LR 8 j).toInt ∧ (LR 8 j).toInt ≤ 1000000 := fun j hj => by rw [← (hY j hj).1, tt]; exact (h3 j hj).2.2.2.2.1
  have bA : ∀ j, j < c → 1 ≤ (LR 9 j).toInt ∧ (LR 9 j).toInt ≤ 1000 := fun j hj => by rw [← (hY j hj).2, tt]; exact (h3 j hj).2.2.2.2.2
  unfold f_One_earth f_Ref_earth
  simp only [wi_c, in_c, bd1s, ifz]
  simp only [tt, Int32.reduceToInt, Int64.reduceToInt]
  by_cases ok : (0 ≤ x1.toInt ∧ x1.toInt ≤ 4) ∧ (0 ≤ x2.toInt ∧ x2.toInt ≤ 1)
  · rw [if_pos ok.1, if_pos ok.2, if_pos ok.1, if_pos ok.2]
    have i0 := fun K => erR_l (LR := LR) hc h2 (fun j hj => (h3 j hj).1) x1 K c 0 mb_fu (by omega) (fu_lt (by omega))
    simp only [sY, mA, lA, nI_0] at i0
    simp only [letsN]
    rw [jnsN, i0]
    clear i0
    have rA := sY_rng (f := LR 9) (b := isE P4 x1) (m := 1) (M := 1000) (by decide) c hc bA
    have rY := sY_rng (f := LR 8) (b := isE P4 x1) (m := 1) (M := 1000000) (by decide) c hc bY
    have fin : ∀ (x y : Int64), 0 ≤ x.toInt → 1 ≤ y.toInt → y.toInt < 2 ^ 48 → ∃ (g : Int64) (M : PL), f_Ground_reduce L4 x y = some M ∧ M 0 4 = x / g ∧ M 0 5 = y / g ∧ f_Ref_common y x = some g ∧ ¬ g = 0 := by
      intro x y a b d
      obtain ⟨g, g1, g2, g3⟩ := gcd_c a b d
      obtain ⟨M, m1, m2, m3⟩ := red_c (L := L4) g1 g3
      exact ⟨g, M, m1, m2, m3, g2, fun e => by rw [e] at g3; exact absurd g3 (by decide)⟩
    by_cases w4 : x1 = 4
    · subst w4
      have allb : ∀ j, j < c → isE P4 4 j = true := fun j _ => by unfold isE; rw [decide_eq_true_eq]; exact Or.inl (by decide)
      have lo := rA.2.2 allb
      unfold f_Ground_reckon f_Ground_reckonDoubt
      rw [if_pos rfl, h1]
      by_cases c0 : c = 0
      · subst c0
        exact ⟨-4, L4, rfl, rfl⟩
      · have hs : ¬ lg_cmp (sY (LR 9) (isE P4 4) c) 0 = 0 := fun z => by
          have := (lg_cmp_eq _ _).mp z
          rw [this] at lo
          have : (c : Int) * 1 ≤ 0 := lo
          omega
        have j0 := fun K => erD_l hc h1 hY K (c - 1) 1 mb_fu (by decide) (by omega) (fu_lt (by omega))
        have m1 : mA (LR 8) (LR 9) 1 = 0 := by unfold mA; split <;> rfl
        have l1 : lA (LR 8) (LR 9) 1 = 0 := by unfold lA; split <;> rfl
        rw [m1, l1, nI_0] at j0
        have hm := (mA_lt (LR 8) (LR 9) c).2 (by omega)
        have hl := (lA_lt (LR 8) (LR 9) c).2 (by omega)
        rw [if_neg (nI_ne0 (by omega) (by omega)), if_neg hs]
        simp only [letsN, jnsN, show (1 : Int32) = nI 1 from rfl, j0]
        simp only [cross_c hc hY hm hl, cross_c hc hY hl hm, bd1s, chkN (show mA (LR 8) (LR 9) c < 12 by omega) (by decide), chkN (show lA (LR 8) (LR 9) c < 12 by omega) (by decide), nI_clamp (show mA (LR 8) (LR 9) c < 2 ^ 31 by omega), nI_clamp (show lA (LR 8) (LR 9) c < 2 ^ 31 by omega), (hY _ hm).2, (hY _ hl).2]
        have o := out_ord (LR 8) (LR 9) c
        have v1 := mulYA (bY _ hm) (bA _ hl)
        have v2 := mulYA (bY _ hl) (bA _ hm)
        have v3 := mulYA (x := LR 9 (mA (LR 8) (LR 9) c)) (y := LR 9 (lA (LR 8) (LR 9) c)) ⟨(bA _ hm).1, by have := (bA _ hm).2; omega⟩ (bA _ hl)
        obtain ⟨g, M, f1, f2, f3, f4, f5⟩ := fin (LR 8 (mA (LR 8) (LR 9) c) * LR 9 (lA (LR 8) (LR 9) c) - LR 8 (lA (LR 8) (LR 9) c) * LR 9 (mA (LR 8) (LR 9) c)) (LR 9 (mA (LR 8) (LR 9) c) * LR 9 (lA (LR 8) (LR 9) c)) (by rw [fb_subL (by omega) (by omega)]; omega) (by omega) (by omega)
        simp only [f1, f4, bd1s, bd2s, show ¬ (4 : Int32) = 3 by decide, if_false, show (3 : Int32) ≤ 4 by decide, if_true]
        unfold mb_z mb_dvl
        simp only [show nI 1 = 1 from rfl, or_true, if_true, if_neg f5, bd2s, show ¬ (1 : Int32) = 0 by decide, if_false]
        by_cases q : x2 = 0
        · exact ⟨_, M, by rw [if_pos q], by rw [if_pos q, f2]⟩
        · exact ⟨_, M, by rw [if_neg q], by rw [if_neg q, f3]⟩
    · unfold f_Ground_reckon
      rw [if_neg w4]
      have j0 := fun K => erC_l hc h1 hY x1 K c 0 mb_fu (by omega) (fu_lt (by omega))
      simp only [sY, nI_0] at j0
      simp only [letsN, jnsN, j0]
      by_cases hs : lg_cmp (sY (LR 9) (isE P4 x1) c) 0 = 0
      · rw [if_pos hs, if_pos hs]
        exact ⟨-4, L4, rfl, rfl⟩
      · rw [if_neg hs, if_neg hs]
        have hs1 : 1 ≤ (sY (LR 9) (isE P4 x1) c).toInt := by
          have : ¬ (sY (LR 9) (isE P4 x1) c).toInt = 0 := fun z => hs ((lg_cmp_eq _ _).mpr (Int64.toInt_inj.mp z))
          omega
        by_cases w3 : x1 = 3
        · rw [if_pos w3]
          have e1 := mul1 (x := sY (LR 9) (isE P4 x1) c) (by omega) (by omega)
          obtain ⟨g, M, f1, f2, f3, f4, f5⟩ := fin (sY (LR 8) (isE P4 x1) c) (sY (LR 9) (isE P4 x1) c * 1000) rY.1 (by omega) (by omega)
          rw [f1, bd1s, bd2s, if_neg (show ¬ (1 : Int32) = 0 by decide), if_pos (show (3 : Int32) ≤ x1 by rw [w3]; decide), if_pos w3, f4, bd1s]
          unfold mb_dvl
          rw [if_neg f5, if_neg f5]
          by_cases q : x2 = 0
          · exact ⟨_, M, by rw [if_pos q], by rw [if_pos q, f2]⟩
          · exact ⟨_, M, by rw [if_neg q], by rw [if_neg q, f3]⟩
        · rw [if_neg w3]
          have l3 : ¬ (3 : Int32) ≤ x1 := fun z => by
            have a : (3 : Int) ≤ x1.toInt := Int32.le_iff_toInt_le.mp z
            have : x1.toInt = 3 ∨ x1.toInt = 4 := by omega
            rcases this with t | t
            · exact w3 (Int32.toInt_inj.mp t)
            · exact w4 (Int32.toInt_inj.mp t)
          have e1 := mul40 (x := sY (LR 8) (isE P4 x1) c) (by omega) (by omega)
          obtain ⟨g, M, f1, f2, f3, f4, f5⟩ := fin (sY (LR 8) (isE P4 x1) c * 40000) (sY (LR 9) (isE P4 x1) c) (by omega) (by omega) (by omega)
          rw [f1, bd1s, bd2s, if_neg (show ¬ (1 : Int32) = 0 by decide), if_neg l3, f4, bd1s]
          unfold mb_dvl
          rw [if_neg f5, if_neg f5]
          by_cases q : x2 = 0
          · exact ⟨_, M, by rw [if_pos q], by rw [if_pos q, f2]⟩
          · exact ⟨_, M, by rw [if_neg q], by rw [if_neg q, f3]⟩
  · refine ⟨-1, L4, ?_, ?_⟩
    · (repeat' split) <;> first | rfl | (exfalso; omega)
    · (repeat' split) <;> first | rfl | (exfalso; omega)
