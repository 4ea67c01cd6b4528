/-! the step span -/
theorem edge_rng {x y : Nat} {s : Int32} (hx : 1 ≤ x ∧ x ≤ 10) (hy : 1 ≤ y ∧ y ≤ 10) (hs : 1 ≤ s.toInt ∧ s.toInt ≤ 1000000) : 0 ≤ ((nI y).toInt64 * s.toInt64 / (nI x).toInt64).toInt ∧ ((nI y).toInt64 * s.toInt64 / (nI x).toInt64).toInt ≤ 10000000 := by
  have ex : (nI x).toInt = x := nI_toInt (by omega)
  have ey : (nI y).toInt = y := nI_toInt (by omega)
  have m : (y : Int) * s.toInt ≤ 10 * 1000000 := Int.mul_le_mul (by omega) hs.2 (by omega) (by decide)
  have m0 : 0 ≤ (y : Int) * s.toInt := Int.mul_nonneg (by omega) (by omega)
  have e1 : ((nI y).toInt64 * s.toInt64).toInt = y * s.toInt := by rw [fb_mulL (by rw [tt, tt, ey]; omega) (by rw [tt, tt, ey]; omega), tt, tt, ey]
  rw [divp (by rw [ex]; omega), e1, ex]
  have n0 := Int.tdiv_nonneg (a := (y : Int) * s.toInt) (b := (x : Int)) m0 (by omega)
  have e := Int.tdiv_eq_ediv_of_nonneg (a := (y : Int) * s.toInt) (b := (x : Int)) m0
  have l := Int.ediv_le_self (a := (y : Int) * s.toInt) (x : Int) m0
  omega
def dR (f : Int64) (P : PI) (b : Int64) (bx by_ : Int32) : Prop := (f = b ∧ P 0 8 = bx ∧ P 0 9 = by_) ∨ (f = 9223372036854775807 ∧ b = 2000000)
set_option maxHeartbeats 2000000 in
theorem dv_in {L LR : PL} (hI : sI L LR) (hle : (LR 0 30).toInt ≤ (LR 0 31).toInt) {s : Int32} (hs : 1 ≤ s.toInt ∧ s.toInt ≤ 1000000) {x : Nat} (hx : 1 ≤ x ∧ x ≤ 10) (K : Int64 → PI → Option PI) (K2 : Int64 → Int32 → Int32 → Option (Int32 × PL)) : ∀ (r y n m : Nat) (f : Int64) (P : PI) (b : Int64) (bx by_ : Int32), y + r = 11 → 1 ≤ y → r < n → r < m → dR f P b bx by_ → ∃ (f2 : Int64) (P2 : PI) (b2 : Int64) (bx2 by2 : Int32), f_Trials_divide_17 L s.toInt64 (nI x) K n f (nI y) P = K f2 P2 ∧ f_Ref_span_137 LR s (nI x) K2 m b bx by_ (nI y) = K2 b2 bx2 by2 ∧ eqx [] [8, 9] P P2 ∧ dR f2 P2 b2 bx2 by2 ∧ (0 < r → f2 = b2 ∧ P2 0 8 = bx2 ∧ P2 0 9 = by2) ∧ ((f = b ∧ P 0 8 = bx ∧ P 0 9 = by_) → f2 = b2 ∧ P2 0 8 = bx2 ∧ P2 0 9 = by2) := by
  intro r
  obtain ⟨j1, j2, j3, j4, j5⟩ := hI
  induction r with
  | zero =>
    intro y n m f P b bx by_ e hy hn hm hd
    obtain ⟨n, rfl⟩ : ∃ m, n = m + 1 := ⟨n - 1, by omega⟩
    obtain ⟨m, rfl⟩ : ∃ z, m = z + 1 := ⟨m - 1, by omega⟩
    have ey : y = 11 := by omega
    subst ey
    refine ⟨f, P, b, bx, by_, ?_, ?_, eqx_rf _ _ _, hd, fun z => absurd z (by decide), fun z => z⟩
    · show f_Trials_divide_17_b _ _ _ _ _ _ _ _ = _
      unfold f_Trials_divide_17_b
      rw [if_pos (by decide)]
    · show f_Ref_span_137_b _ _ _ _ _ _ _ _ _ = _
      unfold f_Ref_span_137_b
      rw [if_pos (by decide)]
  | succ r ih =>
    intro y n m f P b bx by_ e hy hn hm hd
    obtain ⟨n, rfl⟩ : ∃ m, n = m + 1 := ⟨n - 1, by omega⟩
    obtain ⟨m, rfl⟩ : ∃ z, m = z + 1 := ⟨m - 1, by omega⟩
    have er := edge_rng hx (y := y) ⟨hy, by omega⟩ hs
    obtain ⟨lc, lb⟩ := left_c (L := L) (e := (nI y).toInt64 * s.toInt64 / (nI x).toInt64) (by rw [j1]; exact j3) (by rw [j1, j2]; exact hle) (by rw [j2]; exact j5) er
    rw [j1, j2] at lc lb
    have x0 : ¬ (nI x).toInt64 = 0 := ne64 (by rw [nI_toInt (by omega)]; omega)
    have y10 : ¬ (10 : Int32) < nI y := by
      show ¬ nI 10 < nI y
      exact nI_nlt (by omega) (by omega)
    generalize hv : mstv (LR 0 30) (LR 0 31) ((nI y).toInt64 * s.toInt64 / (nI x).toInt64) = v at *
    -- the reference's body
    have refb : ∀ S : Int64 → Int32 → Int32 → Int32 → Option (Int32 × PL), f_Ref_span_137_b LR s (nI x) K2 S b bx by_ (nI y) = (if b.toInt ≤ v.toInt then S b bx by_ (nI (y + 1)) else S v (nI x) (nI y) (nI (y + 1))) := by
      intro S
      unfold f_Ref_span_137_b mb_dvl
      rw [if_neg y10, if_neg x0]
      simp only [letsN, jnsN, lg_cmp_lt, lg_cmp_ge, lg_cmp_le, Int64.lt_iff_toInt_lt, Int64.le_iff_toInt_le, nI_1]
      rw [← hv]
      unfold mstv abv
      by_cases a : ((nI y).toInt64 * s.toInt64 / (nI x).toInt64).toInt < (LR 0 31).toInt
      · rw [if_pos a]
        by_cases b : (LR 0 30).toInt ≤ ((nI y).toInt64 * s.toInt64 / (nI x).toInt64).toInt
        · simp only [if_pos a, if_pos b]
          split <;> rfl
        · simp only [if_pos a, if_neg b]
          split <;> rfl
      · rw [if_neg a]
        simp only [if_neg a]
        split <;> rfl
    have clsb : f_Trials_divide_17_b L s.toInt64 (nI x) K (f_Trials_divide_17 L s.toInt64 (nI x) K n) f (nI y) P = (if v.toInt < f.toInt then f_Trials_divide_17 L s.toInt64 (nI x) K n v (nI (y + 1)) (mb_uo (mb_uo P 8 (nI x)) 9 (nI y)) else f_Trials_divide_17 L s.toInt64 (nI x) K n f (nI (y + 1)) P) := by
      unfold f_Trials_divide_17_b mb_dvl
      rw [if_neg y10, if_neg x0, lc, bd1s]
      simp only [letsN, lg_cmp_lt, Int64.lt_iff_toInt_lt, nI_1]
    have ov : 0 ≤ 0 := Nat.le_refl 0
    have upd : eqx [] [8, 9] P (mb_uo (mb_uo P 8 (nI x)) 9 (nI y)) := eqx_uo (eqx_uo (eqx_rf _ _ _) (by decide) _) (by decide) _
    have u8 : mb_uo (mb_uo P 8 (nI x)) 9 (nI y) 0 8 = nI x := by rw [uo_ap, if_neg (by decide), uo_ap, if_pos ⟨rfl, rfl⟩]
    have u9 : mb_uo (mb_uo P 8 (nI x)) 9 (nI y) 0 9 = nI y := by rw [uo_ap, if_pos ⟨rfl, rfl⟩]
    by_cases lt : v.toInt < f.toInt
    · have lt2 : ¬ b.toInt ≤ v.toInt := by
        rcases hd with ⟨d1, -, -⟩ | ⟨d1, d2⟩
        · rw [← d1]; omega
        · rw [d2]; show ¬ (2000000 : Int) ≤ _; omega
      obtain ⟨f2, P2, b2, bx2, by2, k1, k2, k3, k4, k5, k6⟩ := ih (y + 1) n m v (mb_uo (mb_uo P 8 (nI x)) 9 (nI y)) v (nI x) (nI y) (by omega) (by omega) (by omega) (by omega) (Or.inl ⟨rfl, u8, u9⟩)
      refine ⟨f2, P2, b2, bx2, by2, ?_, ?_, eqx_tr upd k3, k4, fun _ => k6 ⟨rfl, u8, u9⟩, fun _ => k6 ⟨rfl, u8, u9⟩⟩
      · show f_Trials_divide_17_b L s.toInt64 (nI x) K (f_Trials_divide_17 L s.toInt64 (nI x) K n) f (nI y) P = _
        rw [clsb, if_pos lt]; exact k1
      · show f_Ref_span_137_b LR s (nI x) K2 (f_Ref_span_137 LR s (nI x) K2 m) b bx by_ (nI y) = _
        rw [refb, if_neg lt2]; exact k2
    · have d0 : f = b ∧ P 0 8 = bx ∧ P 0 9 = by_ := by
        rcases hd with d | ⟨d1, d2⟩
        · exact d
        · rw [d1] at lt
          exact absurd (show v.toInt < 9223372036854775807 by omega) lt
      have lt2 : b.toInt ≤ v.toInt := by rw [← d0.1]; omega
      obtain ⟨f2, P2, b2, bx2, by2, k1, k2, k3, k4, k5, k6⟩ := ih (y + 1) n m f P b bx by_ (by omega) (by omega) (by omega) (by omega) hd
      refine ⟨f2, P2, b2, bx2, by2, ?_, ?_, k3, k4, fun _ => k6 d0, fun _ => k6 d0⟩
      · show f_Trials_divide_17_b L s.toInt64 (nI x) K (f_Trials_divide_17 L s.toInt64 (nI x) K n) f (nI y) P = _
        rw [clsb, if_neg lt]; exact k1
      · show f_Ref_span_137_b LR s (nI x) K2 (f_Ref_span_137 LR s (nI x) K2 m) b bx by_ (nI y) = _
        rw [refb, if_pos lt2]; exact k2
set_option maxHeartbeats 1000000 in
theorem dv_out {L LR : PL} (hI : sI L LR) (hle : (LR 0 30).toInt ≤ (LR 0 31).toInt) {s : Int32} (hs : 1 ≤ s.toInt ∧ s.toInt ≤ 1000000) (K2 : Int32 → Int32 → Option (Int32 × PL)) : ∀ (r x n m : Nat) (f : Int64) (P : PI) (b : Int64) (bx by_ : Int32), x + r = 11 → 1 ≤ x → r < n → r < m → dR f P b bx by_ → ∃ (P2 : PI) (bx2 by2 : Int32), f_Trials_divide_7 L s.toInt64 n f (nI x) P = some P2 ∧ f_Ref_span_127 LR s K2 m b bx by_ (nI x) = K2 bx2 by2 ∧ eqx [] [8, 9] P P2 ∧ ((0 < r ∨ (f = b ∧ P 0 8 = bx ∧ P 0 9 = by_)) → P2 0 8 = bx2 ∧ P2 0 9 = by2) := by
  intro r
  induction r with
  | zero =>
    intro x n m f P b bx by_ e hx hn hm hd
    obtain ⟨n, rfl⟩ : ∃ m, n = m + 1 := ⟨n - 1, by omega⟩
    obtain ⟨m, rfl⟩ : ∃ z, m = z + 1 := ⟨m - 1, by omega⟩
    have ex : x = 11 := by omega
    subst ex
    refine ⟨P, bx, by_, ?_, ?_, eqx_rf _ _ _, fun z => z.elim (fun z => absurd z (by decide)) (fun z => z.2)⟩
    · show f_Trials_divide_7_b _ _ _ _ _ _ = _
      unfold f_Trials_divide_7_b
      rw [if_pos (by decide)]
    · show f_Ref_span_127_b _ _ _ _ _ _ _ _ = _
      unfold f_Ref_span_127_b
      rw [if_pos (by decide)]
  | succ r ih =>
    intro x n m f P b bx by_ e hx hn hm hd
    obtain ⟨n, rfl⟩ : ∃ m, n = m + 1 := ⟨n - 1, by omega⟩
    obtain ⟨m, rfl⟩ : ∃ z, m = z + 1 := ⟨m - 1, by omega⟩
    have x10 : ¬ (10 : Int32) < nI x := by
      show ¬ nI 10 < nI x
      exact nI_nlt (by omega) (by omega)
    have q := fun K K2 => dv_in hI hle hs (x := x) ⟨hx, by omega⟩ K K2 10 1 mb_fu mb_fu f P b bx by_ (by decide) (by decide) (fu_lt (by decide)) (fu_lt (by decide)) hd
    obtain ⟨f2, P2, b2, bx2, by2, k1, k2, k3, k4, k5, k6⟩ := q (fun (x3_10 : Int64) (P0_11 : PI) => mb_let (nI x + (1 : Int32)) (fun (x5_14 : Int32) => f_Trials_divide_7 L s.toInt64 n x3_10 x5_14 P0_11)) (fun (x5_25 : Int64) (x7_26 : Int32) (x8_27 : Int32) => mb_let (nI x + (1 : Int32)) (fun (x9_30 : Int32) => f_Ref_span_127 LR s K2 m x5_25 x7_26 x8_27 x9_30))
    obtain ⟨P3, bx3, by3, l1, l2, l3, l4⟩ := ih (x + 1) n m f2 P2 b2 bx2 by2 (by omega) (by omega) (by omega) (by omega) k4
    refine ⟨P3, bx3, by3, ?_, ?_, eqx_tr k3 l3, fun _ => l4 (Or.inr (k5 (by decide)))⟩
    · show f_Trials_divide_7_b L s.toInt64 (f_Trials_divide_7 L s.toInt64 n) f (nI x) P = _
      unfold f_Trials_divide_7_b
      rw [if_neg x10, letsN, jnsN]
      refine Eq.trans k1 ?_
      rw [letsN, nI_1]
      exact l1
    · show f_Ref_span_127_b LR s K2 (f_Ref_span_127 LR s K2 m) b bx by_ (nI x) = _
      unfold f_Ref_span_127_b
      rw [if_neg x10, letsN, jnsN]
      refine Eq.trans k2 ?_
      rw [letsN, nI_1]
      exact l2
theorem rTrials_c {P5 U PR : PI} (h : rTrials P5 PR) (k : eqx [] [8, 9] P5 U) : rTrials U PR := by
  obtain ⟨c, hc, h1, h2, h3⟩ := h
  refine ⟨c, hc, by rw [k.2 5 (by decide)]; exact h1, h2, fun j hj => ?_⟩
  rw [k.1 1 (by decide) (by decide), k.1 2 (by decide) (by decide), k.1 3 (by decide) (by decide), k.1 4 (by decide) (by decide), k.1 5 (by decide) (by decide)]
  exact h3 j hj
set_option maxHeartbeats 2000000 in
theorem st_span {n : Nat} {P1 P5 PR : PI} (L5 LR : PL) (hu : rUnits n P1 PR) (h : rTrials P5 PR) (x1 x2 x3 x4 : Int32) : ∃ (r : Int32) (U : PI) (M V : PL), f_One_span P1 P5 L5 x1 x2 x3 x4 = some (r, U, M) ∧ f_Ref_span PR LR x1 x2 x3 x4 = some (r, V) ∧ rTrials U PR ∧ eqL [] [30, 31] LR V := by
  obtain ⟨c, hc, h1, h2, h3⟩ := id h
  obtain ⟨hn, u1, u2, u3, u4⟩ := id hu
  have e3 : (P1 0 3).toInt = n := by rw [u1]; exact nI_toInt (by omega)
  unfold f_One_span f_Ref_span
  simp only [told_c, isU_c PR _ hn u2, wi_c, in_c, bd1s, ifz]
  simp only [tt, e3, Int32.reduceToInt, Int64.reduceToInt]
  by_cases ok : (0 ≤ x1.toInt ∧ x1.toInt < n) ∧ (0 ≤ x2.toInt ∧ x2.toInt < n) ∧ (1 ≤ x3.toInt ∧ x3.toInt ≤ 1000000) ∧ (0 ≤ x4.toInt ∧ x4.toInt ≤ 3)
  · obtain ⟨o1, o2, o3, o4⟩ := ok
    simp only [if_pos o1, if_pos o2, if_pos o3, if_pos o4]
    by_cases eq : x1 = x2
    · exact ⟨-2, P5, L5, LR, by rw [if_pos eq], by rw [if_pos eq], h, eqL_rf _ _ _⟩
    · obtain ⟨i, hi, rfl⟩ := ofI o1.1 o1.2 (by omega)
      obtain ⟨j, hj, rfl⟩ := ofI o2.1 o2.2 (by omega)
      rw [if_neg eq, if_neg eq]
      have al : f_Units_alike P1 (nI i) (nI j) = some (if PR 2 i = PR 2 j then 1 else 0) := by
        unfold f_Units_alike
        rw [chkN (by omega) (by decide), chkN (by omega) (by decide), nI_clamp (by omega), nI_clamp (by omega), (u3 i (by omega)).1, (u3 j (by omega)).1]
        split <;> rfl
      rw [al, bd1s, ifz, chkN (by omega) (by decide), chkN (by omega) (by decide), nI_clamp (by omega), nI_clamp (by omega)]
      by_cases sm : PR 2 i = PR 2 j
      · rw [if_pos sm, if_pos sm]
        have s3 : 1 ≤ x3.toInt64.toInt ∧ x3.toInt64.toInt ≤ 1000000 := by rw [tt]; exact o3
        obtain ⟨M, V, k1, k2, k3, k4⟩ := sp_l hc h1 h2 h3 eq s3 c 0 mb_fu mb_fu (mb_uoL (mb_uoL L5 6 1) 7 1000000) (mb_uoL (mb_uoL LR 30 1) 31 1000000) (by omega) (fu_lt (by omega)) (fu_lt (by omega)) ⟨by rw [uoL_ap, if_neg (by decide), uoL_ap, if_pos ⟨rfl, rfl⟩, uoL_ap, if_neg (by decide), uoL_ap, if_pos ⟨rfl, rfl⟩], by rw [uoL_ap, if_pos ⟨rfl, rfl⟩, uoL_ap, if_pos ⟨rfl, rfl⟩], by rw [uoL_ap, if_neg (by decide), uoL_ap, if_pos ⟨rfl, rfl⟩]; decide, by rw [uoL_ap, if_pos ⟨rfl, rfl⟩]; decide, by rw [uoL_ap, if_pos ⟨rfl, rfl⟩]; decide⟩
        rw [Nat.mul_zero, nI_0] at k2
        rw [nI_0] at k1
        have kV : eqL [] [30, 31] LR V := eqL_tr (eqL_uo (eqL_uo (eqL_rf _ _ _) (by decide) _) (by decide) _) k4
        have n1 : f_Trials_narrow P5 L5 (nI i) (nI j) x3.toInt64 = some M := by
          unfold f_Trials_narrow
          rw [letsN, letsN, letsN]; exact k1
        have n2 : f_Ref_laySpan PR LR (nI i) (nI j) x3.toInt64 = some V := by
          unfold f_Ref_laySpan
          rw [letsN, letsN, letsN]; exact k2
        rw [n1, n2, bd1s, bd1s]
        obtain ⟨j1, j2, j3, j4, j5⟩ := id k3
        rw [j1, j2]
        by_cases le : lg_cmp (V 0 30) (V 0 31) ≤ 0
        · rw [if_pos le, if_pos le]
          have le2 : (V 0 30).toInt ≤ (V 0 31).toInt := Int64.le_iff_toInt_le.mp ((lg_cmp_le _ _).mp le)
          by_cases w0 : x4 = 0
          · subst w0
            exact ⟨_, P5, M, V, by rw [if_pos rfl], by rw [if_neg (by decide), if_pos rfl], h, kV⟩
          · by_cases w1 : x4 = 1
            · subst w1
              exact ⟨_, P5, M, V, by rw [if_neg (by decide), if_pos rfl], by rw [if_neg (by decide), if_neg (by decide)], h, kV⟩
            · have w2 : (2 : Int32) ≤ x4 := Int32.le_iff_toInt_le.mpr (by
                have a0 : ¬ x4.toInt = 0 := fun z => w0 (Int32.toInt_inj.mp z)
                have a1 : ¬ x4.toInt = 1 := fun z => w1 (Int32.toInt_inj.mp z)
                show (2 : Int) ≤ _
                omega)
              rw [if_neg w0, if_neg w1, if_pos w2]
              obtain ⟨P2, bx, by2, l1, l2, l3, l4⟩ := dv_out k3 le2 o3 (fun (x7_12 : Int32) (x8_13 : Int32) => (if x4 = (2 : Int32) then some (x7_12, V) else some (x8_13, V))) 10 1 mb_fu mb_fu 9223372036854775807 P5 2000000 0 0 (by decide) (by decide) (fu_lt (by decide)) (fu_lt (by decide)) (Or.inr ⟨rfl, rfl⟩)
              have l5 := l4 (Or.inl (by decide))
              have d1 : f_Trials_divide P5 M x3.toInt64 = some P2 := by
                unfold f_Trials_divide
                rw [letsN, letsN]; exact l1
              rw [d1, bd1s, letsN, letsN, letsN, letsN, jnsN]
              have l2' := l2
              rw [show nI 1 = (1 : Int32) from rfl] at l2'
              rw [l2', ← l5.1, ← l5.2]
              by_cases w : x4 = 2
              · exact ⟨_, P2, M, V, by rw [if_pos w], by rw [if_pos w], rTrials_c h l3, kV⟩
              · exact ⟨_, P2, M, V, by rw [if_neg w], by rw [if_neg w], rTrials_c h l3, kV⟩
        · exact ⟨-4, P5, M, V, by rw [if_neg le], by rw [if_neg le], h, kV⟩
      · exact ⟨-2, P5, L5, LR, by rw [if_neg sm], by rw [if_neg sm], h, eqL_rf _ _ _⟩
  · refine ⟨-1, P5, L5, LR, ?_, ?_, h, eqL_rf _ _ _⟩
    · (repeat' split) <;> first | rfl | (exfalso; omega)
    · (repeat' split) <;> first | rfl | (exfalso; omega)
