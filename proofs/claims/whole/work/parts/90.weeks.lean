theorem mulA {s z : Int32} (hs : 0 ≤ s.toInt ∧ s.toInt ≤ 1000) (hz : 0 ≤ z.toInt ∧ z.toInt ≤ 1000000) : 0 ≤ (s.toInt64 * z.toInt64).toInt ∧ (s.toInt64 * z.toInt64).toInt ≤ 1000000000 := by
  have m0 : 0 ≤ s.toInt * z.toInt := Int.mul_nonneg hs.1 hz.1
  have m1 : s.toInt * z.toInt ≤ 1000 * 1000000 := Int.mul_le_mul hs.2 hz.2 hz.1 (by decide)
  rw [fb_mulL (by rw [tt, tt]; omega) (by rw [tt, tt]; omega), tt, tt]
  omega
theorem absv_nn {r : Int32} (h : 0 ≤ r.toInt) : absv r = r := by
  unfold absv
  rw [if_pos (Int32.le_iff_toInt_le.mpr (by simpa using h))]
theorem absv_ng {r : Int32} (h : r.toInt < 0) : absv r = -r := by
  unfold absv
  rw [if_neg (fun q => by have := Int32.le_iff_toInt_le.mp q; simp only [Int32.reduceToInt] at this; omega)]
theorem i64s (a b : Int64) : a - -b = a + b := by rw [Int64.sub_eq_add_neg, Int64.neg_neg]
theorem i64z (a : Int64) : a - 0 = a := by
  apply Int64.toBitVec_inj.mp
  simp
/-- the two rows of a district behind a week's sales -/
def cz (A : Int64) (o : Int32) : Int64 := if 0 ≤ o then 0 else A * (absv o).toInt64 / 1000
def gz (A : Int64) (o : Int32) : Int64 := if o ≤ 0 then 0 else A * (absv o).toInt64 / 1000
theorem zer {x : Int64} (h1 : 0 ≤ x.toInt) (h2 : x.toInt ≤ 0) : x = 0 := Int64.toInt_inj.mp (by simp only [Int64.reduceToInt]; omega)
set_option maxHeartbeats 1000000 in
theorem sell_ok {P1 P9 : PI} {L9 : PL} {j u d : Nat} (hj : j < 12) (hu : u < 16) (eu : P9 3 j = nI u) (hd : d < 6) (ed : P9 4 j = nI d) (hs : 0 ≤ (P9 9 j).toInt ∧ (P9 9 j).toInt ≤ 1000) (hz : 0 ≤ (P1 2 u).toInt ∧ (P1 2 u).toInt ≤ 1000000) (hr : -500 ≤ (offv (P9 5 j) (P9 6 j) (P9 8 j)).toInt ∧ (offv (P9 5 j) (P9 6 j) (P9 8 j)).toInt ≤ 200) :
    ∃ LU : PL, f_Rods_sell P9 L9 P1 (nI j) = some LU ∧ ∀ x, LU 12 x = (if x = d then L9 12 d + cz ((P9 9 j).toInt64 * (P1 2 u).toInt64) (offv (P9 5 j) (P9 6 j) (P9 8 j)) else L9 12 x) ∧ LU 13 x = (if x = d then L9 13 d + gz ((P9 9 j).toInt64 * (P1 2 u).toInt64) (offv (P9 5 j) (P9 6 j) (P9 8 j)) else L9 13 x) := by
  have hA := mulA hs hz
  unfold f_Rods_sell f_Rods_shortIn
  simp only [chkN hj (by decide), nI_clamp (show j < 2 ^ 31 by omega), eu, ed, chkN hu (by decide), chkN hd (by decide), nI_clamp (show u < 2 ^ 31 by omega), nI_clamp (show d < 2 ^ 31 by omega), offC hj, bd1s, mb_dvl_of (show ¬ (1000 : Int64) = 0 by decide), letsN]
  generalize (P9 9 j).toInt64 * (P1 2 u).toInt64 = A at hA ⊢
  generalize offv (P9 5 j) (P9 6 j) (P9 8 j) = o at hr ⊢
  obtain ⟨s1, s2, s3, s4⟩ := short_v hA hr
  have t0 : ∀ T : Int64, lg_cmp T 0 ≤ 0 ↔ T.toInt ≤ 0 := fun T => by rw [lg_cmp_le, Int64.le_iff_toInt_le]; simp
  by_cases ho : 0 ≤ o.toInt
  · have o1 : 0 ≤ o := Int32.le_iff_toInt_le.mpr (by simpa using ho)
    have z0 := s2 ho
    rw [s1 ho, if_pos ((t0 _).mpr (by rw [negL (by omega)]; omega))]
    refine ⟨_, rfl, fun x => ⟨?_, ?_⟩⟩
    · rw [u2L_ap, if_neg (fun z => absurd z.1 (by decide))]
      unfold cz
      rw [if_pos o1]
      split
      · rename_i e; rw [e, Int64.add_zero]
      · rfl
    · rw [u2L_ap, i64s]
      unfold gz
      rw [absv_nn ho]
      by_cases ex : x = d
      · rw [if_pos ⟨rfl, ex⟩, if_pos ex]
        split
        · rename_i q
          have q1 := Int32.le_iff_toInt_le.mp q
          have e0 : o = 0 := Int32.toInt_inj.mp (by simp only [Int32.reduceToInt] at q1 ⊢; omega)
          rw [e0]
          have : A * (0 : Int32).toInt64 / 1000 = 0 := by
            apply Int64.toInt_inj.mp
            rw [tdv, fb_mulL (by rw [tt]; simp) (by rw [tt]; simp), tt]
            simp
          rw [this]
        · rfl
      · rw [if_neg (fun z => ex z.2), if_neg ex]
  · have hn : o.toInt < 0 := by omega
    have o1 : ¬ 0 ≤ o := fun q => ho (by have := Int32.le_iff_toInt_le.mp q; simpa using this)
    have o2 : o ≤ 0 := Int32.le_iff_toInt_le.mpr (by simp only [Int32.reduceToInt]; omega)
    have z0 := s3 (by omega)
    unfold cz gz
    rw [absv_ng hn, if_neg o1, if_pos o2]
    by_cases hT : (A * (-o).toInt64 / 1000).toInt ≤ 0
    · rw [if_pos ((t0 _).mpr hT), zer z0 hT]
      refine ⟨_, rfl, fun x => ⟨?_, ?_⟩⟩
      · rw [u2L_ap, if_neg (fun z => absurd z.1 (by decide)), Int64.add_zero]
        split
        · rename_i e; rw [e]
        · rfl
      · rw [u2L_ap, i64z, Int64.add_zero]
        by_cases ex : x = d
        · rw [if_pos ⟨rfl, ex⟩, if_pos ex]
        · rw [if_neg (fun z => ex z.2), if_neg ex]
    · rw [if_neg (fun q => hT ((t0 _).mp q))]
      refine ⟨_, rfl, fun x => ⟨?_, ?_⟩⟩
      · rw [u2L_ap]
        by_cases ex : x = d
        · rw [if_pos ⟨rfl, ex⟩, if_pos ex]
        · rw [if_neg (fun z => ex z.2), if_neg ex]
      · rw [u2L_ap, if_neg (fun z => absurd z.1 (by decide)), Int64.add_zero]
        split
        · rename_i e; rw [e]
        · rfl
theorem bit1 (y : Int32) : y &&& 1 = 0 ∨ y &&& 1 = 1 := by
  obtain ⟨j, hj, e⟩ := pk_andE y (m := 1) 1 (by decide)
  rcases (show j = 0 ∨ j = 1 by omega) with rfl | rfl
  · exact Or.inl e
  · exact Or.inr e
theorem nI_8 (a : Nat) : nI a + 8 = nI (a + 8) := nI_add a 8
set_option maxHeartbeats 4000000 in
/-- the reference's turn for a rod in hand -/
theorem gwk_b {PR : PI} {LR : PL} {c w i u d fw : Nat} {b : Bool} (hc : c ≤ 12) (hi : i < c) (hw : w ≤ 100) (h18 : PR 18 0 = nI c) (h20 : PR 20 0 = nI w) (h7 : PR 19 (8 * i + 7) = -1) (h5 : PR 19 (8 * i + 5) = nI fw) (hfw : fw ≤ w) (h0 : PR 19 (8 * i) = nI u) (hu : u < 16) (h1 : PR 19 (8 * i + 1) = nI d) (hd : d < 6) (vis : Int32) (hF : f_Ref_isFalse PR (nI (8 * i)) (nI (w - fw + 1)) (nI w) = some (if b = true then 1 else 0)) (K : PI → PL → Option (PI × PL)) (self : Int32 → PI → PL → Option (PI × PL)) :
    f_Ref_goWeek_2_b vis K self (nI (8 * i)) PR LR = (if ((vis >>> (nI d &&& 31)) &&& 1) = 1 then (if b = true then self (nI (8 * i + 8)) (mb_u2 PR 19 (8 * i + 7) (nI w)) else self (nI (8 * i + 8)) (mb_u2 PR 19 (8 * i + 6) 1)) else self (nI (8 * i + 8)) PR) (mb_u2L (mb_u2L LR 21 d (LR 21 d + cz ((PR 19 (8 * i + 4)).toInt64 * (PR 3 u).toInt64) (offv (PR 19 (8 * i + 2)) (PR 19 (8 * i + 3)) (nI (w - fw))))) 22 d (LR 22 d + gz ((PR 19 (8 * i + 4)).toInt64 * (PR 3 u).toInt64) (offv (PR 19 (8 * i + 2)) (PR 19 (8 * i + 3)) (nI (w - fw))))) := by
  unfold f_Ref_goWeek_2_b
  rw [zero3, cl0, h18, ix8, if_neg (nI_ge (by omega) (by omega))]
  simp only [nI_1, nI_4, nI_5, nI_6, nI_7, nI_8, chkN (show 8 * i < 288 by omega) (by decide), chkN (show 8 * i + 1 < 288 by omega) (by decide), chkN (show 8 * i + 4 < 288 by omega) (by decide), chkN (show 8 * i + 5 < 288 by omega) (by decide), chkN (show 8 * i + 6 < 288 by omega) (by decide), chkN (show 8 * i + 7 < 288 by omega) (by decide), nI_clamp (show 8 * i < 2 ^ 31 by omega), nI_clamp (show 8 * i + 1 < 2 ^ 31 by omega), nI_clamp (show 8 * i + 4 < 2 ^ 31 by omega), nI_clamp (show 8 * i + 5 < 2 ^ 31 by omega), nI_clamp (show 8 * i + 6 < 2 ^ 31 by omega), nI_clamp (show 8 * i + 7 < 2 ^ 31 by omega), zero3, cl0, h7, h5, h0, h1, h20, chkN hu (by decide), chkN (show d < 18 by omega) (by decide), nI_clamp (show u < 2 ^ 31 by omega), nI_clamp (show d < 2 ^ 31 by omega)]
  rw [if_neg (show ¬ (0 : Int32) ≤ -1 by decide), pk_sub hfw]
  simp only [letsN, offR (show 8 * i + 3 < 288 by omega), bd1s, absR, mb_dvl_of (show ¬ (1000 : Int64) = 0 by decide), jnsN, nI_1, hF, ifz]
  generalize (PR 19 (8 * i + 4)).toInt64 * (PR 3 u).toInt64 = A
  generalize offv (PR 19 (8 * i + 2)) (PR 19 (8 * i + 3)) (nI (w - fw)) = o
  unfold cz gz
  have e22 : ∀ q : Int64, (mb_u2L LR 21 d q) 22 d = LR 22 d := fun q => by rw [u2L_ap, if_neg (fun z => absurd z.1 (by decide))]
  simp only [chkN (show d < 18 by omega) (by decide), nI_clamp (show d < 2 ^ 31 by omega), e22]
  by_cases p1 : 0 ≤ o <;> by_cases p2 : o ≤ 0 <;> simp only [p1, p2, if_true, if_false] <;> by_cases p3 : ((vis >>> (nI d &&& 31)) &&& 1) = 1
  all_goals first
    | (rw [if_pos p3, if_pos p3]; cases b <;> rfl)
    | (rw [if_neg p3, if_neg p3])
