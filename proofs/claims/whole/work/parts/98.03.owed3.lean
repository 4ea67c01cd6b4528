/-! one unit's rents -/
def v0 (A S : Int32) : Int64 := A.toInt64 * S.toInt64 / 1000
def v1 (A S H : Int32) : Int64 := A.toInt64 * S.toInt64 * ((100 : Int32) + H).toInt64 / 100 / 1000
theorem tdv1 (x : Int64) : (x / 100).toInt = x.toInt.tdiv 100 := Int64.toInt_div_of_ne_right x 100 (by decide)
theorem v_nn {A S H : Int32} (hA : 1 ≤ A.toInt ∧ A.toInt ≤ 1000000) (hS : 1 ≤ S.toInt ∧ S.toInt ≤ 1000000) (hH : 0 ≤ H.toInt ∧ H.toInt ≤ 100) : 0 ≤ (v0 A S).toInt ∧ 0 ≤ (v1 A S H).toInt := by
  have m1 : A.toInt * S.toInt ≤ 1000000 * 1000000 := Int.mul_le_mul hA.2 hS.2 (by omega) (by decide)
  have m0 : 0 ≤ A.toInt * S.toInt := Int.mul_nonneg (by omega) (by omega)
  have e1 : (A.toInt64 * S.toInt64).toInt = A.toInt * S.toInt := by rw [fb_mulL (by rw [tt, tt]; omega) (by rw [tt, tt]; omega), tt, tt]
  have eH : ((100 : Int32) + H).toInt = 100 + H.toInt := by
    rw [fb_addI (by simp; omega) (by simp; omega)]; rfl
  have n1 : A.toInt * S.toInt * (100 + H.toInt) ≤ 1000000 * 1000000 * 200 := Int.mul_le_mul m1 (by omega) (by omega) (by decide)
  have n0 : 0 ≤ A.toInt * S.toInt * (100 + H.toInt) := Int.mul_nonneg m0 (by omega)
  have e2 : (A.toInt64 * S.toInt64 * ((100 : Int32) + H).toInt64).toInt = A.toInt * S.toInt * (100 + H.toInt) := by rw [fb_mulL (by rw [tt, e1, eH]; omega) (by rw [tt, e1, eH]; omega), tt, e1, eH]
  constructor
  · unfold v0; rw [tdv, e1]; exact Int.tdiv_nonneg m0 (by decide)
  · unfold v1; rw [tdv, tdv1, e2]; exact Int.tdiv_nonneg (Int.tdiv_nonneg n0 (by decide)) (by decide)
def stp0 (told s : Int32) (v : Int64) (L : PL) : PL := if s = 0 ∨ told = -4 ∨ told = 0 then rst L v else L
def stp1 (told s : Int32) (v : Int64) (L : PL) : PL := if ¬ s = 0 ∧ (told = -4 ∨ told = 1) then rst L v else L
def stp (told s A S H : Int32) (L : PL) : PL := stp1 told s (v1 A S H) (stp0 told s (v0 A S) L)
theorem dv1000 {α : Type} (x : Option α) : mb_dvl (1000 : Int64) x = x := by unfold mb_dvl; rw [if_neg (by decide)]
theorem dv100 {α : Type} (x : Option α) : mb_dvl (100 : Int64) x = x := by unfold mb_dvl; rw [if_neg (by decide)]
theorem and1 (x : Int32) : x &&& 1 = 1 ↔ ¬ x &&& 1 = 0 := by
  have : x &&& 1 = 0 ∨ x &&& 1 = 1 := by
    rcases Int32.le_total 0 0 with _ | _
    all_goals
      have h : (x.toBitVec &&& 1#32 = 0#32) ∨ (x.toBitVec &&& 1#32 = 1#32) := by
        have hh : x.toBitVec &&& 1#32 = BitVec.ofNat 32 (x.toBitVec.toNat % 2) := by
          apply BitVec.eq_of_toNat_eq
          rw [BitVec.toNat_and, BitVec.toNat_ofNat]
          show x.toBitVec.toNat &&& 1 = _
          rw [Nat.and_one_is_mod, BitVec.toNat_ofNat]; omega
        rcases Nat.mod_two_eq_zero_or_one x.toBitVec.toNat with z | z
        · left; rw [hh, z]
        · right; rw [hh, z]
      rcases h with h | h
      · left; exact Int32.toBitVec_inj.mp h
      · right; exact Int32.toBitVec_inj.mp h
  rcases this with h | h
  · rw [h]; decide
  · rw [h]; decide
theorem rst_sel (L : PL) (v : Int64) {α : Type} (S : Int32 → PL → Option α) (x : Int32) : (if lg_cmp (L 0 34) 0 < 0 then (if lg_cmp v (mb_uoL L 34 v 0 35) ≤ 0 then S x (mb_uoL (mb_uoL L 34 v) 35 (mb_uoL L 34 v 0 35)) else S x (mb_uoL (mb_uoL L 34 v) 35 v)) else (if 0 ≤ lg_cmp v (L 0 34) then (if lg_cmp v (mb_uoL L 34 (L 0 34) 0 35) ≤ 0 then S x (mb_uoL (mb_uoL L 34 (L 0 34)) 35 (mb_uoL L 34 (L 0 34) 0 35)) else S x (mb_uoL (mb_uoL L 34 (L 0 34)) 35 v)) else (if lg_cmp v (mb_uoL L 34 v 0 35) ≤ 0 then S x (mb_uoL (mb_uoL L 34 v) 35 (mb_uoL L 34 v 0 35)) else S x (mb_uoL (mb_uoL L 34 v) 35 v)))) = S x (rst L v) := by
  have s6 : ∀ (y : Int64), (mb_uoL L 34 y) 0 35 = L 0 35 := fun y => by rw [uoL_ap, if_neg (by decide)]
  simp only [lg_cmp_le, lg_cmp_ge, lg_cmp_lt, Int64.le_iff_toInt_le, Int64.lt_iff_toInt_lt, s6, show (0 : Int64).toInt = 0 from rfl]
  unfold rst
  by_cases a : (L 0 34).toInt < 0
  · rw [if_pos a, if_pos a]
    by_cases b : v.toInt ≤ (L 0 35).toInt
    · rw [if_pos b, if_pos b]
    · rw [if_neg b, if_neg b]
  · rw [if_neg a, if_neg a]
    by_cases c : (L 0 34).toInt ≤ v.toInt
    · rw [if_pos c, if_pos c]
      by_cases b : v.toInt ≤ (L 0 35).toInt
      · rw [if_pos b, if_pos b]
      · rw [if_neg b, if_neg b]
    · rw [if_neg c, if_neg c]
      by_cases b : v.toInt ≤ (L 0 35).toInt
      · rw [if_pos b, if_pos b]
      · rw [if_neg b, if_neg b]
set_option maxHeartbeats 1000000 in
theorem ly_0 {PR : PI} {q u : Nat} (hq : q + 4 < 50) (hu : u < 16) (bits told : Int32) (hb : ¬ (bits >>> (nI u &&& 31)) &&& 1 = 0) (K : PL → Option (Int32 × PL)) (self : Int32 → PL → Option (Int32 × PL)) (L : PL) : f_Ref_layOwed_92_b PR (nI q) bits told (nI u) K self 0 L = self 1 (stp0 told (PR 2 u) (v0 (PR 17 (q + 3)) (PR 3 u)) L) := by
  unfold f_Ref_layOwed_92_b
  rw [if_neg (by decide), if_pos ((and1 _).mpr hb), chkN hu (by decide)]
  simp only [nI_3, chkN (show q + 3 < 50 by omega) (by decide), chkN hu (by decide), nI_clamp (show q + 3 < 2 ^ 31 by omega), nI_clamp (show u < 2 ^ 31 by omega), dv1000, dv100, show ¬ (0 : Int32) = 1 by decide, show ¬ (1 : Int32) = 0 by decide, if_false, letsN, jnsN, if_true, show (0 : Int32) + 1 = 1 from rfl, eq_self]
  simp only [rst_sel]
  unfold stp0 v0
  by_cases s : PR 2 u = 0
  · rw [if_pos s, if_pos (Or.inl s)]
  · rw [if_neg s]
    by_cases t : told = -4
    · rw [if_pos t, if_pos (Or.inr (Or.inl t))]
    · rw [if_neg t]
      by_cases t2 : told = 0
      · rw [if_pos t2, if_pos (Or.inr (Or.inr t2))]
      · rw [if_neg t2]
        have n : ¬ (PR 2 u = 0 ∨ told = -4 ∨ told = 0) := fun z => z.elim s (fun z => z.elim t t2)
        rw [if_neg n]
set_option maxHeartbeats 1000000 in
theorem ly_1 {PR : PI} {q u : Nat} (hq : q + 4 < 50) (hu : u < 16) (bits told : Int32) (hb : ¬ (bits >>> (nI u &&& 31)) &&& 1 = 0) (K : PL → Option (Int32 × PL)) (self : Int32 → PL → Option (Int32 × PL)) (L : PL) : f_Ref_layOwed_92_b PR (nI q) bits told (nI u) K self 1 L = self 2 (stp1 told (PR 2 u) (v1 (PR 17 (q + 3)) (PR 3 u) (PR 4 u)) L) := by
  unfold f_Ref_layOwed_92_b
  rw [if_neg (by decide), if_pos ((and1 _).mpr hb), chkN hu (by decide)]
  simp only [nI_3, chkN (show q + 3 < 50 by omega) (by decide), chkN hu (by decide), nI_clamp (show q + 3 < 2 ^ 31 by omega), nI_clamp (show u < 2 ^ 31 by omega), dv1000, dv100, show ¬ (1 : Int32) = 0 by decide, if_false, letsN, jnsN, if_true, show (1 : Int32) + 1 = 2 from rfl, eq_self]
  simp only [rst_sel]
  unfold stp1 v1
  by_cases s : PR 2 u = 0
  · have n : ¬ (¬ PR 2 u = 0 ∧ (told = -4 ∨ told = 1)) := fun z => z.1 s
    rw [if_pos s, if_neg n]
  · rw [if_neg s]
    by_cases t : told = -4
    · rw [if_pos t, if_pos ⟨s, Or.inl t⟩]
    · rw [if_neg t]
      by_cases t2 : told = 1
      · rw [if_pos t2, if_pos ⟨s, Or.inr t2⟩]
      · rw [if_neg t2]
        have n : ¬ (¬ PR 2 u = 0 ∧ (told = -4 ∨ told = 1)) := fun z => z.2.elim t t2
        rw [if_neg n]
theorem ly_c {PR : PI} {q u : Nat} (hq : q + 4 < 50) (hu : u < 16) (bits told : Int32) (hb : ¬ (bits >>> (nI u &&& 31)) &&& 1 = 0) (K : PL → Option (Int32 × PL)) {n : Nat} (hn : 3 ≤ n) (L : PL) : f_Ref_layOwed_92 PR (nI q) bits told (nI u) K n 0 L = K (stp told (PR 2 u) (PR 17 (q + 3)) (PR 3 u) (PR 4 u) L) := by
  obtain ⟨n, rfl⟩ : ∃ m, n = m + 3 := ⟨n - 3, by omega⟩
  show f_Ref_layOwed_92_b PR _ _ _ _ _ (f_Ref_layOwed_92 PR (nI q) bits told (nI u) K (n + 2)) _ _ = _
  rw [ly_0 hq hu bits told hb]
  show f_Ref_layOwed_92_b PR _ _ _ _ _ (f_Ref_layOwed_92 PR (nI q) bits told (nI u) K (n + 1)) _ _ = _
  rw [ly_1 hq hu bits told hb]
  show f_Ref_layOwed_92_b PR _ _ _ _ _ (f_Ref_layOwed_92 PR (nI q) bits told (nI u) K n) _ _ = _
  unfold f_Ref_layOwed_92_b
  rw [if_pos (by decide)]
  rfl
theorem ly_n {PR : PI} {q u : Nat} (bits told : Int32) (hb : (bits >>> (nI u &&& 31)) &&& 1 = 0) (K : PL → Option (Int32 × PL)) {n : Nat} (hn : 3 ≤ n) (L : PL) : f_Ref_layOwed_92 PR (nI q) bits told (nI u) K n 0 L = K L := by
  obtain ⟨n, rfl⟩ : ∃ m, n = m + 1 := ⟨n - 1, by omega⟩
  show f_Ref_layOwed_92_b PR _ _ _ _ _ (f_Ref_layOwed_92 PR (nI q) bits told (nI u) K n) _ _ = _
  unfold f_Ref_layOwed_92_b
  rw [if_neg (by decide), if_neg (fun z => (and1 _).mp z hb)]
theorem stp_eq (told s A S H : Int32) (L : PL) : eqL [] [34, 35] L (stp told s A S H L) := by
  unfold stp stp1 stp0
  split
  · split
    · exact eqL_tr (rst_eq _ _) (rst_eq _ _)
    · exact rst_eq _ _
  · split
    · exact rst_eq _ _
    · exact eqL_rf _ _ _
set_option maxHeartbeats 1000000 in
/-- the class at one unit -/
theorem rk_c {P1 P8 PR : PI} {L8 LR : PL} {j u : Nat} (hj : j < 10) (hu : u < 16) (hc : (P1 0 3) = nI 16 ∨ ¬ (P1 0 3) ≤ nI u) (hlt : ¬ (P1 0 3) ≤ nI u) {bits rule told : Int32} (hr : hR rule told) (hb : ¬ (bits >>> (nI u &&& 31)) &&& 1 = 0) (e1 : P1 1 u = PR 2 u) (e2 : P1 2 u = PR 3 u) (e3 : P1 3 u = PR 4 u) (hA : 1 ≤ (P8 4 j).toInt ∧ (P8 4 j).toInt ≤ 1000000) (hU : uOk (PR 2 u) (PR 3 u) (PR 4 u)) (hI : oI P8 L8 LR) (self : Int32 → PI → PL → Option (Int32 × PI × PL)) : ∃ (U : PI) (M : PL), f_Papers_reckon_38_b P1 (nI j) bits rule self (nI u) P8 L8 = self (nI (u + 1)) U M ∧ eqx [] [8] P8 U ∧ oI U M (stp told (PR 2 u) (P8 4 j) (PR 3 u) (PR 4 u) LR) := by
  obtain ⟨hv0, hv1⟩ := v_nn hA ⟨hU.2.1, hU.2.2.1⟩ hU.2.2.2
  unfold f_Papers_reckon_38_b
  rw [if_neg hlt, if_neg hb, chkN hj (by decide), chkN hu (by decide), letsN, chkN hu (by decide)]
  simp only [nI_clamp (show j < 2 ^ 31 by omega), nI_clamp (show u < 2 ^ 31 by omega), e1, e2, e3, chkN hu (by decide), dv1000, dv100, letsN, jnsN, nI_1]
  have q8 : ∀ P : PI, eqx [] [8] P (mb_uo P 8 1) := fun P => eqx_uo (eqx_rf _ _ _) (by decide) _
  have w0 : (P8 4 j).toInt64 * (PR 3 u).toInt64 / 1000 = v0 (P8 4 j) (PR 3 u) := rfl
  have w1 : (P8 4 j).toInt64 * (PR 3 u).toInt64 * ((100 : Int32) + PR 4 u).toInt64 / 100 / 1000 = v1 (P8 4 j) (PR 3 u) (PR 4 u) := rfl
  rw [w0, w1]
  rcases hU.1 with s | s
  · obtain ⟨M, hM, iM⟩ := cons_ok hI hv0
    rw [s, if_neg (by decide)]
    simp only [if_true, hM]
    refine ⟨_, M, by rw [bd2s], q8 _, ?_⟩
    unfold stp stp1 stp0
    rw [if_neg (fun z => z.1 rfl), if_pos (Or.inl rfl)]
    exact iM
  · rw [s, if_pos rfl, if_neg (by decide)]
    have s1 : ¬ (1 : Int32) = 0 := by decide
    rcases hr with ⟨r1, r2⟩ | ⟨r1, r2 | r2⟩
    · obtain ⟨M, hM, iM⟩ := cons_ok hI hv0
      obtain ⟨M2, hM2, iM2⟩ := cons_ok iM hv1
      rw [r1, if_neg (by decide), hM]
      simp only [bd2s, if_neg s1, show ¬ (-1 : Int32) = 0 by decide, if_false, hM2]
      refine ⟨_, M2, rfl, eqx_tr (q8 _) (q8 _), ?_⟩
      unfold stp stp1 stp0
      rw [if_pos ⟨s1, Or.inl r2⟩, if_pos (Or.inr (Or.inl r2))]
      exact iM2
    · obtain ⟨M, hM, iM⟩ := cons_ok hI hv0
      rw [r2, if_neg (by decide), hM]
      simp only [bd2s, if_neg s1, if_true]
      refine ⟨_, M, rfl, q8 _, ?_⟩
      unfold stp stp1 stp0
      rw [← r1, r2, if_neg (by decide), if_pos (by decide)]
      exact iM
    · obtain ⟨M, hM, iM⟩ := cons_ok hI hv1
      rw [r2, if_pos rfl]
      simp only [if_neg s1, hM, bd2s]
      refine ⟨_, M, rfl, q8 _, ?_⟩
      unfold stp stp1 stp0
      rw [← r1, r2, if_pos (by decide), if_neg (by decide)]
      exact iM
