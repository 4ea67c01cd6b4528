/-! count, cheated -/
theorem ix3 (k : Nat) : (3 : Int32) * nI k = nI (3 * k) := by
  show nI 3 * nI k = _
  rw [pk_mul]
theorem ix8 (k : Nat) : (8 : Int32) * nI k = nI (8 * k) := by
  show nI 8 * nI k = _
  rw [pk_mul]
theorem ct67 {n : Nat} {P2 PR : PI} (hT : rTables n P2 PR) : ∀ (r k m : Nat), k + r = 256 → r < m → f_Ref_count_67 PR m (nI (fb_ct (fun j => decide (P2 2 j ≠ 0)) k)) (nI k) = some (nI (fb_ct (fun j => decide (P2 2 j ≠ 0)) 256)) := by
  intro r
  induction r with
  | zero =>
    intro k m e hm
    obtain ⟨m, rfl⟩ : ∃ q, m = q + 1 := ⟨m - 1, by omega⟩
    have ek : k = 256 := by omega
    subst ek
    show f_Ref_count_67_b _ _ _ _ = _
    unfold f_Ref_count_67_b
    rw [if_pos (by decide)]
  | succ r ih =>
    intro k m e hm
    obtain ⟨m, rfl⟩ : ∃ q, m = q + 1 := ⟨m - 1, by omega⟩
    have i1 := ih (k + 1) m (by omega) (by omega)
    rw [fb_ct_succ] at i1
    show f_Ref_count_67_b _ (f_Ref_count_67 PR m) _ _ = _
    unfold f_Ref_count_67_b
    rw [if_neg (nge (y := 256) (b := 256) (by omega) (by decide) rfl)]
    simp only [ix3, chkN (show 3 * k < 768 by omega) (by decide), nI_clamp (show 3 * k < 2 ^ 31 by omega), jns, lets, nI_1]
    obtain ⟨e1, e2, e3⟩ := hT.2 k (by omega)
    rcases e3 with ⟨z1, z2⟩ | ⟨z1, -, z3, -⟩
    · rw [← e1, z1, if_pos (by decide)]
      rw [if_neg (by simp [z2]), Nat.add_zero] at i1
      rw [Int32.add_zero]
      exact i1
    · have q : ¬ P2 2 k = 0 := fun z => by rw [z] at z3; exact absurd z3 (by decide)
      rw [← e1, if_neg (fun z => by have := Int32.le_iff_toInt_le.mp z; simp only [Int32.reduceToInt] at this; omega)]
      rw [if_pos (by simp [q])] at i1
      exact i1
theorem rT_cnt {n : Nat} {P2 PR : PI} (hT : rTables n P2 PR) : f_Ref_count_67 PR mb_fu 0 0 = some (P2 0 3) := by
  have t := ct67 hT 256 0 mb_fu (by omega) (fu_lt (by omega))
  rw [← hT.1] at t
  rw [fb_ct, nI_0] at t
  exact t
theorem ct144 {n c : Nat} {w : Nat} {P9 PR : PI} (hc : c ≤ 12) (h1 : P9 0 0 = nI c) (h2 : PR 18 0 = nI c) (h3 : ∀ j, j < c → rdOk n w P9 PR j (96 * 0 + 8 * j)) (hw : w ≤ 100) : ∀ (r k m m2 : Nat) (a : Int32), k + r = c → r < m → r < m2 → ∃ b, f_Rods_howManySeized_4 P9 m a (nI k) = some b ∧ f_Ref_count_144 PR m2 a (nI k) = some b := by
  intro r
  induction r with
  | zero =>
    intro k m m2 a e hm hm2
    obtain ⟨m, rfl⟩ : ∃ q, m = q + 1 := ⟨m - 1, by omega⟩
    obtain ⟨m2, rfl⟩ : ∃ q, m2 = q + 1 := ⟨m2 - 1, by omega⟩
    refine ⟨a, ?_, ?_⟩
    · show f_Rods_howManySeized_4_b _ _ _ _ = _
      unfold f_Rods_howManySeized_4_b
      rw [h1, if_pos (nI_le (by omega) (by omega))]
    · show f_Ref_count_144_b _ _ _ _ = _
      unfold f_Ref_count_144_b
      rw [zero3, cl0, h2, if_pos (nI_le (by omega) (by omega))]
  | succ r ih =>
    intro k m m2 a e hm hm2
    obtain ⟨m, rfl⟩ : ∃ q, m = q + 1 := ⟨m - 1, by omega⟩
    obtain ⟨m2, rfl⟩ : ∃ q, m2 = q + 1 := ⟨m2 - 1, by omega⟩
    obtain ⟨b, i1, i2⟩ := ih (k + 1) m m2 (a + P9 11 k) (by omega) (by omega) (by omega)
    refine ⟨b, ?_, ?_⟩
    · show f_Rods_howManySeized_4_b _ (f_Rods_howManySeized_4 P9 m) _ _ = _
      unfold f_Rods_howManySeized_4_b
      rw [h1, if_neg (nI_ge (by omega) (by omega)), chkN (by omega) (by decide), nI_clamp (by omega), lets, lets, nI_1, i1]
    · show f_Ref_count_144_b _ (f_Ref_count_144 PR m2) _ _ = _
      unfold f_Ref_count_144_b
      rw [zero3, cl0, h2, if_neg (nI_ge (by omega) (by omega))]
      simp only [ix8, nI_7, chkN (show 8 * k + 7 < 288 by omega) (by decide), nI_clamp (show 8 * k + 7 < 2 ^ 31 by omega), jns, lets, nI_1]
      obtain ⟨-, -, fw, wr, -, -, hz⟩ := h3 k (by omega)
      simp only [Nat.mul_zero, Nat.zero_add] at hz
      rcases hz with ⟨z1, z2, -⟩ | ⟨z, z0, z1, z2, -⟩
      · rw [z1, if_neg (by decide)]
        rw [z2] at i2
        exact i2
      · rw [z1, if_pos (nI_pos' (by omega))]
        rw [z2] at i2
        exact i2
set_option maxHeartbeats 1000000 in
theorem st_count {n : Nat} {P0 P1 P2 P4 P5 P6 P7 P8 P9 PR : PI} {L9 LR : PL} (h1 : rUnits n P1 PR) (h2 : rTables n P2 PR) (h4 : rGround P4 PR LR) (h5 : rTrials P5 PR) (h6 : rScript P6 PR) (h7 : rDecrees P7 PR) (h8 : rPapers P8 PR) (h9 : rRods 0 n P9 PR L9 LR) (h0 : rOwn P0 PR) (x1 : Int32) : ∃ r : Int32, f_One_count P0 P1 P2 P4 P5 P6 P7 P8 P9 x1 = some r ∧ f_Ref_count PR x1 = some r := by
  by_cases c0 : x1 = 0
  · refine ⟨P1 0 3, ?_, ?_⟩
    · unfold f_One_count
      rw [if_pos c0]
    · unfold f_Ref_count
      rw [lets, if_pos c0, h1.2.1, h1.2.2.1]
  by_cases c1 : x1 = 1
  · refine ⟨P2 0 3, ?_, ?_⟩
    · unfold f_One_count
      rw [if_neg c0, if_pos c1]
    · unfold f_Ref_count
      rw [lets, if_neg c0, if_pos c1, lets, rT_cnt h2]
  by_cases c2 : x1 = 2
  · obtain ⟨c, -, a1, a2, -⟩ := h4
    refine ⟨P4 0 3, ?_, ?_⟩
    · unfold f_One_count
      rw [if_neg c0, if_neg c1, if_pos c2]
    · unfold f_Ref_count
      rw [lets, if_neg c0, if_neg c1, if_pos c2, a1, a2]
  by_cases c3 : x1 = 3
  · obtain ⟨c, -, a1, a2, -⟩ := h5
    refine ⟨P5 0 5, ?_, ?_⟩
    · unfold f_One_count
      rw [if_neg c0, if_neg c1, if_neg c2, if_pos c3]
    · unfold f_Ref_count
      rw [lets, if_neg c0, if_neg c1, if_neg c2, if_pos c3, a1, a2]
  by_cases c4 : x1 = 4
  · obtain ⟨⟨c, -, a1, a2⟩, -⟩ := h6
    refine ⟨P6 0 3, ?_, ?_⟩
    · unfold f_One_count
      rw [if_neg c0, if_neg c1, if_neg c2, if_neg c3, if_pos c4]
    · unfold f_Ref_count
      rw [lets, if_neg c0, if_neg c1, if_neg c2, if_neg c3, if_pos c4, a1, a2]
  by_cases c5 : x1 = 5
  · obtain ⟨c, -, a1, a2, -⟩ := h7
    refine ⟨P7 0 5, ?_, ?_⟩
    · unfold f_One_count
      rw [if_neg c0, if_neg c1, if_neg c2, if_neg c3, if_neg c4, if_pos c5]
    · unfold f_Ref_count
      rw [lets, if_neg c0, if_neg c1, if_neg c2, if_neg c3, if_neg c4, if_pos c5, one2, cl1, a1, a2]
  by_cases c6 : x1 = 6
  · obtain ⟨c, -, a1, a2, -⟩ := h8
    refine ⟨P8 0 5, ?_, ?_⟩
    · unfold f_One_count
      rw [if_neg c0, if_neg c1, if_neg c2, if_neg c3, if_neg c4, if_neg c5, if_pos c6]
    · unfold f_Ref_count
      rw [lets, if_neg c0, if_neg c1, if_neg c2, if_neg c3, if_neg c4, if_neg c5, if_pos c6, a1, a2]
  by_cases c7 : x1 = 7
  · obtain ⟨c, w, b1, b2, b3, b4, b5, b6, b7, b8⟩ := h9
    refine ⟨P9 0 0, ?_, ?_⟩
    · unfold f_One_count
      rw [if_neg c0, if_neg c1, if_neg c2, if_neg c3, if_neg c4, if_neg c5, if_neg c6, if_pos c7]
    · unfold f_Ref_count
      rw [lets, if_neg c0, if_neg c1, if_neg c2, if_neg c3, if_neg c4, if_neg c5, if_neg c6, if_pos c7, zero3, cl0, b3, b5]
  by_cases c8 : x1 = 8
  · obtain ⟨c, w, b1, b2, b3, b4, b5, b6, b7, b8⟩ := h9
    refine ⟨P9 0 1, ?_, ?_⟩
    · unfold f_One_count
      rw [if_neg c0, if_neg c1, if_neg c2, if_neg c3, if_neg c4, if_neg c5, if_neg c6, if_neg c7, if_pos c8]
    · unfold f_Ref_count
      rw [lets, if_neg c0, if_neg c1, if_neg c2, if_neg c3, if_neg c4, if_neg c5, if_neg c6, if_neg c7, if_pos c8, zero3, cl0, b4, b6]
  by_cases c9 : x1 = 9
  · obtain ⟨c, w, b1, b2, b3, b4, b5, b6, b7, b8⟩ := h9
    obtain ⟨b, e1, e2⟩ := ct144 b1 b3 b5 b7 b2 c 0 mb_fu mb_fu 0 (by omega) (fu_lt (by omega)) (fu_lt (by omega))
    rw [nI_0] at e1 e2
    have e1' : f_Rods_howManySeized P9 = some b := by
      unfold f_Rods_howManySeized
      rw [lets, lets, e1]
    refine ⟨b, ?_, ?_⟩
    · unfold f_One_count
      rw [if_neg c0, if_neg c1, if_neg c2, if_neg c3, if_neg c4, if_neg c5, if_neg c6, if_neg c7, if_neg c8, if_pos c9, e1', bd1s]
    · unfold f_Ref_count
      rw [lets, if_neg c0, if_neg c1, if_neg c2, if_neg c3, if_neg c4, if_neg c5, if_neg c6, if_neg c7, if_neg c8, if_pos c9, lets, e2]
  by_cases c10 : x1 = 10
  · refine ⟨P0 0 14, ?_, ?_⟩
    · unfold f_One_count
      rw [if_neg c0, if_neg c1, if_neg c2, if_neg c3, if_neg c4, if_neg c5, if_neg c6, if_neg c7, if_neg c8, if_neg c9, if_pos c10]
    · unfold f_Ref_count
      rw [lets, if_neg c0, if_neg c1, if_neg c2, if_neg c3, if_neg c4, if_neg c5, if_neg c6, if_neg c7, if_neg c8, if_neg c9, if_pos c10, h0.2.2.2.1]
  refine ⟨-1, ?_, ?_⟩
  · unfold f_One_count
    rw [if_neg c0, if_neg c1, if_neg c2, if_neg c3, if_neg c4, if_neg c5, if_neg c6, if_neg c7, if_neg c8, if_neg c9, if_neg c10]
  · unfold f_Ref_count
    rw [lets, if_neg c0, if_neg c1, if_neg c2, if_neg c3, if_neg c4, if_neg c5, if_neg c6, if_neg c7, if_neg c8, if_neg c9, if_neg c10]
set_option maxHeartbeats 1000000 in
theorem st_cheated {n : Nat} {P9 PR : PI} {L9 LR : PL} (h : rRods 0 n P9 PR L9 LR) (x1 x2 : Int32) : ∃ r : Int64, f_One_cheated L9 x1 x2 = some r ∧ f_Ref_cheated LR x1 x2 = some r := by
  obtain ⟨c, w, -, -, -, -, -, -, -, h8⟩ := h
  unfold f_One_cheated f_Ref_cheated
  simp only [dist_c, wi_c, in_c, bd1s, ifz]
  simp only [tt, Int32.reduceToInt, Int64.reduceToInt]
  by_cases o1 : 0 ≤ x1.toInt ∧ x1.toInt ≤ 5
  · by_cases o2 : 0 ≤ x2.toInt ∧ x2.toInt ≤ 1
    · obtain ⟨d, hd, rfl⟩ := ofI (n := 6) (x := x1) o1.1 (by omega) (by decide)
      obtain ⟨e1, e2⟩ := h8 d hd
      simp only [Nat.mul_zero, Nat.zero_add] at e1 e2
      simp only [if_pos o1, if_pos o2, chkN hd (by decide), chkN (show d < 18 by omega) (by decide), nI_clamp (show d < 2 ^ 31 by omega), ← e1, ← e2]
      split
      · exact ⟨_, rfl, rfl⟩
      · exact ⟨_, rfl, rfl⟩
    · simp only [if_pos o1, if_neg o2]
      exact ⟨_, rfl, rfl⟩
  · simp only [if_neg o1]
    exact ⟨_, rfl, rfl⟩
