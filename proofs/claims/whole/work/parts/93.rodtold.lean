/-! rodTold -/
theorem worn_c {n c w j : Nat} {P9 PR : PI} {L9 LR : PL} (h : wkRel n c w P9 PR L9 LR) (hj : j < c) : ∃ wr : Nat, wr ≤ 101 ∧ P9 8 j = nI wr ∧ f_Ref_worn PR (nI (8 * j)) = some (nI wr) := by
  obtain ⟨h1, h2, h3, h4, h5, h6, h7, h8⟩ := h
  obtain ⟨⟨q0, q1, q2, q3, q4, q5, q6⟩, -, fw, wr, e7, e8, hz⟩ := h7 j hj
  refine ⟨wr, ?_, e8, ?_⟩
  · rcases hz with ⟨-, -, z⟩ | ⟨z, z0, -, -, z1⟩ <;> omega
  · unfold f_Ref_worn
    simp only [nI_7, nI_5, chkN (show 8 * j + 7 < 288 by omega) (by decide), chkN (show 8 * j + 5 < 288 by omega) (by decide), nI_clamp (show 8 * j + 7 < 2 ^ 31 by omega), nI_clamp (show 8 * j + 5 < 2 ^ 31 by omega), jnsN, zero3, cl0]
    rcases hz with ⟨z7, -, z⟩ | ⟨z, z0, z7, -, z1⟩
    · rw [z7, if_neg (by decide), h6, ← q5, e7, pk_sub (by omega)]
      congr 2
      omega
    · rw [z7, if_pos (nI_pos' (by omega)), ← q5, e7, nI_1, pk_sub (by omega)]
      congr 2
      omega
theorem rt_l {n c w j wr : Nat} {P9 PR : PI} {L9 LR : PL} (h : wkRel n c w P9 PR L9 LR) (hj : j < c) (hwr : wr ≤ 101) (e8 : P9 8 j = nI wr) (hW : f_Ref_worn PR (nI (8 * j)) = some (nI wr)) (hs : 1 ≤ (P9 9 j).toInt) (K : Int32 → Option Int32) : ∀ (r t f1 f2 : Nat), t + r = wr → r < f1 → r < f2 → ∃ b, f_Rods_falseSince_16 P9 (nI j) (PR 0 24) K f1 (nI t) = b ∧ f_Ref_rodTold_110 PR (nI (8 * j)) K f2 (nI t) = b := by
  have hc := h.1
  obtain ⟨⟨q0, q1, q2, q3, q4, q5, q6⟩, -⟩ := h.2.2.2.2.2.2.1 j hj
  intro r
  induction r with
  | zero =>
    intro t f1 f2 e hf1 hf2
    obtain ⟨f1, rfl⟩ : ∃ m, f1 = m + 1 := ⟨f1 - 1, by omega⟩
    obtain ⟨f2, rfl⟩ : ∃ m, f2 = m + 1 := ⟨f2 - 1, by omega⟩
    refine ⟨some (-1000), ?_, ?_⟩
    · show f_Rods_falseSince_16_b _ _ _ _ _ _ = _
      unfold f_Rods_falseSince_16_b
      rw [chkN (by omega) (by decide), nI_clamp (by omega), e8, if_pos (nI_le (by omega) (by omega))]
    · show f_Ref_rodTold_110_b _ _ _ _ _ = _
      unfold f_Ref_rodTold_110_b
      rw [hW, bd1s, if_pos (nI_le (by omega) (by omega))]
  | succ r ih =>
    intro t f1 f2 e hf1 hf2
    obtain ⟨f1, rfl⟩ : ∃ m, f1 = m + 1 := ⟨f1 - 1, by omega⟩
    obtain ⟨f2, rfl⟩ : ∃ m, f2 = m + 1 := ⟨f2 - 1, by omega⟩
    obtain ⟨b, i1, i2⟩ := ih (t + 1) f1 f2 (by omega) (by omega) (by omega)
    refine ⟨(if absv (offv (P9 5 j) (P9 6 j) (nI t)) ≤ PR 0 24 then b else K (nI t)), ?_, ?_⟩
    · show f_Rods_falseSince_16_b _ _ _ _ (f_Rods_falseSince_16 P9 (nI j) (PR 0 24) K f1) _ = _
      unfold f_Rods_falseSince_16_b
      rw [chkN (by omega) (by decide), nI_clamp (by omega), e8, if_neg (nI_ge (by omega) (by omega)), offC (by omega), bd1s, letsN, absC, letsN, nI_1, i1]
    · show f_Ref_rodTold_110_b _ _ _ (f_Ref_rodTold_110 PR (nI (8 * j)) K f2) _ = _
      unfold f_Ref_rodTold_110_b
      rw [hW, bd1s, if_neg (nI_ge (by omega) (by omega)), nI_4, chkN (by omega) (by decide), nI_clamp (by omega), ← q4, if_neg (fun z => by have := Int32.le_iff_toInt_le.mp z; simp only [Int32.reduceToInt] at this; omega), offR (by omega), bd1s, absR, bd1s, letsN, nI_1, i2, ← q2, ← q3]
theorem rtold_c (P0 : PI) (x1 : Int32) : f_Rods_told P0 x1 = some (if 0 ≤ x1.toInt ∧ x1.toInt < (P0 0 0).toInt then 1 else 0) := by
  unfold f_Rods_told
  simp only [Int32.lt_iff_toInt_lt, Int32.le_iff_toInt_le, show (0 : Int32).toInt = 0 from rfl]
  (repeat' split) <;> first | rfl | omega
set_option maxHeartbeats 1000000 in
theorem st_rodTold {n : Nat} {P0 P9 PR : PI} {L9 LR : PL} (h0 : rOwn P0 PR) (h : rRods 0 n P9 PR L9 LR) (x1 x2 : Int32) : ∃ r : Int32, f_One_rodTold P0 P9 x1 x2 = some r ∧ f_Ref_rodTold PR x1 x2 = some r := by
  obtain ⟨c, w, hk⟩ := wkRel_iff.mp h
  obtain ⟨h1, h2, h3, h4, h5, h6, h7, h8⟩ := id hk
  have e : (PR 18 0 - (1 : Int32)).toInt = (c : Int) - 1 := by rw [h5]; exact pk_sub_toInt (a := c) (b := 1) (by omega) (by omega)
  have k1 : (P9 0 0).toInt = (c : Int) := by rw [h3]; exact nI_toInt (by omega)
  unfold f_One_rodTold f_Ref_rodTold
  rw [zero3, cl0, rtold_c, wi_c, in_c, in_c, bd1s, bd1s, bd1s, bd1s, ifz, ifz, ifz, ifz]
  simp only [tt, e, k1, Int32.reduceToInt, Int64.reduceToInt]
  by_cases o1 : 0 ≤ x1.toInt ∧ x1.toInt < c
  · have o1' : 0 ≤ x1.toInt ∧ x1.toInt ≤ (c : Int) - 1 := by omega
    rw [if_pos o1, if_pos o1']
    by_cases o2 : 0 ≤ x2.toInt ∧ x2.toInt ≤ 3
    · obtain ⟨j, hj, rfl⟩ := ofI o1.1 o1.2 (by omega)
      obtain ⟨wr, w1, w2, w3⟩ := worn_c hk hj
      obtain ⟨⟨q0, q1, q2, q3, q4, q5, q6⟩, -, fw, wr2, e7, -, hz⟩ := h7 j hj
      rw [if_pos o2, if_pos o2, letsN, ix8]
      by_cases c0 : x2 = 0
      · rw [if_pos c0, if_pos c0, chkN (by omega) (by decide), nI_clamp (by omega), w2, w3, bd1s, offC (by omega), offR (by omega), bd1s, bd1s, ← q2, ← q3]
        exact ⟨_, rfl, rfl⟩
      rw [if_neg c0, if_neg c0]
      by_cases c1 : x2 = 1
      · rw [if_pos c1, if_pos c1, nI_6, chkN (by omega) (by decide), chkN (by omega) (by decide), nI_clamp (by omega), nI_clamp (by omega), ← q6]
        exact ⟨_, rfl, rfl⟩
      rw [if_neg c1, if_neg c1]
      by_cases c2 : x2 = 2
      · rw [if_pos c2, if_pos c2, nI_7, chkN (by omega) (by decide), chkN (by omega) (by decide), nI_clamp (by omega), nI_clamp (by omega)]
        rcases hz with ⟨z7, z11, -⟩ | ⟨z, z0, z7, z11, -⟩
        · exact ⟨0, by rw [z11], by rw [z7, if_neg (by decide)]⟩
        · exact ⟨1, by rw [z11], by rw [z7, if_pos (nI_pos' (by omega))]⟩
      have ek2 : (fun (x4_11 : Int32) => mb_chk (nI (8 * j) + (5 : Int32)) 288 (some ((PR 19 (nI (8 * j) + (5 : Int32)).toNatClampNeg) + x4_11))) = fun (x4_11 : Int32) => some (P9 7 j + x4_11) := by
        funext x
        rw [nI_5, chkN (by omega) (by decide), nI_clamp (by omega), q5]
      rw [if_neg c2, if_neg c2, letsN, jnsN, ek2]
      unfold f_Rods_falseSince
      have ek : (fun (x3_3 : Int32) => mb_chk (nI j) 12 (some ((P9 7 (nI j).toNatClampNeg) + x3_3))) = fun (x4_11 : Int32) => some (P9 7 j + x4_11) := by
        funext x
        rw [chkN (by omega) (by decide), nI_clamp (by omega)]
      rw [letsN, jnsN, ek, chkN (by omega) (by decide), nI_clamp (by omega), h0.2.1]
      by_cases hs : 1 ≤ (P9 9 j).toInt
      · rw [if_pos (Int32.le_iff_toInt_le.mpr (by simpa using hs))]
        obtain ⟨b, i1, i2⟩ := rt_l hk hj w1 w2 w3 hs (fun (x4_11 : Int32) => some (P9 7 j + x4_11)) wr 0 mb_fu mb_fu (by omega) (fu_lt (by omega)) (fu_lt (by omega))
        rw [nI_0] at i1 i2
        rw [i1, i2]
        have hb : ∃ v, b = some v := by
          rw [← i1]
          clear i1 i2 b
          have key : ∀ (r t f1 : Nat), t + r = wr → r < f1 → ∃ v, f_Rods_falseSince_16 P9 (nI j) (PR 0 24) (fun (x4_11 : Int32) => some (P9 7 j + x4_11)) f1 (nI t) = some v := by
            intro r
            induction r with
            | zero =>
              intro t f1 e hf1
              obtain ⟨f1, rfl⟩ : ∃ m, f1 = m + 1 := ⟨f1 - 1, by omega⟩
              refine ⟨-1000, ?_⟩
              show f_Rods_falseSince_16_b _ _ _ _ _ _ = _
              unfold f_Rods_falseSince_16_b
              rw [chkN (by omega) (by decide), nI_clamp (by omega), w2, if_pos (nI_le (by omega) (by omega))]
            | succ r ih =>
              intro t f1 e hf1
              obtain ⟨f1, rfl⟩ : ∃ m, f1 = m + 1 := ⟨f1 - 1, by omega⟩
              obtain ⟨v, i1⟩ := ih (t + 1) f1 (by omega) (by omega)
              refine ⟨(if absv (offv (P9 5 j) (P9 6 j) (nI t)) ≤ PR 0 24 then v else P9 7 j + nI t), ?_⟩
              show f_Rods_falseSince_16_b _ _ _ _ (f_Rods_falseSince_16 P9 (nI j) (PR 0 24) (fun (x4_11 : Int32) => some (P9 7 j + x4_11)) f1) _ = _
              unfold f_Rods_falseSince_16_b
              rw [chkN (by omega) (by decide), nI_clamp (by omega), w2, if_neg (nI_ge (by omega) (by omega)), offC (by omega), bd1s, letsN, absC, letsN, nI_1, i1]
              split <;> rfl
          have := key wr 0 mb_fu (by omega) (fu_lt (by omega))
          rw [nI_0] at this
          exact this
        obtain ⟨v, rfl⟩ := hb
        exact ⟨v, rfl, rfl⟩
      · rw [if_neg (fun z => hs (by have := Int32.le_iff_toInt_le.mp z; simpa using this)), bd1s]
        refine ⟨-1000, rfl, ?_⟩
        obtain ⟨f, ef⟩ : ∃ m, mb_fu = m + 1 := ⟨mb_fu - 1, by unfold mb_fu; rfl⟩
        rw [ef]
        show f_Ref_rodTold_110_b _ _ _ (f_Ref_rodTold_110 PR (nI (8 * j)) _ f) _ = _
        unfold f_Ref_rodTold_110_b
        rw [w3, bd1s, nI_4, chkN (by omega) (by decide), nI_clamp (by omega), ← q4]
        rw [if_pos (c := P9 9 j ≤ 0) (Int32.le_iff_toInt_le.mpr (by simp only [Int32.reduceToInt]; omega))]
        split <;> rfl
    · rw [if_neg o2, if_neg o2]
      exact ⟨_, rfl, rfl⟩
  · have o1' : ¬ (0 ≤ x1.toInt ∧ x1.toInt ≤ (c : Int) - 1) := by omega
    rw [if_neg o1, if_neg o1']
    exact ⟨_, rfl, rfl⟩
