theorem byteB (x : BitVec 64) {n : Nat} (hn : n + 8 ≤ 64) : (x >>> n) &&& 255#64 = (x.sshiftRight n) &&& 255#64 := by
  apply BitVec.eq_of_getLsbD_eq
  intro i hi
  rw [BitVec.getLsbD_and, BitVec.getLsbD_and, BitVec.getLsbD_ushiftRight, BitVec.getLsbD_sshiftRight]
  by_cases h8 : i < 8
  · rw [if_pos (by omega)]
    simp [show ¬ (64 ≤ i) by omega]
  · have e : (255#64).getLsbD i = false := by
      have : (255#64) = BitVec.ofNat 64 (2 ^ 8 - 1) := rfl
      rw [this, BitVec.getLsbD_ofNat, Nat.testBit_two_pow_sub_one]
      simp [h8]
    rw [e, Bool.and_false, Bool.and_false]
theorem byte_eq (v : Int64) {i : Nat} (hi : i < 8) : ((v.toUInt64 >>> (((8 : Int32) * nI i).toInt64.toUInt64 &&& Int64.toUInt64 63)).toInt64 &&& (255 : Int64)) = ((v >>> (((8 : Int32) * nI i).toInt64 &&& 63)) &&& (255 : Int64)) := by
  apply Int64.toBitVec_inj.mp
  rw [Int64.toBitVec_and, Int64.toBitVec_and, Int64.toBitVec_shiftRight]
  have e1 : ((v.toUInt64 >>> (((8 : Int32) * nI i).toInt64.toUInt64 &&& Int64.toUInt64 63)).toInt64).toBitVec = v.toBitVec >>> (8 * i) := by
    show (v.toUInt64 >>> (((8 : Int32) * nI i).toInt64.toUInt64 &&& Int64.toUInt64 63)).toBitVec = _
    rw [UInt64.toBitVec_shiftRight]
    rcases (show i = 0 ∨ i = 1 ∨ i = 2 ∨ i = 3 ∨ i = 4 ∨ i = 5 ∨ i = 6 ∨ i = 7 by omega) with rfl | rfl | rfl | rfl | rfl | rfl | rfl | rfl <;> rfl
  rw [e1]
  have e2 : v.toBitVec.sshiftRight' ((((8 : Int32) * nI i).toInt64 &&& 63).toBitVec.smod 64) = v.toBitVec.sshiftRight (8 * i) := by
    rcases (show i = 0 ∨ i = 1 ∨ i = 2 ∨ i = 3 ∨ i = 4 ∨ i = 5 ∨ i = 6 ∨ i = 7 by omega) with rfl | rfl | rfl | rfl | rfl | rfl | rfl | rfl <;> rfl
  rw [e2]
  exact byteB v.toBitVec (by omega)
theorem wr_l (v : Int64) : ∀ (i c n m : Nat) (P PR : PI), i < n → i < m → i ≤ 8 → c + i ≤ 300 → P 0 3 = nI c → PR 0 11 = nI c → (∀ j, j < 300 → P 1 j = PR 13 j) → ∃ U V : PI, f_Script_add_5 v n (nI i + (-1)) P = some (nI (c + i), U) ∧ f_Ref_write_34 v m (nI i + (-1)) PR = some (nI (c + i), V) ∧ U 0 3 = nI (c + i) ∧ V 0 11 = nI (c + i) ∧ (∀ j, j < 300 → U 1 j = V 13 j) ∧ eqx [13] [11] PR V := by
  intro i
  induction i with
  | zero =>
    intro c n m P PR hn hm _ hc h1 h2 h3
    obtain ⟨n, rfl⟩ : ∃ m, n = m + 1 := ⟨n - 1, by omega⟩
    obtain ⟨m, rfl⟩ : ∃ k, m = k + 1 := ⟨m - 1, by omega⟩
    refine ⟨P, PR, ?_, ?_, h1, h2, h3, eqx_rf _ _ _⟩
    · show f_Script_add_5_b _ _ _ _ = _
      unfold f_Script_add_5_b
      rw [if_pos (by decide), h1]
      rfl
    · show f_Ref_write_34_b _ _ _ _ = _
      unfold f_Ref_write_34_b
      rw [if_pos (by decide), h2]
      rfl
  | succ i ih =>
    intro c n m P PR hn hm h8 hc h1 h2 h3
    obtain ⟨n, rfl⟩ : ∃ m, n = m + 1 := ⟨n - 1, by omega⟩
    obtain ⟨m, rfl⟩ : ∃ k, m = k + 1 := ⟨m - 1, by omega⟩
    generalize hb : (((v >>> (((8 : Int32) * nI i).toInt64 &&& 63)) &&& (255 : Int64))).toInt32 = w
    obtain ⟨U, V, a1, a2, a3, a4, a5, a6⟩ := ih (c + 1) n m (mb_uo (mb_u2 P 1 c w) 3 (nI (c + 1))) (mb_uo (mb_u2 PR 13 c w) 11 (nI (c + 1))) (by omega) (by omega) (by omega) (by omega) (by simp [uo_ap]) (by simp [uo_ap]) (fun j hj => by simp [uo_ap, u2_ap, h3 j hj])
    refine ⟨U, V, ?_, ?_, by rw [a3]; congr 1; omega, by rw [a4]; congr 1; omega, a5, eqx_tr (eqx_uo (eqx_u2 (eqx_rf _ _ _) (by decide) (by decide) _ _) (by decide) _) a6⟩
    · show f_Script_add_5_b _ (f_Script_add_5 v n) _ _ = _
      unfold f_Script_add_5_b
      rw [pk_m1, if_neg (nI_pos (by omega)), h1, chkN (by omega) (by decide), nI_clamp (by omega), byte_eq v (by omega), hb]
      simp only [lets, u2_ap, Nat.reduceEqDiff, false_and, if_false, h1, nI_1]
      rw [a1]
      congr 3
      omega
    · show f_Ref_write_34_b _ (f_Ref_write_34 v m) _ _ = _
      unfold f_Ref_write_34_b
      rw [pk_m1, if_neg (nI_pos (by omega)), h2, chkN (by omega) (by decide), nI_clamp (by omega), hb]
      simp only [lets, u2_ap, Nat.reduceEqDiff, false_and, if_false, h2, nI_1]
      rw [a2]
      congr 3
      omega
set_option maxHeartbeats 1000000 in
theorem st_write {P6 PR : PI} (h : rScript P6 PR) (x1 : Int32) (v : Int64) : ∃ (r : Int32) (U V : PI), f_One_write P6 x1 v = some (r, U) ∧ f_Ref_write PR x1 v = some (r, V) ∧ rScript U V ∧ eqx [13] [11] PR V := by
  obtain ⟨⟨c, hc, h1, h2⟩, h3⟩ := id h
  unfold f_One_write f_Ref_write
  simp only [wi_c, in_c, bd1s, ifz, lets]
  simp only [tt, Int32.reduceToInt, Int64.reduceToInt]
  by_cases ok : 1 ≤ x1.toInt ∧ x1.toInt ≤ 8
  · obtain ⟨k, hk, rfl⟩ := ofI (n := 9) (x := x1) (by omega) (by omega) (by decide)
    simp only [if_pos ok, h1, h2, nI_add]
    by_cases hf : c + k ≤ 300
    · rw [if_pos (show nI (c + k) ≤ (300 : Int32) from nI_le (b := 300) hf (by decide)), if_pos (show nI (c + k) ≤ (300 : Int32) from nI_le (b := 300) hf (by decide))]
      obtain ⟨U, V, a1, a2, a3, a4, a5, a6⟩ := wr_l v k c mb_fu mb_fu P6 PR (fu_lt (by omega)) (fu_lt (by omega)) (by omega) hf h1 h2 h3
      have em : nI k - (1 : Int32) = nI k + (-1) := Int32.sub_eq_add_neg _ _
      refine ⟨nI (c + k), U, V, ?_, ?_, ⟨⟨c + k, hf, a3, a4⟩, a5⟩, a6⟩
      · unfold f_Script_add
        rw [lets, em, a1, bd2s]
      · rw [em, a2]
    · have e : ¬ nI (c + k) ≤ (300 : Int32) := nI_ge (a := 300) (b := c + k) (by omega) (by omega)
      rw [if_neg e, if_neg e]
      exact ⟨-3, P6, PR, rfl, rfl, h, eqx_rf _ _ _⟩
  · simp only [if_neg ok]
    exact ⟨-1, P6, PR, rfl, rfl, h, eqx_rf _ _ _⟩
