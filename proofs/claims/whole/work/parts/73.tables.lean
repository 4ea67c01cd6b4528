def grain (g d : Int32) : Prop := (d = 0 ∧ g = 1000) ∨ (d = 1 ∧ g = 100) ∨ (d = 2 ∧ g = 10) ∨ (d = 3 ∧ g = 1)
def tOk (n j : Nat) (p q g d : Int32) : Prop := (p = 0 ∧ q = 0) ∨ (1 ≤ p.toInt ∧ p.toInt ≤ 10000 ∧ 1 ≤ q.toInt ∧ q.toInt ≤ 10000 ∧ grain g d ∧ j / 16 < n ∧ j % 16 < n ∧ j / 16 ≠ j % 16)
def rTables (n : Nat) (P2 PR : PI) : Prop := P2 0 3 = nI (fb_ct (fun j => decide (P2 2 j ≠ 0)) 256) ∧ ∀ j, j < 256 → P2 1 j = PR 5 (3 * j) ∧ P2 2 j = PR 5 (3 * j + 1) ∧ tOk n j (P2 1 j) (P2 2 j) (P2 3 j) (PR 5 (3 * j + 2))
/-- an amount by a table -/
def trn (p q g : Int32) (x : Int64) : Int64 := x * p.toInt64 / q.toInt64 - (x * p.toInt64 / q.toInt64 - x * p.toInt64 / q.toInt64 / g.toInt64 * g.toInt64)
theorem ne64 {q : Int32} (h : 1 ≤ q.toInt) : ¬ q.toInt64 = 0 := fun e => by
  have := congrArg Int64.toInt e
  rw [tt] at this
  simp at this
  omega
theorem ixC (f t : Nat) : nI f * (16 : Int32) + nI t = nI (f * 16 + t) := by
  show nI f * nI 16 + nI t = _
  rw [pk_mul, nI_add]
theorem ixR (f t : Nat) : (3 : Int32) * ((16 : Int32) * nI f + nI t) = nI (3 * (f * 16 + t)) := by
  show nI 3 * (nI 16 * nI f + nI t) = _
  rw [pk_mul, nI_add, pk_mul, Nat.mul_comm 16 f]
theorem has_c {P2 : PI} {f t : Nat} (hf : f < 16) (ht : t < 16) : f_Tables_has P2 (nI f) (nI t) = some (if 1 ≤ (P2 2 (f * 16 + t)).toInt then 1 else 0) := by
  unfold f_Tables_has
  simp only [ixC, chkN (show f * 16 + t < 256 by omega) (by decide), nI_clamp (show f * 16 + t < 2 ^ 31 by omega), Int32.le_iff_toInt_le, Int32.reduceToInt]
  (repeat' split) <;> first | rfl | (exfalso; omega)
theorem hasR_c {PR : PI} {f t : Nat} (hf : f < 16) (ht : t < 16) : f_Ref_hasTable PR (nI f) (nI t) = some (if 1 ≤ (PR 5 (3 * (f * 16 + t))).toInt then 1 else 0) := by
  unfold f_Ref_hasTable
  simp only [ixR, chkN (show 3 * (f * 16 + t) < 768 by omega) (by decide), nI_clamp (show 3 * (f * 16 + t) < 2 ^ 31 by omega), Int32.le_iff_toInt_le, Int32.reduceToInt]
  (repeat' split) <;> first | rfl | (exfalso; omega)
theorem turned_c {P2 : PI} {f t : Nat} (hf : f < 16) (ht : t < 16) (x : Int64) (hq : 1 ≤ (P2 2 (f * 16 + t)).toInt) (hg : 1 ≤ (P2 3 (f * 16 + t)).toInt) : f_Tables_turned P2 (nI f) (nI t) x = some (trn (P2 1 (f * 16 + t)) (P2 2 (f * 16 + t)) (P2 3 (f * 16 + t)) x) := by
  unfold f_Tables_turned
  simp only [lets, ixC, chkN (show f * 16 + t < 256 by omega) (by decide), nI_clamp (show f * 16 + t < 2 ^ 31 by omega), mb_dvl_of (ne64 hq), mb_dvl_of (ne64 hg), Int32.lt_iff_toInt_lt, Int32.le_iff_toInt_le, Int32.reduceToInt]
  rw [if_neg (by omega), if_pos hg]
  rfl
theorem turnedR_c {PR : PI} {f t : Nat} (hf : f < 16) (ht : t < 16) (x : Int64) {g : Int32} (hq : 1 ≤ (PR 5 (3 * (f * 16 + t) + 1)).toInt) (hg : grain g (PR 5 (3 * (f * 16 + t) + 2))) : f_Ref_turned PR (nI f) (nI t) x = some (trn (PR 5 (3 * (f * 16 + t))) (PR 5 (3 * (f * 16 + t) + 1)) g x) := by
  unfold f_Ref_turned
  simp only [lets, jns, ixR, nI_1, nI_2, chkN (show 3 * (f * 16 + t) < 768 by omega) (by decide), chkN (show 3 * (f * 16 + t) + 1 < 768 by omega) (by decide), chkN (show 3 * (f * 16 + t) + 2 < 768 by omega) (by decide), nI_clamp (show 3 * (f * 16 + t) < 2 ^ 31 by omega), nI_clamp (show 3 * (f * 16 + t) + 1 < 2 ^ 31 by omega), nI_clamp (show 3 * (f * 16 + t) + 2 < 2 ^ 31 by omega), mb_dvl_of (ne64 hq)]
  rcases hg with ⟨e, rfl⟩ | ⟨e, rfl⟩ | ⟨e, rfl⟩ | ⟨e, rfl⟩ <;> rw [e] <;> rfl
theorem grain_pos {g d : Int32} (h : grain g d) : 1 ≤ g.toInt := by
  rcases h with ⟨-, rfl⟩ | ⟨-, rfl⟩ | ⟨-, rfl⟩ | ⟨-, rfl⟩ <;> decide
/-- a table is there for both, or for neither -/
theorem rT_has {n : Nat} {P2 PR : PI} (h : rTables n P2 PR) {f t : Nat} (hf : f < 16) (ht : t < 16) : f_Ref_hasTable PR (nI f) (nI t) = f_Tables_has P2 (nI f) (nI t) := by
  rw [has_c hf ht, hasR_c hf ht]
  obtain ⟨e1, e2, e3⟩ := h.2 (f * 16 + t) (by omega)
  rw [← e1]
  rcases e3 with ⟨z1, z2⟩ | ⟨z1, z2, z3, z4, -⟩
  · rw [z1, z2]
  · rw [if_pos z1, if_pos z3]
theorem rT_turned {n : Nat} {P2 PR : PI} (h : rTables n P2 PR) {f t : Nat} (hf : f < 16) (ht : t < 16) (x : Int64) (hh : 1 ≤ (P2 2 (f * 16 + t)).toInt) : f_Tables_turned P2 (nI f) (nI t) x = some (trn (P2 1 (f * 16 + t)) (P2 2 (f * 16 + t)) (P2 3 (f * 16 + t)) x) ∧ f_Ref_turned PR (nI f) (nI t) x = some (trn (P2 1 (f * 16 + t)) (P2 2 (f * 16 + t)) (P2 3 (f * 16 + t)) x) := by
  obtain ⟨e1, e2, e3⟩ := h.2 (f * 16 + t) (by omega)
  rcases e3 with ⟨z1, z2⟩ | ⟨z1, z2, z3, z4, z5, -⟩
  · rw [z2] at hh
    exact absurd hh (by decide)
  · refine ⟨turned_c hf ht x hh (grain_pos z5), ?_⟩
    rw [turnedR_c hf ht x (g := P2 3 (f * 16 + t)) (by rw [← e2]; exact hh) z5, ← e1, ← e2]
theorem asked_c {n : Nat} (hn : n ≤ 16) {PR : PI} (h2 : PR 0 0 = nI n) (x1 x2 x3 : Int32) : f_Ref_areAsked PR x1 x2 x3 = some (if (0 ≤ x1.toInt ∧ x1.toInt < n) ∧ (0 ≤ x2.toInt ∧ x2.toInt < n) ∧ 0 ≤ x3.toInt ∧ x3.toInt ≤ 1000000000 then 1 else 0) := by
  unfold f_Ref_areAsked
  simp only [isU_c PR _ hn h2, in_c, bd1s, ifz, tt, Int64.reduceToInt]
  (repeat' split) <;> first | rfl | (exfalso; omega)
set_option maxHeartbeats 1000000 in
theorem st_turn {n : Nat} {P1 P2 PR : PI} (h : rUnits n P1 PR) (hT : rTables n P2 PR) (x1 x2 x3 : Int32) : ∃ r : Int64, f_One_turn P1 P2 x1 x2 x3 = some r ∧ f_Ref_turn PR x1 x2 x3 = some r := by
  obtain ⟨hn, h1, h2, -, -⟩ := id h
  have k1 : (P1 0 3).toInt = (n : Int) := by rw [h1]; exact nI_toInt (by omega)
  unfold f_One_turn f_Ref_turn
  simp only [told_c, wi_c, asked_c hn h2, bd1s, ifz, k1, Int32.reduceToInt]
  by_cases ok : (0 ≤ x1.toInt ∧ x1.toInt < n) ∧ (0 ≤ x2.toInt ∧ x2.toInt < n) ∧ 0 ≤ x3.toInt ∧ x3.toInt ≤ 1000000000
  · obtain ⟨f, hf, rfl⟩ := ofI ok.1.1 ok.1.2 (by omega)
    obtain ⟨t, ht, rfl⟩ := ofI ok.2.1.1 ok.2.1.2 (by omega)
    simp only [if_pos ok, if_pos ok.1, if_pos ok.2.1, if_pos ok.2.2, rT_has hT (show f < 16 by omega) (show t < 16 by omega), has_c (P2 := P2) (show f < 16 by omega) (show t < 16 by omega), bd1s, ifz]
    by_cases hh : 1 ≤ (P2 2 (f * 16 + t)).toInt
    · obtain ⟨a1, a2⟩ := rT_turned hT (show f < 16 by omega) (show t < 16 by omega) (x3.toInt64) hh
      exact ⟨_, by rw [if_pos hh, a1]; rfl, by rw [if_pos hh, a2]; rfl⟩
    · exact ⟨-2, by rw [if_neg hh], by rw [if_neg hh]⟩
  · refine ⟨-1, ?_, by rw [if_neg ok]⟩
    (repeat' split) <;> first | rfl | (exfalso; omega)
set_option maxHeartbeats 1000000 in
theorem st_lost {n : Nat} {P1 P2 PR : PI} (h : rUnits n P1 PR) (hT : rTables n P2 PR) (x1 x2 x3 : Int32) : ∃ r : Int64, f_One_lost P1 P2 x1 x2 x3 = some r ∧ f_Ref_lost PR x1 x2 x3 = some r := by
  obtain ⟨hn, h1, h2, -, -⟩ := id h
  have k1 : (P1 0 3).toInt = (n : Int) := by rw [h1]; exact nI_toInt (by omega)
  unfold f_One_lost f_Ref_lost
  simp only [told_c, wi_c, asked_c hn h2, bd1s, ifz, k1, Int32.reduceToInt]
  by_cases ok : (0 ≤ x1.toInt ∧ x1.toInt < n) ∧ (0 ≤ x2.toInt ∧ x2.toInt < n) ∧ 0 ≤ x3.toInt ∧ x3.toInt ≤ 1000000000
  · obtain ⟨f, hf, rfl⟩ := ofI ok.1.1 ok.1.2 (by omega)
    obtain ⟨t, ht, rfl⟩ := ofI ok.2.1.1 ok.2.1.2 (by omega)
    simp only [if_pos ok, if_pos ok.1, if_pos ok.2.1, if_pos ok.2.2, rT_has hT (show f < 16 by omega) (show t < 16 by omega), rT_has hT (show t < 16 by omega) (show f < 16 by omega), has_c (P2 := P2) (show f < 16 by omega) (show t < 16 by omega), has_c (P2 := P2) (show t < 16 by omega) (show f < 16 by omega), bd1s, ifz]
    by_cases hh : 1 ≤ (P2 2 (f * 16 + t)).toInt
    · by_cases hk : 1 ≤ (P2 2 (t * 16 + f)).toInt
      · obtain ⟨a1, a2⟩ := rT_turned hT (show f < 16 by omega) (show t < 16 by omega) (x3.toInt64) hh
        obtain ⟨b1, b2⟩ := rT_turned hT (show t < 16 by omega) (show f < 16 by omega) (trn (P2 1 (f * 16 + t)) (P2 2 (f * 16 + t)) (P2 3 (f * 16 + t)) x3.toInt64) hk
        exact ⟨_, by rw [if_pos hh, if_pos hk, a1, bd1s, b1, bd1s], by rw [if_pos hh, if_pos hk, a2, bd1s, b2, bd1s]⟩
      · exact ⟨-1000000000002, by rw [if_pos hh, if_neg hk], by rw [if_pos hh, if_neg hk]⟩
    · exact ⟨-1000000000002, by rw [if_neg hh], by rw [if_neg hh]⟩
  · refine ⟨-1000000000000, ?_, by rw [if_neg ok]⟩
    (repeat' split) <;> first | rfl | (exfalso; omega)
