/-! what a word means -/
theorem bz (y : Int32) : (y &&& 1) = 0 ↔ bt y 0 = false := by
  constructor
  · intro h
    have := congrArg (fun z => bt z 0) h
    simp only [b_and, b_0] at this
    rw [show bt 1 0 = true by decide] at this
    simpa using this
  · intro h
    rcases bit1 y with e | e
    · exact e
    · have := congrArg (fun z => bt z 0) e
      simp only [b_and] at this
      rw [h, show bt 1 0 = true by decide] at this
      simp at this
theorem bs {n : Nat} (hn : n < 32) (x : Int32) : ((x >>> (nI n &&& 31)) &&& 1) = 0 ↔ bt x n = false := by
  rw [bz, b_sshr n hn x (by decide), Nat.add_zero, if_pos hn]
theorem bt1 : ∀ j, j < 32 → bt 1 j = decide (j = 0) := by decide +kernel
theorem bothers {t u : Nat} (ht : t < 32) (hu : u < 32) (x : Int32) : (((x &&& (((1 : Int32) <<< (nI t &&& 31)) ^^^ (-1))) >>> (nI u &&& 31)) &&& 1) = 0 ↔ (((x >>> (nI u &&& 31)) &&& 1) = 0 ∨ u = t) := by
  rw [bs hu, bs hu, b_and, b_xor, b_shl t ht 1 hu, b_m1 u hu]
  by_cases e : u = t
  · subst e
    simp [bt1 0 (by decide)]
  · by_cases l : t ≤ u
    · rw [bt1 (u - t) (by omega), decide_eq_true l, decide_eq_false (by omega)]
      simp [e]
    · rw [decide_eq_false l]
      simp [e]
def bW (P : PI) (w d day : Int32) (j : Nat) : Bool := decide (P 1 j = 110 ∧ P 2 j = w ∧ P 4 j = d ∧ (P 5 j).toInt ≤ day.toInt)
def bWR (P : PI) (w d day : Int32) (j : Nat) : Bool := decide (P 15 (300 + 5 * j) = 110 ∧ P 15 (300 + 5 * j + 1) = w ∧ P 15 (300 + 5 * j + 3) = d ∧ (P 15 (300 + 5 * j + 4)).toInt ≤ day.toInt)
theorem bWR_eq {c : Nat} {P7 PR : PI} (h : rDecN c P7 PR) (w d day : Int32) {k : Nat} (hk : k < c) : bWR PR w d day k = bW P7 w d day k := by
  obtain ⟨e1, e2, e3, e4, e5, -⟩ := h.2.2.2 k hk
  unfold bWR bW
  rw [← e1, ← e2, ← e4, ← e5]
theorem ofWord_c {P : PI} {k : Nat} (hk : k < 33) (w d day : Int32) : f_Decrees_ofWord P (nI k) w d day = some (if bW P w d day k = true then 1 else 0) := by
  unfold f_Decrees_ofWord
  simp only [chkN hk (by decide), nI_clamp (show k < 2 ^ 31 by omega), bW, decide_eq_true_eq, Int32.lt_iff_toInt_lt]
  by_cases a1 : P 1 k = 110 <;> by_cases a2 : P 2 k = w <;> by_cases a3 : P 4 k = d <;> by_cases a4 : (P 5 k).toInt ≤ day.toInt <;> simp [a1, a2, a3, a4] <;> omega
/-- the set of the first n items' units -/
def mng (P : PI) (w d day : Int32) : Nat → Int32
  | 0 => 0
  | n + 1 => if bW P w d day n = true then mng P w d day n ||| ((1 : Int32) <<< (P 3 n &&& 31)) else mng P w d day n
theorem mn_l {P : PI} {c : Nat} (hc : c ≤ 33) (h : P 0 5 = nI c) (w d day : Int32) : ∀ (r k n : Nat), k + r = c → r < n → f_Decrees_meanings_6 P w d day n (mng P w d day k) (nI k) = some (mng P w d day c) := by
  intro r
  induction r with
  | zero =>
    intro k n e hn
    obtain ⟨n, rfl⟩ : ∃ m, n = m + 1 := ⟨n - 1, by omega⟩
    have ek : k = c := by omega
    subst ek
    show f_Decrees_meanings_6_b _ _ _ _ _ _ _ = _
    unfold f_Decrees_meanings_6_b
    rw [h, if_pos (nI_le (Nat.le_refl _) (by omega))]
  | succ r ih =>
    intro k n e hn
    obtain ⟨n, rfl⟩ : ∃ m, n = m + 1 := ⟨n - 1, by omega⟩
    have i1 := ih (k + 1) n (by omega) (by omega)
    show f_Decrees_meanings_6_b _ _ _ _ (f_Decrees_meanings_6 P w d day n) _ _ = _
    unfold f_Decrees_meanings_6_b
    rw [h, if_neg (nI_ge (by omega) (by omega)), ofWord_c (by omega), bd1s, ifz, chkN (by omega) (by decide), nI_clamp (by omega), letsN, letsN, letsN, nI_1]
    rw [mng] at i1
    by_cases hb : bW P w d day k = true
    · rw [if_pos hb] at i1 ⊢
      exact i1
    · rw [if_neg hb] at i1 ⊢
      exact i1
theorem mn_c {P : PI} {c : Nat} (hc : c ≤ 33) (h : P 0 5 = nI c) (w d day : Int32) : f_Decrees_meanings P w d day = some (mng P w d day c) := by
  unfold f_Decrees_meanings
  rw [letsN, letsN]
  have := mn_l hc h w d day c 0 mb_fu (by omega) (fu_lt (by omega))
  rw [nI_0, mng] at this
  exact this
set_option maxHeartbeats 1000000 in
theorem mnR_l {c : Nat} {P7 PR : PI} (h : rDecN c P7 PR) (w d day : Int32) : ∀ (r k n : Nat), k + r = c → r < n → f_Ref_meaning_6 PR w d day n (mng P7 w d day k) (nI k) = some (mng P7 w d day c) := by
  have hc := h.1
  intro r
  induction r with
  | zero =>
    intro k n e hn
    obtain ⟨n, rfl⟩ : ∃ m, n = m + 1 := ⟨n - 1, by omega⟩
    have ek : k = c := by omega
    subst ek
    show f_Ref_meaning_6_b _ _ _ _ _ _ _ = _
    unfold f_Ref_meaning_6_b
    rw [one2, cl1, h.2.2.1, if_pos (nI_le (Nat.le_refl _) (by omega))]
  | succ r ih =>
    intro k n e hn
    obtain ⟨n, rfl⟩ : ∃ m, n = m + 1 := ⟨n - 1, by omega⟩
    have i1 := ih (k + 1) n (by omega) (by omega)
    have e3 := (h.2.2.2 k (by omega)).2.2.1
    show f_Ref_meaning_6_b _ _ _ _ (f_Ref_meaning_6 PR w d day n) _ _ = _
    unfold f_Ref_meaning_6_b
    rw [one2, cl1, h.2.2.1, if_neg (nI_ge (by omega) (by omega))]
    simp only [letsN, jnsN, ix5, nI_1, nI_2, nI_3, nI_4, chkN (show 300 + 5 * k < 600 by omega) (by decide), chkN (show 300 + 5 * k + 1 < 600 by omega) (by decide), chkN (show 300 + 5 * k + 2 < 600 by omega) (by decide), chkN (show 300 + 5 * k + 3 < 600 by omega) (by decide), chkN (show 300 + 5 * k + 4 < 600 by omega) (by decide), nI_clamp (show 300 + 5 * k < 2 ^ 31 by omega), nI_clamp (show 300 + 5 * k + 1 < 2 ^ 31 by omega), nI_clamp (show 300 + 5 * k + 2 < 2 ^ 31 by omega), nI_clamp (show 300 + 5 * k + 3 < 2 ^ 31 by omega), nI_clamp (show 300 + 5 * k + 4 < 2 ^ 31 by omega), Int32.lt_iff_toInt_lt, ← e3, Int32.or_zero, if_pos (show (0 : Int32) = 0 from rfl), if_neg (show ¬ (1 : Int32) = 0 by decide)]
    rw [mng, ← bWR_eq h w d day (show k < c by omega)] at i1
    by_cases hb : bWR PR w d day k = true
    · rw [if_pos hb] at i1
      unfold bWR at hb
      rw [decide_eq_true_eq] at hb
      rw [if_pos hb.1, if_pos hb.2.1, if_pos hb.2.2.1, if_neg (by omega)]
      exact i1
    · rw [if_neg hb] at i1
      rw [Bool.not_eq_true] at hb
      unfold bWR at hb
      rw [decide_eq_false_iff_not] at hb
      by_cases a1 : PR 15 (300 + 5 * k) = 110
      · rw [if_pos a1]
        by_cases a2 : PR 15 (300 + 5 * k + 1) = w
        · rw [if_pos a2]
          by_cases a3 : PR 15 (300 + 5 * k + 3) = d
          · rw [if_pos a3, if_pos (by
              rcases Int.lt_or_le day.toInt (PR 15 (300 + 5 * k + 4)).toInt with q | q
              · exact q
              · exact absurd ⟨a1, a2, a3, q⟩ hb)]
            exact i1
          · rw [if_neg a3]; exact i1
        · rw [if_neg a2]; exact i1
      · rw [if_neg a1]; exact i1
theorem mnR_c {c : Nat} {P7 PR : PI} (h : rDecN c P7 PR) (w d day : Int32) : f_Ref_meaning PR w d day = some (mng P7 w d day c) := by
  unfold f_Ref_meaning
  rw [letsN, letsN]
  have := mnR_l h w d day c 0 mb_fu (by omega) (fu_lt (by have := h.1; omega))
  rw [nI_0, mng] at this
  exact this
