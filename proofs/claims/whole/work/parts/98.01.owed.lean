/-! what is owed by a paper -/
def bH (P : PI) (d day : Int32) (j : Nat) : Bool := decide (P 1 j = 104 ∧ P 2 j = d) && bOn P day j
def bHR (P : PI) (d day : Int32) (j : Nat) : Bool := decide (P 15 (300 + 5 * j) = 104 ∧ P 15 (300 + 5 * j + 1) = d ∧ (P 15 (300 + 5 * j + 3)).toInt ≤ day.toInt ∧ day.toInt ≤ (P 15 (300 + 5 * j + 4)).toInt)
theorem hp_l {P : PI} (d day : Int32) : ∀ (i n : Nat), i ≤ 33 → i < n → f_Decrees_heaping_7 P d day (fun (x3_2 : Int32) => mb_chk x3_2 33 (some (P 3 x3_2.toNatClampNeg))) n (nI i + (-1)) = some (lst (bH P d day) (P 3) (-1) i) := by
  intro i
  induction i with
  | zero =>
    intro n _ hn
    obtain ⟨n, rfl⟩ : ∃ m, n = m + 1 := ⟨n - 1, by omega⟩
    show f_Decrees_heaping_7_b P d day _ _ _ = _
    unfold f_Decrees_heaping_7_b
    rw [if_pos (by decide)]
    rfl
  | succ i ih =>
    intro n h33 hn
    obtain ⟨n, rfl⟩ : ∃ m, n = m + 1 := ⟨n - 1, by omega⟩
    have i1 := ih n (by omega) (by omega)
    show f_Decrees_heaping_7_b P d day _ (f_Decrees_heaping_7 P d day _ n) _ = _
    unfold f_Decrees_heaping_7_b
    rw [pk_m1, if_neg (nI_pos (by omega)), chkN (by omega) (by decide), chkN (by omega) (by decide), nI_clamp (by omega), onDay_c (by omega), bd1s, ifz, letsN, i1]
    have kx : mb_chk (nI i) 33 (some (P 3 (nI i).toNatClampNeg)) = some (P 3 i) := by rw [chkN (by omega) (by decide), nI_clamp (by omega)]
    simp only [kx, lst]
    by_cases hb : bH P d day i = true
    · rw [if_pos hb]
      unfold bH at hb
      rw [Bool.and_eq_true, decide_eq_true_eq] at hb
      rw [if_pos hb.1.1, if_pos hb.1.2, if_pos hb.2]
    · rw [if_neg hb]
      rw [Bool.not_eq_true] at hb
      unfold bH at hb
      rw [Bool.and_eq_false_iff, decide_eq_false_iff_not] at hb
      by_cases a1 : P 1 i = 104
      · rw [if_pos a1]
        by_cases a2 : P 2 i = d
        · rw [if_pos a2]
          rcases hb with z | z
          · exact absurd ⟨a1, a2⟩ z
          · rw [if_neg (by rw [z]; decide)]
        · rw [if_neg a2]
      · rw [if_neg a1]
theorem hp_c {P : PI} {c : Nat} (hc : c ≤ 33) (h : P 0 5 = nI c) (d day : Int32) : f_Decrees_heaping P d day = some (lst (bH P d day) (P 3) (-1) c) := by
  unfold f_Decrees_heaping
  rw [letsN, jnsN, h, show nI c - (1 : Int32) = nI c + (-1) from Int32.sub_eq_add_neg _ _]
  exact hp_l d day c mb_fu hc (fu_lt (by omega))
theorem bHR_eq {c : Nat} {P7 PR : PI} (h : rDecN c P7 PR) (d day : Int32) {k : Nat} (hk : k < c) : bHR PR d day k = bH P7 d day k := by
  obtain ⟨e1, e2, e3, e4, e5, -⟩ := h.2.2.2 k hk
  unfold bHR bH bOn
  rw [← e1, ← e2, ← e4, ← e5, Bool.eq_iff_iff]
  simp only [Bool.and_eq_true, decide_eq_true_eq]
  constructor
  · rintro ⟨a, b, c, d⟩; exact ⟨⟨a, b⟩, c, d⟩
  · rintro ⟨⟨a, b⟩, c, d⟩; exact ⟨a, b, c, d⟩
/-- the class's -1 is the reference's -4 -/
def hR (x y : Int32) : Prop := (x = -1 ∧ y = -4) ∨ (x = y ∧ (x = 0 ∨ x = 1))
theorem hR_lst {c : Nat} {P7 PR : PI} (h : rDecN c P7 PR) (d day : Int32) : ∀ k, k ≤ c → hR (lst (bH P7 d day) (P7 3) (-1) k) (lst (bH P7 d day) (P7 3) (-4) k)
  | 0, _ => Or.inl ⟨rfl, rfl⟩
  | k + 1, hk => by
    simp only [lst]
    by_cases e : bH P7 d day k = true
    · rw [if_pos e, if_pos e]
      refine Or.inr ⟨rfl, ?_⟩
      obtain ⟨-, -, -, -, -, eo⟩ := h.2.2.2 k (by omega)
      unfold bH at e
      rw [Bool.and_eq_true, decide_eq_true_eq] at e
      have b1 := eo.2.1.2.2 e.1.1
      obtain ⟨t, ht, et⟩ := ofI (n := 2) eo.2.1.1 (by omega) (by decide)
      rw [et]
      rcases (show t = 0 ∨ t = 1 by omega) with rfl | rfl
      · exact Or.inl rfl
      · exact Or.inr rfl
    · rw [if_neg e, if_neg e]
      exact hR_lst h d day k (by omega)
