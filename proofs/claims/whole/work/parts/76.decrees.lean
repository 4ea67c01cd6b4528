/-! the items in force -/
def iOk (l a b c d : Int32) : Prop := (0 ≤ a.toInt ∧ a.toInt ≤ 15) ∧ (0 ≤ b.toInt ∧ b.toInt ≤ 15 ∧ (l = 104 → b.toInt ≤ 1)) ∧ (0 ≤ c.toInt ∧ c.toInt ≤ 9999) ∧ (0 ≤ d.toInt ∧ d.toInt ≤ 9999)
def rDecN (c : Nat) (P7 PR : PI) : Prop := c ≤ 33 ∧ P7 0 5 = nI c ∧ PR 14 1 = nI c ∧ ∀ j, j < c → P7 1 j = PR 15 (300 + 5 * j) ∧ P7 2 j = PR 15 (300 + 5 * j + 1) ∧ P7 3 j = PR 15 (300 + 5 * j + 2) ∧ P7 4 j = PR 15 (300 + 5 * j + 3) ∧ P7 5 j = PR 15 (300 + 5 * j + 4) ∧ iOk (P7 1 j) (P7 2 j) (P7 3 j) (P7 4 j) (P7 5 j)
def rDecrees (P7 PR : PI) : Prop := ∃ c : Nat, rDecN c P7 PR
def dU (P : PI) (s u d : Int32) (j : Nat) : Prop := P 1 j = s ∧ P 2 j = u ∧ P 3 j = d
def dOn (P : PI) (day : Int32) (j : Nat) : Prop := (P 4 j).toInt ≤ day.toInt ∧ day.toInt ≤ (P 5 j).toInt
theorem ix5 (k : Nat) : (300 : Int32) + (5 : Int32) * nI k = nI (300 + 5 * k) := by
  show nI 300 + nI 5 * nI k = _
  rw [pk_mul, nI_add]
section
variable (P : PI) (s u d day : Int32) (j : Nat)
theorem dU_dec : dU P s u d j ↔ (P 1 j = s ∧ P 2 j = u ∧ P 3 j = d) := Iff.rfl
end
def bU (P : PI) (s u d : Int32) (j : Nat) : Bool := decide (P 1 j = s ∧ P 2 j = u ∧ P 3 j = d)
def bOn (P : PI) (day : Int32) (j : Nat) : Bool := decide ((P 4 j).toInt ≤ day.toInt ∧ day.toInt ≤ (P 5 j).toInt)
def bR (P : PI) (u d day : Int32) (j : Nat) : Bool := (bU P 97 u d j || bU P 98 u d j) && bOn P day j
theorem ofUse_c {P : PI} {k : Nat} (hk : k < 33) (s u d : Int32) : f_Decrees_ofUse P (nI k) s u d = some (if bU P s u d k = true then 1 else 0) := by
  unfold f_Decrees_ofUse
  simp only [chkN hk (by decide), nI_clamp (show k < 2 ^ 31 by omega), bU, decide_eq_true_eq]
  (repeat' split) <;> first | rfl | (exfalso; simp_all; done)
theorem onDay_c {P : PI} {k : Nat} (hk : k < 33) (day : Int32) : f_Decrees_onDay P (nI k) day = some (if bOn P day k = true then 1 else 0) := by
  unfold f_Decrees_onDay
  simp only [chkN hk (by decide), nI_clamp (show k < 2 ^ 31 by omega), bOn, decide_eq_true_eq, Int32.lt_iff_toInt_lt]
  (repeat' split) <;> first | rfl | (exfalso; omega)
/-- the last of n places that has p, or dflt -/
def lst (p : Nat → Bool) (v : Nat → Int32) (z : Int32) : Nat → Int32
  | 0 => z
  | n + 1 => if p n then v n else lst p v z n
theorem lst_cong {p q : Nat → Bool} {v w : Nat → Int32} {z : Int32} : ∀ {n : Nat}, (∀ k, k < n → p k = q k ∧ v k = w k) → lst p v z n = lst q w z n
  | 0, _ => rfl
  | n + 1, h => by
    have h1 := h n (by omega)
    have h2 := lst_cong (p := p) (q := q) (v := v) (w := w) (z := z) (n := n) (fun k hk => h k (by omega))
    simp only [lst, h1.1, h1.2, h2]
theorem ruling_b {P : PI} {k : Nat} (hk : k < 33) (u d day : Int32) (self : Int32 → Option Int32) : f_Decrees_ruling_8_b P u d day self (nI k) = if bR P u d day k then some (nI k) else self (nI k + (-1)) := by
  unfold f_Decrees_ruling_8_b
  rw [if_neg (nI_pos (by omega))]
  simp only [ofUse_c hk, onDay_c hk, bd1s, jns, lets, ifz, bR]
  by_cases h1 : bU P 97 u d k = true <;> by_cases h2 : bU P 98 u d k = true <;> by_cases h3 : bOn P day k = true <;> simp [h1, h2, h3]
theorem ruling_l {P : PI} (u d day : Int32) : ∀ (i n : Nat), i ≤ 33 → i < n → f_Decrees_ruling_8 P u d day n (nI i + (-1)) = some (lst (bR P u d day) nI (-4) i) := by
  intro i
  induction i with
  | zero =>
    intro n _ hn
    obtain ⟨n, rfl⟩ : ∃ m, n = m + 1 := ⟨n - 1, by omega⟩
    show f_Decrees_ruling_8_b P u d day _ _ = _
    unfold f_Decrees_ruling_8_b
    rw [if_pos (by decide)]
    rfl
  | succ i ih =>
    intro n h33 hn
    obtain ⟨n, rfl⟩ : ∃ m, n = m + 1 := ⟨n - 1, by omega⟩
    show f_Decrees_ruling_8_b P u d day (f_Decrees_ruling_8 P u d day n) _ = _
    rw [pk_m1, ruling_b (by omega), ih n (by omega) (by omega)]
    simp only [lst]
    split <;> rfl
theorem fu_lt {k : Nat} (h : k < 1000000) : k < mb_fu := by unfold mb_fu; omega
theorem ruling_c {P : PI} {c : Nat} (hc : c ≤ 33) (h : P 0 5 = nI c) (u d day : Int32) : f_Decrees_ruling P u d day = some (lst (bR P u d day) nI (-4) c) := by
  unfold f_Decrees_ruling
  rw [lets, h, show nI c - (1 : Int32) = nI c + (-1) from Int32.sub_eq_add_neg _ _]
  exact ruling_l u d day c mb_fu hc (fu_lt (by omega))
/-- the same of the reference's row -/
def bRR (P : PI) (u d day : Int32) (j : Nat) : Bool := decide (((P 15 (300 + 5 * j) = 97 ∨ P 15 (300 + 5 * j) = 98) ∧ P 15 (300 + 5 * j + 1) = u ∧ P 15 (300 + 5 * j + 2) = d) ∧ (P 15 (300 + 5 * j + 3)).toInt ≤ day.toInt ∧ day.toInt ≤ (P 15 (300 + 5 * j + 4)).toInt)
theorem one2 {α : Type} (x : Option α) : mb_chk (1 : Int32) 2 x = x := chkN (k := 1) (by decide) (by decide) x
theorem cl1 : (1 : Int32).toNatClampNeg = 1 := by decide
theorem cl0 : (0 : Int32).toNatClampNeg = 0 := by decide
set_option maxHeartbeats 1000000 in
theorem whyOf_b {P : PI} {c k : Nat} (hc : c ≤ 33) (h : P 14 1 = nI c) (hk : k < c) (u d day : Int32) (self : Int32 → Int32 → Option Int32) (w : Int32) : f_Ref_whyOf_7_b P u d day self w (nI k) = self (if bRR P u d day k then nI k else w) (nI (k + 1)) := by
  unfold f_Ref_whyOf_7_b
  rw [one2, cl1, h, if_neg (nI_ge hk (by omega))]
  simp only [lets, ix5, nI_1, nI_2, nI_3, nI_4, chkN (show 300 + 5 * k < 600 by omega) (by decide), chkN (show 300 + 5 * k + 1 < 600 by omega) (by decide), chkN (show 300 + 5 * k + 2 < 600 by omega) (by decide), chkN (show 300 + 5 * k + 3 < 600 by omega) (by decide), chkN (show 300 + 5 * k + 4 < 600 by omega) (by decide), nI_clamp (show 300 + 5 * k < 2 ^ 31 by omega), nI_clamp (show 300 + 5 * k + 1 < 2 ^ 31 by omega), nI_clamp (show 300 + 5 * k + 2 < 2 ^ 31 by omega), nI_clamp (show 300 + 5 * k + 3 < 2 ^ 31 by omega), nI_clamp (show 300 + 5 * k + 4 < 2 ^ 31 by omega), in_c, bd1s, jns, ifz, tt, bRR, decide_eq_true_eq]
  (repeat' split) <;> first | rfl | (exfalso; simp_all; done)
theorem whyOf_l {P : PI} {c : Nat} (hc : c ≤ 33) (h : P 14 1 = nI c) (u d day : Int32) : ∀ (m k n : Nat), k + m = c → m < n → f_Ref_whyOf_7 P u d day n (lst (bRR P u d day) nI (-4) k) (nI k) = some (lst (bRR P u d day) nI (-4) c) := by
  intro m
  induction m with
  | zero =>
    intro k n e hn
    obtain ⟨n, rfl⟩ : ∃ m, n = m + 1 := ⟨n - 1, by omega⟩
    show f_Ref_whyOf_7_b P u d day _ _ _ = _
    unfold f_Ref_whyOf_7_b
    rw [one2, cl1, h, if_pos (nI_le (by omega) (by omega)), show k = c by omega]
  | succ m ih =>
    intro k n e hn
    obtain ⟨n, rfl⟩ : ∃ m, n = m + 1 := ⟨n - 1, by omega⟩
    show f_Ref_whyOf_7_b P u d day (f_Ref_whyOf_7 P u d day n) _ _ = _
    rw [whyOf_b hc h (by omega)]
    exact ih (k + 1) n (by omega) (by omega)
theorem whyOf_c {P : PI} {c : Nat} (hc : c ≤ 33) (h : P 14 1 = nI c) (u d day : Int32) : f_Ref_whyOf P u d day = some (lst (bRR P u d day) nI (-4) c) := by
  unfold f_Ref_whyOf
  rw [lets, lets]
  exact whyOf_l hc h u d day c 0 mb_fu (by omega) (fu_lt (by omega))
theorem bRR_eq {c : Nat} {P7 PR : PI} (h : rDecN c P7 PR) (u d day : Int32) : ∀ k, k < c → bR P7 u d day k = bRR PR u d day k ∧ nI k = nI k := by
  intro k hk
  obtain ⟨e1, e2, e3, e4, e5, -⟩ := h.2.2.2 k hk
  refine ⟨?_, rfl⟩
  unfold bR bU bOn bRR
  rw [← e1, ← e2, ← e3, ← e4, ← e5, Bool.eq_iff_iff]
  simp only [Bool.and_eq_true, Bool.or_eq_true, decide_eq_true_eq]
  constructor
  · rintro ⟨h1 | h1, h2⟩
    · exact ⟨⟨Or.inl h1.1, h1.2⟩, h2⟩
    · exact ⟨⟨Or.inr h1.1, h1.2⟩, h2⟩
  · rintro ⟨⟨h1 | h1, h3⟩, h2⟩
    · exact ⟨Or.inl ⟨h1, h3⟩, h2⟩
    · exact ⟨Or.inr ⟨h1, h3⟩, h2⟩
theorem why_eq {c : Nat} {P7 PR : PI} (h : rDecN c P7 PR) (u d day : Int32) : f_Ref_whyOf PR u d day = f_Decrees_ruling P7 u d day := by
  rw [whyOf_c h.1 h.2.2.1, ruling_c h.1 h.2.1, lst_cong (bRR_eq h u d day)]
theorem lst_in (p : Nat → Bool) : ∀ n, lst p nI (-4) n = -4 ∨ ∃ k, k < n ∧ lst p nI (-4) n = nI k
  | 0 => Or.inl rfl
  | n + 1 => by
    simp only [lst]
    by_cases e : p n = true
    · rw [if_pos e]
      exact Or.inr ⟨n, by omega, rfl⟩
    · rw [if_neg e]
      rcases lst_in p n with q | ⟨k, hk, q⟩
      · exact Or.inl q
      · exact Or.inr ⟨k, by omega, q⟩
theorem nI_n4 {a : Nat} (h : a < 2 ^ 31) : ¬ nI a = -4 := fun z => by
  have := congrArg Int32.toInt z
  rw [nI_toInt h] at this
  simp at this
theorem lets_ok {c : Nat} {P7 PR : PI} (h : rDecN c P7 PR) (u d day : Int32) : ∃ b : Bool, f_Decrees_lets P7 u d day = some (if b = true then 1 else 0) ∧ f_Ref_isLet PR u d day = some (if b = true then 1 else 0) := by
  unfold f_Decrees_lets f_Ref_isLet
  rw [why_eq h, ruling_c h.1 h.2.1]
  simp only [bd1s, lets]
  rcases lst_in (bR P7 u d day) c with q | ⟨k, hk, q⟩
  · rw [q]
    exact ⟨true, by rw [if_pos (by decide)]; rfl, by rw [if_pos rfl]; rfl⟩
  · have h33 := h.1
    simp only [q, if_neg (nI_pos (show k < 2 ^ 31 by omega)), if_neg (nI_n4 (show k < 2 ^ 31 by omega)), chkN (show k < 33 by omega) (by decide), ix5, chkN (show 300 + 5 * k < 600 by omega) (by decide), nI_clamp (show k < 2 ^ 31 by omega), nI_clamp (show 300 + 5 * k < 2 ^ 31 by omega), ← (h.2.2.2 k hk).1]
    refine ⟨decide (P7 1 k = 97), ?_, ?_⟩ <;> by_cases e : P7 1 k = 97 <;> simp [e]
theorem isAsk_c (x1 x2 x3 : Int32) : f_Ref_isAsked x1 x2 x3 = some (if (0 ≤ x1.toInt ∧ x1.toInt ≤ 15) ∧ (0 ≤ x2.toInt ∧ x2.toInt ≤ 5) ∧ 0 ≤ x3.toInt ∧ x3.toInt ≤ 9999 then 1 else 0) := by
  unfold f_Ref_isAsked
  simp only [in_c, bd1s, ifz, tt, Int64.reduceToInt]
  (repeat' split) <;> first | rfl | (exfalso; omega)
theorem st_let {P7 PR : PI} (h : rDecrees P7 PR) (x1 x2 x3 : Int32) : ∃ r : Int32, f_One_let P7 x1 x2 x3 = some r ∧ f_Ref_let PR x1 x2 x3 = some r := by
  obtain ⟨c, h⟩ := h
  obtain ⟨b, e1, e2⟩ := lets_ok h x1 x2 x3
  unfold f_One_let f_Ref_let
  rw [e1, e2]
  simp only [unum_c, dist_c, day_c, isAsk_c, bd1s, ifz]
  by_cases ok : (0 ≤ x1.toInt ∧ x1.toInt ≤ 15) ∧ (0 ≤ x2.toInt ∧ x2.toInt ≤ 5) ∧ 0 ≤ x3.toInt ∧ x3.toInt ≤ 9999
  · simp only [if_pos ok, if_pos ok.1, if_pos ok.2.1, if_pos ok.2.2]
    cases b
    · exact ⟨0, rfl, rfl⟩
    · exact ⟨1, rfl, rfl⟩
  · refine ⟨-1, ?_, by rw [if_neg ok]⟩
    (repeat' split) <;> first | rfl | (exfalso; omega)
theorem st_why {P7 PR : PI} (h : rDecrees P7 PR) (x1 x2 x3 : Int32) : ∃ r : Int32, f_One_why P7 x1 x2 x3 = some r ∧ f_Ref_why PR x1 x2 x3 = some r := by
  obtain ⟨c, h⟩ := h
  unfold f_One_why f_Ref_why
  rw [why_eq h, ruling_c h.1 h.2.1]
  simp only [unum_c, dist_c, day_c, isAsk_c, bd1s, ifz]
  by_cases ok : (0 ≤ x1.toInt ∧ x1.toInt ≤ 15) ∧ (0 ≤ x2.toInt ∧ x2.toInt ≤ 5) ∧ 0 ≤ x3.toInt ∧ x3.toInt ≤ 9999
  · simp only [if_pos ok, if_pos ok.1, if_pos ok.2.1, if_pos ok.2.2]
    exact ⟨_, rfl, rfl⟩
  · refine ⟨-1, ?_, by rw [if_neg ok]⟩
    (repeat' split) <;> first | rfl | (exfalso; omega)
